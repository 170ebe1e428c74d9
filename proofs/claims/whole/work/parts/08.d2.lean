theorem d_M_init_0 : decode b_M_init 0 = .ok (.aload_n 0, 1) := by decide +kernel
theorem d_M_init_1 : decode b_M_init 1 = .ok (.invokespecial 1, 3) := by decide +kernel
theorem d_M_init_4 : decode b_M_init 4 = .ok (.aload_n 0, 1) := by decide +kernel
theorem d_M_init_5 : decode b_M_init 5 = .ok (.ldc 7, 2) := by decide +kernel
theorem d_M_init_7 : decode b_M_init 7 = .ok (.newarray .int, 2) := by decide +kernel
theorem d_M_init_9 : decode b_M_init 9 = .ok (.putfield 8, 3) := by decide +kernel
theorem d_M_init_12 : decode b_M_init 12 = .ok (.aload_n 0, 1) := by decide +kernel
theorem d_M_init_13 : decode b_M_init 13 = .ok (.ldc 7, 2) := by decide +kernel
theorem d_M_init_15 : decode b_M_init 15 = .ok (.newarray .int, 2) := by decide +kernel
theorem d_M_init_17 : decode b_M_init 17 = .ok (.putfield 14, 3) := by decide +kernel
theorem d_M_init_20 : decode b_M_init 20 = .ok (.aload_n 0, 1) := by decide +kernel
theorem d_M_init_21 : decode b_M_init 21 = .ok (.iconst 4, 1) := by decide +kernel
theorem d_M_init_22 : decode b_M_init 22 = .ok (.newarray .int, 2) := by decide +kernel
theorem d_M_init_24 : decode b_M_init 24 = .ok (.putfield 17, 3) := by decide +kernel
theorem d_M_init_27 : decode b_M_init 27 = .ok (.aload_n 0, 1) := by decide +kernel
theorem d_M_init_28 : decode b_M_init 28 = .ok (.bipush 24, 2) := by decide +kernel
theorem d_M_init_30 : decode b_M_init 30 = .ok (.newarray .int, 2) := by decide +kernel
theorem d_M_init_32 : decode b_M_init 32 = .ok (.putfield 20, 3) := by decide +kernel
theorem d_M_init_35 : decode b_M_init 35 = .ok (.aload_n 0, 1) := by decide +kernel
theorem d_M_init_36 : decode b_M_init 36 = .ok (.bipush 24, 2) := by decide +kernel
theorem d_M_init_38 : decode b_M_init 38 = .ok (.newarray .int, 2) := by decide +kernel
theorem d_M_init_40 : decode b_M_init 40 = .ok (.putfield 23, 3) := by decide +kernel
theorem d_M_init_43 : decode b_M_init 43 = .ok (.aload_n 0, 1) := by decide +kernel
theorem d_M_init_44 : decode b_M_init 44 = .ok (.iconst 1, 1) := by decide +kernel
theorem d_M_init_45 : decode b_M_init 45 = .ok (.putfield 26, 3) := by decide +kernel
theorem d_M_init_48 : decode b_M_init 48 = .ok (.aload_n 0, 1) := by decide +kernel
theorem d_M_init_49 : decode b_M_init 49 = .ok (.iconst 4, 1) := by decide +kernel
theorem d_M_init_50 : decode b_M_init 50 = .ok (.newarray .boolean, 2) := by decide +kernel
theorem d_M_init_52 : decode b_M_init 52 = .ok (.putfield 30, 3) := by decide +kernel
theorem d_M_init_55 : decode b_M_init 55 = .ok (.aload_n 0, 1) := by decide +kernel
theorem d_M_init_56 : decode b_M_init 56 = .ok (.iconst 4, 1) := by decide +kernel
theorem d_M_init_57 : decode b_M_init 57 = .ok (.newarray .int, 2) := by decide +kernel
theorem d_M_init_59 : decode b_M_init 59 = .ok (.putfield 34, 3) := by decide +kernel
theorem d_M_init_62 : decode b_M_init 62 = .ok (.aload_n 0, 1) := by decide +kernel
theorem d_M_init_63 : decode b_M_init 63 = .ok (.iconst 4, 1) := by decide +kernel
theorem d_M_init_64 : decode b_M_init 64 = .ok (.newarray .int, 2) := by decide +kernel
theorem d_M_init_66 : decode b_M_init 66 = .ok (.putfield 37, 3) := by decide +kernel
theorem d_M_init_69 : decode b_M_init 69 = .ok (.aload_n 0, 1) := by decide +kernel
theorem d_M_init_70 : decode b_M_init 70 = .ok (.sipush 16384, 3) := by decide +kernel
theorem d_M_init_73 : decode b_M_init 73 = .ok (.newarray .int, 2) := by decide +kernel
theorem d_M_init_75 : decode b_M_init 75 = .ok (.putfield 40, 3) := by decide +kernel
theorem d_M_init_78 : decode b_M_init 78 = .ok (.aload_n 0, 1) := by decide +kernel
theorem d_M_init_79 : decode b_M_init 79 = .ok (.sipush 16384, 3) := by decide +kernel
theorem d_M_init_82 : decode b_M_init 82 = .ok (.newarray .int, 2) := by decide +kernel
theorem d_M_init_84 : decode b_M_init 84 = .ok (.putfield 43, 3) := by decide +kernel
theorem d_M_init_87 : decode b_M_init 87 = .ok (.aload_n 0, 1) := by decide +kernel
theorem d_M_init_88 : decode b_M_init 88 = .ok (.sipush 16384, 3) := by decide +kernel
theorem d_M_init_91 : decode b_M_init 91 = .ok (.newarray .int, 2) := by decide +kernel
theorem d_M_init_93 : decode b_M_init 93 = .ok (.putfield 46, 3) := by decide +kernel
theorem d_M_init_96 : decode b_M_init 96 = .ok (.aload_n 0, 1) := by decide +kernel
theorem d_M_init_97 : decode b_M_init 97 = .ok (.sipush 16384, 3) := by decide +kernel
theorem d_M_init_100 : decode b_M_init 100 = .ok (.newarray .int, 2) := by decide +kernel
theorem d_M_init_102 : decode b_M_init 102 = .ok (.putfield 49, 3) := by decide +kernel
theorem d_M_init_105 : decode b_M_init 105 = .ok (.aload_n 0, 1) := by decide +kernel
theorem d_M_init_106 : decode b_M_init 106 = .ok (.iconst 4, 1) := by decide +kernel
theorem d_M_init_107 : decode b_M_init 107 = .ok (.newarray .int, 2) := by decide +kernel
theorem d_M_init_109 : decode b_M_init 109 = .ok (.putfield 52, 3) := by decide +kernel
theorem d_M_init_112 : decode b_M_init 112 = .ok (.aload_n 0, 1) := by decide +kernel
theorem d_M_init_113 : decode b_M_init 113 = .ok (.sipush 16384, 3) := by decide +kernel
theorem d_M_init_116 : decode b_M_init 116 = .ok (.newarray .boolean, 2) := by decide +kernel
theorem d_M_init_118 : decode b_M_init 118 = .ok (.putfield 55, 3) := by decide +kernel
theorem d_M_init_121 : decode b_M_init 121 = .ok (.aload_n 0, 1) := by decide +kernel
theorem d_M_init_122 : decode b_M_init 122 = .ok (.bipush 32, 2) := by decide +kernel
theorem d_M_init_124 : decode b_M_init 124 = .ok (.putfield 58, 3) := by decide +kernel
theorem d_M_init_127 : decode b_M_init 127 = .ok (.aload_n 0, 1) := by decide +kernel
theorem d_M_init_128 : decode b_M_init 128 = .ok (.bipush 32, 2) := by decide +kernel
theorem d_M_init_130 : decode b_M_init 130 = .ok (.putfield 61, 3) := by decide +kernel
theorem d_M_init_133 : decode b_M_init 133 = .ok (.aload_n 0, 1) := by decide +kernel
theorem d_M_init_134 : decode b_M_init 134 = .ok (.bipush 6, 2) := by decide +kernel
theorem d_M_init_136 : decode b_M_init 136 = .ok (.newarray .int, 2) := by decide +kernel
theorem d_M_init_138 : decode b_M_init 138 = .ok (.putfield 64, 3) := by decide +kernel
theorem d_M_init_141 : decode b_M_init 141 = .ok (.aload_n 0, 1) := by decide +kernel
theorem d_M_init_142 : decode b_M_init 142 = .ok (.bipush 6, 2) := by decide +kernel
theorem d_M_init_144 : decode b_M_init 144 = .ok (.newarray .int, 2) := by decide +kernel
theorem d_M_init_146 : decode b_M_init 146 = .ok (.putfield 67, 3) := by decide +kernel
theorem d_M_init_149 : decode b_M_init 149 = .ok (.aload_n 0, 1) := by decide +kernel
theorem d_M_init_150 : decode b_M_init 150 = .ok (.bipush 8, 2) := by decide +kernel
theorem d_M_init_152 : decode b_M_init 152 = .ok (.newarray .int, 2) := by decide +kernel
theorem d_M_init_154 : decode b_M_init 154 = .ok (.putfield 70, 3) := by decide +kernel
theorem d_M_init_157 : decode b_M_init 157 = .ok (.aload_n 0, 1) := by decide +kernel
theorem d_M_init_158 : decode b_M_init 158 = .ok (.bipush 8, 2) := by decide +kernel
theorem d_M_init_160 : decode b_M_init 160 = .ok (.newarray .int, 2) := by decide +kernel
theorem d_M_init_162 : decode b_M_init 162 = .ok (.putfield 73, 3) := by decide +kernel
theorem d_M_init_165 : decode b_M_init 165 = .ok (.aload_n 0, 1) := by decide +kernel
theorem d_M_init_166 : decode b_M_init 166 = .ok (.bipush 26, 2) := by decide +kernel
theorem d_M_init_168 : decode b_M_init 168 = .ok (.newarray .int, 2) := by decide +kernel
theorem d_M_init_170 : decode b_M_init 170 = .ok (.putfield 76, 3) := by decide +kernel
theorem d_M_init_173 : decode b_M_init 173 = .ok (.aload_n 0, 1) := by decide +kernel
theorem d_M_init_174 : decode b_M_init 174 = .ok (.bipush 26, 2) := by decide +kernel
theorem d_M_init_176 : decode b_M_init 176 = .ok (.newarray .int, 2) := by decide +kernel
theorem d_M_init_178 : decode b_M_init 178 = .ok (.putfield 79, 3) := by decide +kernel
theorem d_M_init_181 : decode b_M_init 181 = .ok (.aload_n 0, 1) := by decide +kernel
theorem d_M_init_182 : decode b_M_init 182 = .ok (.ldc 82, 2) := by decide +kernel
theorem d_M_init_184 : decode b_M_init 184 = .ok (.newarray .int, 2) := by decide +kernel
theorem d_M_init_186 : decode b_M_init 186 = .ok (.putfield 83, 3) := by decide +kernel
theorem d_M_init_189 : decode b_M_init 189 = .ok (.aload_n 0, 1) := by decide +kernel
theorem d_M_init_190 : decode b_M_init 190 = .ok (.sipush 4096, 3) := by decide +kernel
theorem d_M_init_193 : decode b_M_init 193 = .ok (.newarray .int, 2) := by decide +kernel
theorem d_M_init_195 : decode b_M_init 195 = .ok (.putfield 86, 3) := by decide +kernel
theorem d_M_init_198 : decode b_M_init 198 = .ok (.iconst 0, 1) := by decide +kernel
theorem d_M_init_199 : decode b_M_init 199 = .ok (.istore_n 1, 1) := by decide +kernel
theorem d_M_init_200 : decode b_M_init 200 = .ok (.iload_n 1, 1) := by decide +kernel
theorem d_M_init_201 : decode b_M_init 201 = .ok (.ldc 7, 2) := by decide +kernel
theorem d_M_init_203 : decode b_M_init 203 = .ok (.if_icmp .ge 24, 3) := by decide +kernel
theorem d_M_init_206 : decode b_M_init 206 = .ok (.aload_n 0, 1) := by decide +kernel
theorem d_M_init_207 : decode b_M_init 207 = .ok (.getfield 8, 3) := by decide +kernel
theorem d_M_init_210 : decode b_M_init 210 = .ok (.iload_n 1, 1) := by decide +kernel
theorem d_M_init_211 : decode b_M_init 211 = .ok (.ldc 89, 2) := by decide +kernel
theorem d_M_init_213 : decode b_M_init 213 = .ok (.iastore, 1) := by decide +kernel
theorem d_M_init_214 : decode b_M_init 214 = .ok (.aload_n 0, 1) := by decide +kernel
theorem d_M_init_215 : decode b_M_init 215 = .ok (.getfield 14, 3) := by decide +kernel
theorem d_M_init_218 : decode b_M_init 218 = .ok (.iload_n 1, 1) := by decide +kernel
theorem d_M_init_219 : decode b_M_init 219 = .ok (.iconst (-1), 1) := by decide +kernel
theorem d_M_init_220 : decode b_M_init 220 = .ok (.iastore, 1) := by decide +kernel
theorem d_M_init_221 : decode b_M_init 221 = .ok (.iinc 1 1, 3) := by decide +kernel
theorem d_M_init_224 : decode b_M_init 224 = .ok (.goto (-24), 3) := by decide +kernel
theorem d_M_init_227 : decode b_M_init 227 = .ok (.iconst 0, 1) := by decide +kernel
theorem d_M_init_228 : decode b_M_init 228 = .ok (.istore_n 1, 1) := by decide +kernel
theorem d_M_init_229 : decode b_M_init 229 = .ok (.iload_n 1, 1) := by decide +kernel
theorem d_M_init_230 : decode b_M_init 230 = .ok (.iconst 4, 1) := by decide +kernel
theorem d_M_init_231 : decode b_M_init 231 = .ok (.if_icmp .ge 16, 3) := by decide +kernel
theorem d_M_init_234 : decode b_M_init 234 = .ok (.aload_n 0, 1) := by decide +kernel
theorem d_M_init_235 : decode b_M_init 235 = .ok (.getfield 37, 3) := by decide +kernel
theorem d_M_init_238 : decode b_M_init 238 = .ok (.iload_n 1, 1) := by decide +kernel
theorem d_M_init_239 : decode b_M_init 239 = .ok (.iconst (-1), 1) := by decide +kernel
theorem d_M_init_240 : decode b_M_init 240 = .ok (.iastore, 1) := by decide +kernel
theorem d_M_init_241 : decode b_M_init 241 = .ok (.iinc 1 1, 3) := by decide +kernel
theorem d_M_init_244 : decode b_M_init 244 = .ok (.goto (-15), 3) := by decide +kernel
theorem d_M_init_247 : decode b_M_init 247 = .ok (.iconst 0, 1) := by decide +kernel
theorem d_M_init_248 : decode b_M_init 248 = .ok (.istore_n 1, 1) := by decide +kernel
theorem d_M_init_249 : decode b_M_init 249 = .ok (.iload_n 1, 1) := by decide +kernel
theorem d_M_init_250 : decode b_M_init 250 = .ok (.bipush 8, 2) := by decide +kernel
theorem d_M_init_252 : decode b_M_init 252 = .ok (.if_icmp .ge 25, 3) := by decide +kernel
theorem d_M_init_255 : decode b_M_init 255 = .ok (.aload_n 0, 1) := by decide +kernel
theorem d_M_init_256 : decode b_M_init 256 = .ok (.getfield 70, 3) := by decide +kernel
theorem d_M_init_259 : decode b_M_init 259 = .ok (.iload_n 1, 1) := by decide +kernel
theorem d_M_init_260 : decode b_M_init 260 = .ok (.ldc 89, 2) := by decide +kernel
theorem d_M_init_262 : decode b_M_init 262 = .ok (.iastore, 1) := by decide +kernel
theorem d_M_init_263 : decode b_M_init 263 = .ok (.aload_n 0, 1) := by decide +kernel
theorem d_M_init_264 : decode b_M_init 264 = .ok (.getfield 73, 3) := by decide +kernel
theorem d_M_init_267 : decode b_M_init 267 = .ok (.iload_n 1, 1) := by decide +kernel
theorem d_M_init_268 : decode b_M_init 268 = .ok (.ldc 89, 2) := by decide +kernel
theorem d_M_init_270 : decode b_M_init 270 = .ok (.iastore, 1) := by decide +kernel
theorem d_M_init_271 : decode b_M_init 271 = .ok (.iinc 1 1, 3) := by decide +kernel
theorem d_M_init_274 : decode b_M_init 274 = .ok (.goto (-25), 3) := by decide +kernel
theorem d_M_init_277 : decode b_M_init 277 = .ok (.aload_n 0, 1) := by decide +kernel
theorem d_M_init_278 : decode b_M_init 278 = .ok (.getfield 20, 3) := by decide +kernel
theorem d_M_init_281 : decode b_M_init 281 = .ok (.iconst 0, 1) := by decide +kernel
theorem d_M_init_282 : decode b_M_init 282 = .ok (.iconst (-1), 1) := by decide +kernel
theorem d_M_init_283 : decode b_M_init 283 = .ok (.iastore, 1) := by decide +kernel
theorem d_M_init_284 : decode b_M_init 284 = .ok (.aload_n 0, 1) := by decide +kernel
theorem d_M_init_285 : decode b_M_init 285 = .ok (.getfield 23, 3) := by decide +kernel
theorem d_M_init_288 : decode b_M_init 288 = .ok (.iconst 0, 1) := by decide +kernel
theorem d_M_init_289 : decode b_M_init 289 = .ok (.iconst (-1), 1) := by decide +kernel
theorem d_M_init_290 : decode b_M_init 290 = .ok (.iastore, 1) := by decide +kernel
theorem d_M_init_291 : decode b_M_init 291 = .ok (.aload_n 0, 1) := by decide +kernel
theorem d_M_init_292 : decode b_M_init 292 = .ok (.getfield 30, 3) := by decide +kernel
theorem d_M_init_295 : decode b_M_init 295 = .ok (.iconst 0, 1) := by decide +kernel
theorem d_M_init_296 : decode b_M_init 296 = .ok (.iconst 1, 1) := by decide +kernel
theorem d_M_init_297 : decode b_M_init 297 = .ok (.bastore, 1) := by decide +kernel
theorem d_M_init_298 : decode b_M_init 298 = .ok (.return_, 1) := by decide +kernel
theorem d_M_thrown_0 : decode b_M_thrown 0 = .ok (.aload_n 0, 1) := by decide +kernel
theorem d_M_thrown_1 : decode b_M_thrown 1 = .ok (.getfield 90, 3) := by decide +kernel
theorem d_M_thrown_4 : decode b_M_thrown 4 = .ok (.ireturn, 1) := by decide +kernel
theorem d_M_kind_0 : decode b_M_kind 0 = .ok (.aload_n 0, 1) := by decide +kernel
theorem d_M_kind_1 : decode b_M_kind 1 = .ok (.iconst 0, 1) := by decide +kernel
theorem d_M_kind_2 : decode b_M_kind 2 = .ok (.putfield 90, 3) := by decide +kernel
theorem d_M_kind_5 : decode b_M_kind 5 = .ok (.iload_n 1, 1) := by decide +kernel
theorem d_M_kind_6 : decode b_M_kind 6 = .ok (.invokestatic 102, 3) := by decide +kernel
theorem d_M_kind_9 : decode b_M_kind 9 = .ok (.ifCond .eq 12, 3) := by decide +kernel
theorem d_M_kind_12 : decode b_M_kind 12 = .ok (.iload_n 2, 1) := by decide +kernel
theorem d_M_kind_13 : decode b_M_kind 13 = .ok (.ifCond .lt 8, 3) := by decide +kernel
theorem d_M_kind_16 : decode b_M_kind 16 = .ok (.iload_n 2, 1) := by decide +kernel
theorem d_M_kind_17 : decode b_M_kind 17 = .ok (.iconst 3, 1) := by decide +kernel
theorem d_M_kind_18 : decode b_M_kind 18 = .ok (.if_icmp .le 5, 3) := by decide +kernel
theorem d_M_kind_21 : decode b_M_kind 21 = .ok (.iconst 0, 1) := by decide +kernel
theorem d_M_kind_22 : decode b_M_kind 22 = .ok (.ireturn, 1) := by decide +kernel
theorem d_M_kind_23 : decode b_M_kind 23 = .ok (.aload_n 0, 1) := by decide +kernel
theorem d_M_kind_24 : decode b_M_kind 24 = .ok (.getfield 17, 3) := by decide +kernel
theorem d_M_kind_27 : decode b_M_kind 27 = .ok (.iload_n 1, 1) := by decide +kernel
theorem d_M_kind_28 : decode b_M_kind 28 = .ok (.iload_n 2, 1) := by decide +kernel
theorem d_M_kind_29 : decode b_M_kind 29 = .ok (.iastore, 1) := by decide +kernel
theorem d_M_kind_30 : decode b_M_kind 30 = .ok (.iconst 1, 1) := by decide +kernel
theorem d_M_kind_31 : decode b_M_kind 31 = .ok (.ireturn, 1) := by decide +kernel
theorem d_M_isLayer_0 : decode b_M_isLayer 0 = .ok (.iload_n 0, 1) := by decide +kernel
theorem d_M_isLayer_1 : decode b_M_isLayer 1 = .ok (.ifCond .lt 12, 3) := by decide +kernel
theorem d_M_isLayer_4 : decode b_M_isLayer 4 = .ok (.iload_n 0, 1) := by decide +kernel
theorem d_M_isLayer_5 : decode b_M_isLayer 5 = .ok (.iconst 4, 1) := by decide +kernel
theorem d_M_isLayer_6 : decode b_M_isLayer 6 = .ok (.if_icmp .ge 7, 3) := by decide +kernel
theorem d_M_isLayer_9 : decode b_M_isLayer 9 = .ok (.iconst 1, 1) := by decide +kernel
theorem d_M_isLayer_10 : decode b_M_isLayer 10 = .ok (.goto 4, 3) := by decide +kernel
theorem d_M_isLayer_13 : decode b_M_isLayer 13 = .ok (.iconst 0, 1) := by decide +kernel
theorem d_M_isLayer_14 : decode b_M_isLayer 14 = .ok (.ireturn, 1) := by decide +kernel
theorem d_M_branch_0 : decode b_M_branch 0 = .ok (.aload_n 0, 1) := by decide +kernel
theorem d_M_branch_1 : decode b_M_branch 1 = .ok (.iload_n 1, 1) := by decide +kernel
theorem d_M_branch_2 : decode b_M_branch 2 = .ok (.ifCond .lt 16, 3) := by decide +kernel
theorem d_M_branch_5 : decode b_M_branch 5 = .ok (.iload_n 1, 1) := by decide +kernel
theorem d_M_branch_6 : decode b_M_branch 6 = .ok (.iconst 3, 1) := by decide +kernel
theorem d_M_branch_7 : decode b_M_branch 7 = .ok (.if_icmp .gt 11, 3) := by decide +kernel
theorem d_M_branch_10 : decode b_M_branch 10 = .ok (.aload_n 0, 1) := by decide +kernel
theorem d_M_branch_11 : decode b_M_branch 11 = .ok (.iload_n 2, 1) := by decide +kernel
theorem d_M_branch_12 : decode b_M_branch 12 = .ok (.invokevirtual 93, 3) := by decide +kernel
theorem d_M_branch_15 : decode b_M_branch 15 = .ok (.ifCond .ne 7, 3) := by decide +kernel
theorem d_M_branch_18 : decode b_M_branch 18 = .ok (.iconst 1, 1) := by decide +kernel
theorem d_M_branch_19 : decode b_M_branch 19 = .ok (.goto 17, 3) := by decide +kernel
theorem d_M_branch_22 : decode b_M_branch 22 = .ok (.aload_n 0, 1) := by decide +kernel
theorem d_M_branch_23 : decode b_M_branch 23 = .ok (.getfield 30, 3) := by decide +kernel
theorem d_M_branch_26 : decode b_M_branch 26 = .ok (.iload_n 1, 1) := by decide +kernel
theorem d_M_branch_27 : decode b_M_branch 27 = .ok (.baload, 1) := by decide +kernel
theorem d_M_branch_28 : decode b_M_branch 28 = .ok (.ifCond .eq 7, 3) := by decide +kernel
theorem d_M_branch_31 : decode b_M_branch 31 = .ok (.iconst 2, 1) := by decide +kernel
theorem d_M_branch_32 : decode b_M_branch 32 = .ok (.goto 4, 3) := by decide +kernel
theorem d_M_branch_35 : decode b_M_branch 35 = .ok (.iconst 0, 1) := by decide +kernel
theorem d_M_branch_36 : decode b_M_branch 36 = .ok (.putfield 90, 3) := by decide +kernel
theorem d_M_branch_39 : decode b_M_branch 39 = .ok (.aload_n 0, 1) := by decide +kernel
theorem d_M_branch_40 : decode b_M_branch 40 = .ok (.getfield 90, 3) := by decide +kernel
theorem d_M_branch_43 : decode b_M_branch 43 = .ok (.ifCond .le 4, 3) := by decide +kernel
theorem d_M_branch_46 : decode b_M_branch 46 = .ok (.return_, 1) := by decide +kernel
theorem d_M_branch_47 : decode b_M_branch 47 = .ok (.aload_n 0, 1) := by decide +kernel
theorem d_M_branch_48 : decode b_M_branch 48 = .ok (.getfield 30, 3) := by decide +kernel
theorem d_M_branch_51 : decode b_M_branch 51 = .ok (.iload_n 1, 1) := by decide +kernel
theorem d_M_branch_52 : decode b_M_branch 52 = .ok (.iconst 1, 1) := by decide +kernel
theorem d_M_branch_53 : decode b_M_branch 53 = .ok (.bastore, 1) := by decide +kernel
theorem d_M_branch_54 : decode b_M_branch 54 = .ok (.aload_n 0, 1) := by decide +kernel
theorem d_M_branch_55 : decode b_M_branch 55 = .ok (.getfield 34, 3) := by decide +kernel
theorem d_M_branch_58 : decode b_M_branch 58 = .ok (.iload_n 1, 1) := by decide +kernel
theorem d_M_branch_59 : decode b_M_branch 59 = .ok (.iload_n 2, 1) := by decide +kernel
theorem d_M_branch_60 : decode b_M_branch 60 = .ok (.iastore, 1) := by decide +kernel
theorem d_M_branch_61 : decode b_M_branch 61 = .ok (.aload_n 0, 1) := by decide +kernel
theorem d_M_branch_62 : decode b_M_branch 62 = .ok (.getfield 37, 3) := by decide +kernel
theorem d_M_branch_65 : decode b_M_branch 65 = .ok (.iload_n 1, 1) := by decide +kernel
theorem d_M_branch_66 : decode b_M_branch 66 = .ok (.iconst (-1), 1) := by decide +kernel
theorem d_M_branch_67 : decode b_M_branch 67 = .ok (.iastore, 1) := by decide +kernel
theorem d_M_branch_68 : decode b_M_branch 68 = .ok (.aload_n 0, 1) := by decide +kernel
theorem d_M_branch_69 : decode b_M_branch 69 = .ok (.getfield 52, 3) := by decide +kernel
theorem d_M_branch_72 : decode b_M_branch 72 = .ok (.iload_n 1, 1) := by decide +kernel
theorem d_M_branch_73 : decode b_M_branch 73 = .ok (.iconst 0, 1) := by decide +kernel
theorem d_M_branch_74 : decode b_M_branch 74 = .ok (.iastore, 1) := by decide +kernel
theorem d_M_branch_75 : decode b_M_branch 75 = .ok (.aload_n 0, 1) := by decide +kernel
theorem d_M_branch_76 : decode b_M_branch 76 = .ok (.bipush 24, 2) := by decide +kernel
theorem d_M_branch_78 : decode b_M_branch 78 = .ok (.iload_n 1, 1) := by decide +kernel
theorem d_M_branch_79 : decode b_M_branch 79 = .ok (.iadd, 1) := by decide +kernel
theorem d_M_branch_80 : decode b_M_branch 80 = .ok (.iload_n 2, 1) := by decide +kernel
theorem d_M_branch_81 : decode b_M_branch 81 = .ok (.invokevirtual 105, 3) := by decide +kernel
theorem d_M_branch_84 : decode b_M_branch 84 = .ok (.return_, 1) := by decide +kernel
theorem d_M_isCommit_0 : decode b_M_isCommit 0 = .ok (.iload_n 1, 1) := by decide +kernel
theorem d_M_isCommit_1 : decode b_M_isCommit 1 = .ok (.ifCond .lt 15, 3) := by decide +kernel
theorem d_M_isCommit_4 : decode b_M_isCommit 4 = .ok (.iload_n 1, 1) := by decide +kernel
theorem d_M_isCommit_5 : decode b_M_isCommit 5 = .ok (.aload_n 0, 1) := by decide +kernel
theorem d_M_isCommit_6 : decode b_M_isCommit 6 = .ok (.getfield 26, 3) := by decide +kernel
theorem d_M_isCommit_9 : decode b_M_isCommit 9 = .ok (.if_icmp .ge 7, 3) := by decide +kernel
theorem d_M_isCommit_12 : decode b_M_isCommit 12 = .ok (.iconst 1, 1) := by decide +kernel
theorem d_M_isCommit_13 : decode b_M_isCommit 13 = .ok (.goto 4, 3) := by decide +kernel
theorem d_M_isCommit_16 : decode b_M_isCommit 16 = .ok (.iconst 0, 1) := by decide +kernel
theorem d_M_isCommit_17 : decode b_M_isCommit 17 = .ok (.ireturn, 1) := by decide +kernel
theorem d_M_become_0 : decode b_M_become 0 = .ok (.iconst 0, 1) := by decide +kernel
theorem d_M_become_1 : decode b_M_become 1 = .ok (.istore_n 3, 1) := by decide +kernel
theorem d_M_become_2 : decode b_M_become 2 = .ok (.iload_n 3, 1) := by decide +kernel
theorem d_M_become_3 : decode b_M_become 3 = .ok (.sipush 4096, 3) := by decide +kernel
theorem d_M_become_6 : decode b_M_become 6 = .ok (.if_icmp .ge 57, 3) := by decide +kernel
theorem d_M_become_9 : decode b_M_become 9 = .ok (.aload_n 0, 1) := by decide +kernel
theorem d_M_become_10 : decode b_M_become 10 = .ok (.getfield 8, 3) := by decide +kernel
theorem d_M_become_13 : decode b_M_become 13 = .ok (.sipush 4096, 3) := by decide +kernel
theorem d_M_become_16 : decode b_M_become 16 = .ok (.iload_n 1, 1) := by decide +kernel
theorem d_M_become_17 : decode b_M_become 17 = .ok (.imul, 1) := by decide +kernel
theorem d_M_become_18 : decode b_M_become 18 = .ok (.iload_n 3, 1) := by decide +kernel
theorem d_M_become_19 : decode b_M_become 19 = .ok (.iadd, 1) := by decide +kernel
theorem d_M_become_20 : decode b_M_become 20 = .ok (.aload_n 0, 1) := by decide +kernel
theorem d_M_become_21 : decode b_M_become 21 = .ok (.getfield 8, 3) := by decide +kernel
theorem d_M_become_24 : decode b_M_become 24 = .ok (.sipush 4096, 3) := by decide +kernel
theorem d_M_become_27 : decode b_M_become 27 = .ok (.iload_n 2, 1) := by decide +kernel
theorem d_M_become_28 : decode b_M_become 28 = .ok (.imul, 1) := by decide +kernel
theorem d_M_become_29 : decode b_M_become 29 = .ok (.iload_n 3, 1) := by decide +kernel
theorem d_M_become_30 : decode b_M_become 30 = .ok (.iadd, 1) := by decide +kernel
theorem d_M_become_31 : decode b_M_become 31 = .ok (.iaload, 1) := by decide +kernel
theorem d_M_become_32 : decode b_M_become 32 = .ok (.iastore, 1) := by decide +kernel
theorem d_M_become_33 : decode b_M_become 33 = .ok (.aload_n 0, 1) := by decide +kernel
theorem d_M_become_34 : decode b_M_become 34 = .ok (.getfield 14, 3) := by decide +kernel
theorem d_M_become_37 : decode b_M_become 37 = .ok (.sipush 4096, 3) := by decide +kernel
theorem d_M_become_40 : decode b_M_become 40 = .ok (.iload_n 1, 1) := by decide +kernel
theorem d_M_become_41 : decode b_M_become 41 = .ok (.imul, 1) := by decide +kernel
theorem d_M_become_42 : decode b_M_become 42 = .ok (.iload_n 3, 1) := by decide +kernel
theorem d_M_become_43 : decode b_M_become 43 = .ok (.iadd, 1) := by decide +kernel
theorem d_M_become_44 : decode b_M_become 44 = .ok (.aload_n 0, 1) := by decide +kernel
theorem d_M_become_45 : decode b_M_become 45 = .ok (.getfield 14, 3) := by decide +kernel
theorem d_M_become_48 : decode b_M_become 48 = .ok (.sipush 4096, 3) := by decide +kernel
theorem d_M_become_51 : decode b_M_become 51 = .ok (.iload_n 2, 1) := by decide +kernel
theorem d_M_become_52 : decode b_M_become 52 = .ok (.imul, 1) := by decide +kernel
theorem d_M_become_53 : decode b_M_become 53 = .ok (.iload_n 3, 1) := by decide +kernel
theorem d_M_become_54 : decode b_M_become 54 = .ok (.iadd, 1) := by decide +kernel
theorem d_M_become_55 : decode b_M_become 55 = .ok (.iaload, 1) := by decide +kernel
theorem d_M_become_56 : decode b_M_become 56 = .ok (.iastore, 1) := by decide +kernel
theorem d_M_become_57 : decode b_M_become 57 = .ok (.iinc 3 1, 3) := by decide +kernel
theorem d_M_become_60 : decode b_M_become 60 = .ok (.goto (-58), 3) := by decide +kernel
theorem d_M_become_63 : decode b_M_become 63 = .ok (.return_, 1) := by decide +kernel
theorem d_M_drop_0 : decode b_M_drop 0 = .ok (.aload_n 0, 1) := by decide +kernel
theorem d_M_drop_1 : decode b_M_drop 1 = .ok (.iconst 0, 1) := by decide +kernel
theorem d_M_drop_2 : decode b_M_drop 2 = .ok (.putfield 90, 3) := by decide +kernel
theorem d_M_drop_5 : decode b_M_drop 5 = .ok (.aload_n 0, 1) := by decide +kernel
theorem d_M_drop_6 : decode b_M_drop 6 = .ok (.iload_n 1, 1) := by decide +kernel
theorem d_M_drop_7 : decode b_M_drop 7 = .ok (.invokevirtual 97, 3) := by decide +kernel
theorem d_M_drop_10 : decode b_M_drop 10 = .ok (.istore_n 2, 1) := by decide +kernel
theorem d_M_drop_11 : decode b_M_drop 11 = .ok (.iload_n 2, 1) := by decide +kernel
theorem d_M_drop_12 : decode b_M_drop 12 = .ok (.ifCond .eq 10, 3) := by decide +kernel
theorem d_M_drop_15 : decode b_M_drop 15 = .ok (.aload_n 0, 1) := by decide +kernel
theorem d_M_drop_16 : decode b_M_drop 16 = .ok (.getfield 30, 3) := by decide +kernel
theorem d_M_drop_19 : decode b_M_drop 19 = .ok (.iload_n 1, 1) := by decide +kernel
theorem d_M_drop_20 : decode b_M_drop 20 = .ok (.iconst 0, 1) := by decide +kernel
theorem d_M_drop_21 : decode b_M_drop 21 = .ok (.bastore, 1) := by decide +kernel
theorem d_M_drop_22 : decode b_M_drop 22 = .ok (.iload_n 2, 1) := by decide +kernel
theorem d_M_drop_23 : decode b_M_drop 23 = .ok (.ireturn, 1) := by decide +kernel
theorem d_M_isBranch_0 : decode b_M_isBranch 0 = .ok (.iload_n 1, 1) := by decide +kernel
theorem d_M_isBranch_1 : decode b_M_isBranch 1 = .ok (.ifCond .lt 21, 3) := by decide +kernel
theorem d_M_isBranch_4 : decode b_M_isBranch 4 = .ok (.iload_n 1, 1) := by decide +kernel
theorem d_M_isBranch_5 : decode b_M_isBranch 5 = .ok (.iconst 4, 1) := by decide +kernel
theorem d_M_isBranch_6 : decode b_M_isBranch 6 = .ok (.if_icmp .ge 16, 3) := by decide +kernel
theorem d_M_isBranch_9 : decode b_M_isBranch 9 = .ok (.aload_n 0, 1) := by decide +kernel
theorem d_M_isBranch_10 : decode b_M_isBranch 10 = .ok (.getfield 30, 3) := by decide +kernel
theorem d_M_isBranch_13 : decode b_M_isBranch 13 = .ok (.iload_n 1, 1) := by decide +kernel
theorem d_M_isBranch_14 : decode b_M_isBranch 14 = .ok (.baload, 1) := by decide +kernel
theorem d_M_isBranch_15 : decode b_M_isBranch 15 = .ok (.ifCond .eq 7, 3) := by decide +kernel
theorem d_M_isBranch_18 : decode b_M_isBranch 18 = .ok (.iconst 1, 1) := by decide +kernel
theorem d_M_isBranch_19 : decode b_M_isBranch 19 = .ok (.goto 4, 3) := by decide +kernel
theorem d_M_isBranch_22 : decode b_M_isBranch 22 = .ok (.iconst 0, 1) := by decide +kernel
theorem d_M_isBranch_23 : decode b_M_isBranch 23 = .ok (.ireturn, 1) := by decide +kernel
theorem d_M_region_0 : decode b_M_region 0 = .ok (.aload_n 0, 1) := by decide +kernel
theorem d_M_region_1 : decode b_M_region 1 = .ok (.iconst 0, 1) := by decide +kernel
theorem d_M_region_2 : decode b_M_region 2 = .ok (.putfield 90, 3) := by decide +kernel
theorem d_M_region_5 : decode b_M_region 5 = .ok (.iload_n 1, 1) := by decide +kernel
theorem d_M_region_6 : decode b_M_region 6 = .ok (.ifCond .lt 47, 3) := by decide +kernel
theorem d_M_region_9 : decode b_M_region 9 = .ok (.iload_n 2, 1) := by decide +kernel
theorem d_M_region_10 : decode b_M_region 10 = .ok (.ifCond .lt 43, 3) := by decide +kernel
theorem d_M_region_13 : decode b_M_region 13 = .ok (.iload_n 3, 1) := by decide +kernel
theorem d_M_region_14 : decode b_M_region 14 = .ok (.iconst 1, 1) := by decide +kernel
theorem d_M_region_15 : decode b_M_region 15 = .ok (.if_icmp .lt 38, 3) := by decide +kernel
theorem d_M_region_18 : decode b_M_region 18 = .ok (.iload 4, 2) := by decide +kernel
theorem d_M_region_20 : decode b_M_region 20 = .ok (.iconst 1, 1) := by decide +kernel
theorem d_M_region_21 : decode b_M_region 21 = .ok (.if_icmp .lt 32, 3) := by decide +kernel
theorem d_M_region_24 : decode b_M_region 24 = .ok (.iload_n 1, 1) := by decide +kernel
theorem d_M_region_25 : decode b_M_region 25 = .ok (.bipush 32, 2) := by decide +kernel
theorem d_M_region_27 : decode b_M_region 27 = .ok (.if_icmp .ge 26, 3) := by decide +kernel
theorem d_M_region_30 : decode b_M_region 30 = .ok (.iload_n 2, 1) := by decide +kernel
theorem d_M_region_31 : decode b_M_region 31 = .ok (.bipush 32, 2) := by decide +kernel
theorem d_M_region_33 : decode b_M_region 33 = .ok (.if_icmp .ge 20, 3) := by decide +kernel
theorem d_M_region_36 : decode b_M_region 36 = .ok (.iload_n 3, 1) := by decide +kernel
theorem d_M_region_37 : decode b_M_region 37 = .ok (.bipush 32, 2) := by decide +kernel
theorem d_M_region_39 : decode b_M_region 39 = .ok (.iload_n 1, 1) := by decide +kernel
theorem d_M_region_40 : decode b_M_region 40 = .ok (.isub, 1) := by decide +kernel
theorem d_M_region_41 : decode b_M_region 41 = .ok (.if_icmp .gt 12, 3) := by decide +kernel
theorem d_M_region_44 : decode b_M_region 44 = .ok (.iload 4, 2) := by decide +kernel
theorem d_M_region_46 : decode b_M_region 46 = .ok (.bipush 32, 2) := by decide +kernel
theorem d_M_region_48 : decode b_M_region 48 = .ok (.iload_n 2, 1) := by decide +kernel
theorem d_M_region_49 : decode b_M_region 49 = .ok (.isub, 1) := by decide +kernel
theorem d_M_region_50 : decode b_M_region 50 = .ok (.if_icmp .le 5, 3) := by decide +kernel
theorem d_M_region_53 : decode b_M_region 53 = .ok (.iconst 0, 1) := by decide +kernel
theorem d_M_region_54 : decode b_M_region 54 = .ok (.ireturn, 1) := by decide +kernel
theorem d_M_region_55 : decode b_M_region 55 = .ok (.aload_n 0, 1) := by decide +kernel
theorem d_M_region_56 : decode b_M_region 56 = .ok (.iload_n 1, 1) := by decide +kernel
theorem d_M_region_57 : decode b_M_region 57 = .ok (.putfield 109, 3) := by decide +kernel
theorem d_M_region_60 : decode b_M_region 60 = .ok (.aload_n 0, 1) := by decide +kernel
theorem d_M_region_61 : decode b_M_region 61 = .ok (.iload_n 2, 1) := by decide +kernel
theorem d_M_region_62 : decode b_M_region 62 = .ok (.putfield 112, 3) := by decide +kernel
theorem d_M_region_65 : decode b_M_region 65 = .ok (.aload_n 0, 1) := by decide +kernel
theorem d_M_region_66 : decode b_M_region 66 = .ok (.iload_n 3, 1) := by decide +kernel
theorem d_M_region_67 : decode b_M_region 67 = .ok (.putfield 58, 3) := by decide +kernel
theorem d_M_region_70 : decode b_M_region 70 = .ok (.aload_n 0, 1) := by decide +kernel
theorem d_M_region_71 : decode b_M_region 71 = .ok (.iload 4, 2) := by decide +kernel
theorem d_M_region_73 : decode b_M_region 73 = .ok (.putfield 61, 3) := by decide +kernel
theorem d_M_region_76 : decode b_M_region 76 = .ok (.iconst 1, 1) := by decide +kernel
theorem d_M_region_77 : decode b_M_region 77 = .ok (.ireturn, 1) := by decide +kernel
theorem d_M_paint_0 : decode b_M_paint 0 = .ok (.aload_n 0, 1) := by decide +kernel
theorem d_M_paint_1 : decode b_M_paint 1 = .ok (.aload_n 0, 1) := by decide +kernel
theorem d_M_paint_2 : decode b_M_paint 2 = .ok (.iload_n 1, 1) := by decide +kernel
theorem d_M_paint_3 : decode b_M_paint 3 = .ok (.invokevirtual 97, 3) := by decide +kernel
theorem d_M_paint_6 : decode b_M_paint 6 = .ok (.ifCond .eq 17, 3) := by decide +kernel
theorem d_M_paint_9 : decode b_M_paint 9 = .ok (.iload_n 2, 1) := by decide +kernel
theorem d_M_paint_10 : decode b_M_paint 10 = .ok (.invokestatic 102, 3) := by decide +kernel
theorem d_M_paint_13 : decode b_M_paint 13 = .ok (.ifCond .eq 10, 3) := by decide +kernel
theorem d_M_paint_16 : decode b_M_paint 16 = .ok (.iload_n 3, 1) := by decide +kernel
theorem d_M_paint_17 : decode b_M_paint 17 = .ok (.invokestatic 116, 3) := by decide +kernel
theorem d_M_paint_20 : decode b_M_paint 20 = .ok (.ifCond .ne 7, 3) := by decide +kernel
theorem d_M_paint_23 : decode b_M_paint 23 = .ok (.iconst 1, 1) := by decide +kernel
theorem d_M_paint_24 : decode b_M_paint 24 = .ok (.goto 4, 3) := by decide +kernel
theorem d_M_paint_27 : decode b_M_paint 27 = .ok (.iconst 0, 1) := by decide +kernel
theorem d_M_paint_28 : decode b_M_paint 28 = .ok (.invokevirtual 119, 3) := by decide +kernel
theorem d_M_paint_31 : decode b_M_paint 31 = .ok (.ifCond .eq 4, 3) := by decide +kernel
theorem d_M_paint_34 : decode b_M_paint 34 = .ok (.return_, 1) := by decide +kernel
theorem d_M_paint_35 : decode b_M_paint 35 = .ok (.aload_n 0, 1) := by decide +kernel
theorem d_M_paint_36 : decode b_M_paint 36 = .ok (.getfield 112, 3) := by decide +kernel
theorem d_M_paint_39 : decode b_M_paint 39 = .ok (.istore 4, 2) := by decide +kernel
theorem d_M_paint_41 : decode b_M_paint 41 = .ok (.iload 4, 2) := by decide +kernel
theorem d_M_paint_43 : decode b_M_paint 43 = .ok (.aload_n 0, 1) := by decide +kernel
theorem d_M_paint_44 : decode b_M_paint 44 = .ok (.getfield 112, 3) := by decide +kernel
theorem d_M_paint_47 : decode b_M_paint 47 = .ok (.aload_n 0, 1) := by decide +kernel
theorem d_M_paint_48 : decode b_M_paint 48 = .ok (.getfield 61, 3) := by decide +kernel
theorem d_M_paint_51 : decode b_M_paint 51 = .ok (.iadd, 1) := by decide +kernel
theorem d_M_paint_52 : decode b_M_paint 52 = .ok (.if_icmp .ge 49, 3) := by decide +kernel
theorem d_M_paint_55 : decode b_M_paint 55 = .ok (.aload_n 0, 1) := by decide +kernel
theorem d_M_paint_56 : decode b_M_paint 56 = .ok (.getfield 109, 3) := by decide +kernel
theorem d_M_paint_59 : decode b_M_paint 59 = .ok (.istore 5, 2) := by decide +kernel
theorem d_M_paint_61 : decode b_M_paint 61 = .ok (.iload 5, 2) := by decide +kernel
theorem d_M_paint_63 : decode b_M_paint 63 = .ok (.aload_n 0, 1) := by decide +kernel
theorem d_M_paint_64 : decode b_M_paint 64 = .ok (.getfield 109, 3) := by decide +kernel
theorem d_M_paint_67 : decode b_M_paint 67 = .ok (.aload_n 0, 1) := by decide +kernel
theorem d_M_paint_68 : decode b_M_paint 68 = .ok (.getfield 58, 3) := by decide +kernel
theorem d_M_paint_71 : decode b_M_paint 71 = .ok (.iadd, 1) := by decide +kernel
theorem d_M_paint_72 : decode b_M_paint 72 = .ok (.if_icmp .ge 23, 3) := by decide +kernel
theorem d_M_paint_75 : decode b_M_paint 75 = .ok (.aload_n 0, 1) := by decide +kernel
theorem d_M_paint_76 : decode b_M_paint 76 = .ok (.iload_n 1, 1) := by decide +kernel
theorem d_M_paint_77 : decode b_M_paint 77 = .ok (.iload_n 2, 1) := by decide +kernel
theorem d_M_paint_78 : decode b_M_paint 78 = .ok (.iload 5, 2) := by decide +kernel
theorem d_M_paint_80 : decode b_M_paint 80 = .ok (.iload 4, 2) := by decide +kernel
theorem d_M_paint_82 : decode b_M_paint 82 = .ok (.invokestatic 123, 3) := by decide +kernel
theorem d_M_paint_85 : decode b_M_paint 85 = .ok (.iload_n 3, 1) := by decide +kernel
theorem d_M_paint_86 : decode b_M_paint 86 = .ok (.invokevirtual 127, 3) := by decide +kernel
theorem d_M_paint_89 : decode b_M_paint 89 = .ok (.iinc 5 1, 3) := by decide +kernel
theorem d_M_paint_92 : decode b_M_paint 92 = .ok (.goto (-31), 3) := by decide +kernel
theorem d_M_paint_95 : decode b_M_paint 95 = .ok (.iinc 4 1, 3) := by decide +kernel
theorem d_M_paint_98 : decode b_M_paint 98 = .ok (.goto (-57), 3) := by decide +kernel
theorem d_M_paint_101 : decode b_M_paint 101 = .ok (.return_, 1) := by decide +kernel
theorem d_M_isValue_0 : decode b_M_isValue 0 = .ok (.iload_n 0, 1) := by decide +kernel
theorem d_M_isValue_1 : decode b_M_isValue 1 = .ok (.ldc 89, 2) := by decide +kernel
theorem d_M_isValue_3 : decode b_M_isValue 3 = .ok (.if_icmp .eq 15, 3) := by decide +kernel
theorem d_M_isValue_6 : decode b_M_isValue 6 = .ok (.iload_n 0, 1) := by decide +kernel
theorem d_M_isValue_7 : decode b_M_isValue 7 = .ok (.ldc 100, 2) := by decide +kernel
theorem d_M_isValue_9 : decode b_M_isValue 9 = .ok (.if_icmp .lt 13, 3) := by decide +kernel
theorem d_M_isValue_12 : decode b_M_isValue 12 = .ok (.iload_n 0, 1) := by decide +kernel
theorem d_M_isValue_13 : decode b_M_isValue 13 = .ok (.ldc 101, 2) := by decide +kernel
theorem d_M_isValue_15 : decode b_M_isValue 15 = .ok (.if_icmp .gt 7, 3) := by decide +kernel
theorem d_M_isValue_18 : decode b_M_isValue 18 = .ok (.iconst 1, 1) := by decide +kernel
theorem d_M_isValue_19 : decode b_M_isValue 19 = .ok (.goto 4, 3) := by decide +kernel
theorem d_M_isValue_22 : decode b_M_isValue 22 = .ok (.iconst 0, 1) := by decide +kernel
theorem d_M_isValue_23 : decode b_M_isValue 23 = .ok (.ireturn, 1) := by decide +kernel
theorem d_M_fails_0 : decode b_M_fails 0 = .ok (.aload_n 0, 1) := by decide +kernel
theorem d_M_fails_1 : decode b_M_fails 1 = .ok (.iload_n 1, 1) := by decide +kernel
theorem d_M_fails_2 : decode b_M_fails 2 = .ok (.ifCond .eq 7, 3) := by decide +kernel
theorem d_M_fails_5 : decode b_M_fails 5 = .ok (.iconst 1, 1) := by decide +kernel
theorem d_M_fails_6 : decode b_M_fails 6 = .ok (.goto 4, 3) := by decide +kernel
theorem d_M_fails_9 : decode b_M_fails 9 = .ok (.iconst 0, 1) := by decide +kernel
theorem d_M_fails_10 : decode b_M_fails 10 = .ok (.putfield 90, 3) := by decide +kernel
theorem d_M_fails_13 : decode b_M_fails 13 = .ok (.iload_n 1, 1) := by decide +kernel
theorem d_M_fails_14 : decode b_M_fails 14 = .ok (.ireturn, 1) := by decide +kernel
theorem d_M_cellOf_0 : decode b_M_cellOf 0 = .ok (.sipush 1024, 3) := by decide +kernel
theorem d_M_cellOf_3 : decode b_M_cellOf 3 = .ok (.iload_n 0, 1) := by decide +kernel
theorem d_M_cellOf_4 : decode b_M_cellOf 4 = .ok (.imul, 1) := by decide +kernel
theorem d_M_cellOf_5 : decode b_M_cellOf 5 = .ok (.bipush 32, 2) := by decide +kernel
theorem d_M_cellOf_7 : decode b_M_cellOf 7 = .ok (.iload_n 2, 1) := by decide +kernel
theorem d_M_cellOf_8 : decode b_M_cellOf 8 = .ok (.imul, 1) := by decide +kernel
theorem d_M_cellOf_9 : decode b_M_cellOf 9 = .ok (.iadd, 1) := by decide +kernel
theorem d_M_cellOf_10 : decode b_M_cellOf 10 = .ok (.iload_n 1, 1) := by decide +kernel
theorem d_M_cellOf_11 : decode b_M_cellOf 11 = .ok (.iadd, 1) := by decide +kernel
theorem d_M_cellOf_12 : decode b_M_cellOf 12 = .ok (.ireturn, 1) := by decide +kernel
theorem d_M_give_0 : decode b_M_give 0 = .ok (.aload_n 0, 1) := by decide +kernel
theorem d_M_give_1 : decode b_M_give 1 = .ok (.getfield 8, 3) := by decide +kernel
theorem d_M_give_4 : decode b_M_give 4 = .ok (.sipush 4096, 3) := by decide +kernel
theorem d_M_give_7 : decode b_M_give 7 = .ok (.bipush 24, 2) := by decide +kernel
theorem d_M_give_9 : decode b_M_give 9 = .ok (.iload_n 1, 1) := by decide +kernel
theorem d_M_give_10 : decode b_M_give 10 = .ok (.iadd, 1) := by decide +kernel
theorem d_M_give_11 : decode b_M_give 11 = .ok (.imul, 1) := by decide +kernel
theorem d_M_give_12 : decode b_M_give 12 = .ok (.iload_n 2, 1) := by decide +kernel
theorem d_M_give_13 : decode b_M_give 13 = .ok (.iadd, 1) := by decide +kernel
theorem d_M_give_14 : decode b_M_give 14 = .ok (.iload_n 3, 1) := by decide +kernel
theorem d_M_give_15 : decode b_M_give 15 = .ok (.iastore, 1) := by decide +kernel
theorem d_M_give_16 : decode b_M_give 16 = .ok (.aload_n 0, 1) := by decide +kernel
theorem d_M_give_17 : decode b_M_give 17 = .ok (.getfield 14, 3) := by decide +kernel
theorem d_M_give_20 : decode b_M_give 20 = .ok (.sipush 4096, 3) := by decide +kernel
theorem d_M_give_23 : decode b_M_give 23 = .ok (.bipush 24, 2) := by decide +kernel
theorem d_M_give_25 : decode b_M_give 25 = .ok (.iload_n 1, 1) := by decide +kernel
theorem d_M_give_26 : decode b_M_give 26 = .ok (.iadd, 1) := by decide +kernel
theorem d_M_give_27 : decode b_M_give 27 = .ok (.imul, 1) := by decide +kernel
theorem d_M_give_28 : decode b_M_give 28 = .ok (.iload_n 2, 1) := by decide +kernel
theorem d_M_give_29 : decode b_M_give 29 = .ok (.iadd, 1) := by decide +kernel
theorem d_M_give_30 : decode b_M_give 30 = .ok (.iload_n 3, 1) := by decide +kernel
theorem d_M_give_31 : decode b_M_give 31 = .ok (.ldc 89, 2) := by decide +kernel
theorem d_M_give_33 : decode b_M_give 33 = .ok (.if_icmp .ne 7, 3) := by decide +kernel
theorem d_M_give_36 : decode b_M_give 36 = .ok (.iconst (-1), 1) := by decide +kernel
theorem d_M_give_37 : decode b_M_give 37 = .ok (.goto 7, 3) := by decide +kernel
theorem d_M_give_40 : decode b_M_give 40 = .ok (.ldc 115, 2) := by decide +kernel
theorem d_M_give_42 : decode b_M_give 42 = .ok (.iload_n 2, 1) := by decide +kernel
theorem d_M_give_43 : decode b_M_give 43 = .ok (.iadd, 1) := by decide +kernel
theorem d_M_give_44 : decode b_M_give 44 = .ok (.iastore, 1) := by decide +kernel
theorem d_M_give_45 : decode b_M_give 45 = .ok (.return_, 1) := by decide +kernel
theorem d_M_corner_0 : decode b_M_corner 0 = .ok (.aload_n 0, 1) := by decide +kernel
theorem d_M_corner_1 : decode b_M_corner 1 = .ok (.iconst 0, 1) := by decide +kernel
theorem d_M_corner_2 : decode b_M_corner 2 = .ok (.putfield 90, 3) := by decide +kernel
theorem d_M_corner_5 : decode b_M_corner 5 = .ok (.iload_n 1, 1) := by decide +kernel
theorem d_M_corner_6 : decode b_M_corner 6 = .ok (.ifCond .lt 28, 3) := by decide +kernel
theorem d_M_corner_9 : decode b_M_corner 9 = .ok (.iload_n 1, 1) := by decide +kernel
theorem d_M_corner_10 : decode b_M_corner 10 = .ok (.iconst 5, 1) := by decide +kernel
theorem d_M_corner_11 : decode b_M_corner 11 = .ok (.if_icmp .gt 23, 3) := by decide +kernel
theorem d_M_corner_14 : decode b_M_corner 14 = .ok (.iload_n 2, 1) := by decide +kernel
theorem d_M_corner_15 : decode b_M_corner 15 = .ok (.ifCond .lt 19, 3) := by decide +kernel
theorem d_M_corner_18 : decode b_M_corner 18 = .ok (.iload_n 2, 1) := by decide +kernel
theorem d_M_corner_19 : decode b_M_corner 19 = .ok (.bipush 32, 2) := by decide +kernel
theorem d_M_corner_21 : decode b_M_corner 21 = .ok (.if_icmp .gt 13, 3) := by decide +kernel
theorem d_M_corner_24 : decode b_M_corner 24 = .ok (.iload_n 3, 1) := by decide +kernel
theorem d_M_corner_25 : decode b_M_corner 25 = .ok (.ifCond .lt 9, 3) := by decide +kernel
theorem d_M_corner_28 : decode b_M_corner 28 = .ok (.iload_n 3, 1) := by decide +kernel
theorem d_M_corner_29 : decode b_M_corner 29 = .ok (.bipush 32, 2) := by decide +kernel
theorem d_M_corner_31 : decode b_M_corner 31 = .ok (.if_icmp .le 5, 3) := by decide +kernel
theorem d_M_corner_34 : decode b_M_corner 34 = .ok (.iconst 0, 1) := by decide +kernel
theorem d_M_corner_35 : decode b_M_corner 35 = .ok (.ireturn, 1) := by decide +kernel
theorem d_M_corner_36 : decode b_M_corner 36 = .ok (.aload_n 0, 1) := by decide +kernel
theorem d_M_corner_37 : decode b_M_corner 37 = .ok (.getfield 64, 3) := by decide +kernel
theorem d_M_corner_40 : decode b_M_corner 40 = .ok (.iload_n 1, 1) := by decide +kernel
theorem d_M_corner_41 : decode b_M_corner 41 = .ok (.iload_n 2, 1) := by decide +kernel
theorem d_M_corner_42 : decode b_M_corner 42 = .ok (.iastore, 1) := by decide +kernel
theorem d_M_corner_43 : decode b_M_corner 43 = .ok (.aload_n 0, 1) := by decide +kernel
theorem d_M_corner_44 : decode b_M_corner 44 = .ok (.getfield 67, 3) := by decide +kernel
theorem d_M_corner_47 : decode b_M_corner 47 = .ok (.iload_n 1, 1) := by decide +kernel
theorem d_M_corner_48 : decode b_M_corner 48 = .ok (.iload_n 3, 1) := by decide +kernel
theorem d_M_corner_49 : decode b_M_corner 49 = .ok (.iastore, 1) := by decide +kernel
theorem d_M_corner_50 : decode b_M_corner 50 = .ok (.iconst 1, 1) := by decide +kernel
theorem d_M_corner_51 : decode b_M_corner 51 = .ok (.ireturn, 1) := by decide +kernel
theorem d_M_polygon_0 : decode b_M_polygon 0 = .ok (.aload_n 0, 1) := by decide +kernel
theorem d_M_polygon_1 : decode b_M_polygon 1 = .ok (.aload_n 0, 1) := by decide +kernel
theorem d_M_polygon_2 : decode b_M_polygon 2 = .ok (.iload_n 1, 1) := by decide +kernel
theorem d_M_polygon_3 : decode b_M_polygon 3 = .ok (.invokevirtual 97, 3) := by decide +kernel
theorem d_M_polygon_6 : decode b_M_polygon 6 = .ok (.ifCond .eq 29, 3) := by decide +kernel
theorem d_M_polygon_9 : decode b_M_polygon 9 = .ok (.iload_n 2, 1) := by decide +kernel
theorem d_M_polygon_10 : decode b_M_polygon 10 = .ok (.invokestatic 102, 3) := by decide +kernel
theorem d_M_polygon_13 : decode b_M_polygon 13 = .ok (.ifCond .eq 22, 3) := by decide +kernel
theorem d_M_polygon_16 : decode b_M_polygon 16 = .ok (.iload_n 3, 1) := by decide +kernel
theorem d_M_polygon_17 : decode b_M_polygon 17 = .ok (.iconst 3, 1) := by decide +kernel
theorem d_M_polygon_18 : decode b_M_polygon 18 = .ok (.if_icmp .lt 17, 3) := by decide +kernel
theorem d_M_polygon_21 : decode b_M_polygon 21 = .ok (.iload_n 3, 1) := by decide +kernel
theorem d_M_polygon_22 : decode b_M_polygon 22 = .ok (.bipush 6, 2) := by decide +kernel
theorem d_M_polygon_24 : decode b_M_polygon 24 = .ok (.if_icmp .gt 11, 3) := by decide +kernel
theorem d_M_polygon_27 : decode b_M_polygon 27 = .ok (.iload 4, 2) := by decide +kernel
theorem d_M_polygon_29 : decode b_M_polygon 29 = .ok (.invokestatic 116, 3) := by decide +kernel
theorem d_M_polygon_32 : decode b_M_polygon 32 = .ok (.ifCond .ne 7, 3) := by decide +kernel
theorem d_M_polygon_35 : decode b_M_polygon 35 = .ok (.iconst 1, 1) := by decide +kernel
theorem d_M_polygon_36 : decode b_M_polygon 36 = .ok (.goto 4, 3) := by decide +kernel
theorem d_M_polygon_39 : decode b_M_polygon 39 = .ok (.iconst 0, 1) := by decide +kernel
theorem d_M_polygon_40 : decode b_M_polygon 40 = .ok (.invokevirtual 119, 3) := by decide +kernel
theorem d_M_polygon_43 : decode b_M_polygon 43 = .ok (.ifCond .eq 4, 3) := by decide +kernel
theorem d_M_polygon_46 : decode b_M_polygon 46 = .ok (.return_, 1) := by decide +kernel
theorem d_M_polygon_47 : decode b_M_polygon 47 = .ok (.iconst 0, 1) := by decide +kernel
theorem d_M_polygon_48 : decode b_M_polygon 48 = .ok (.istore 5, 2) := by decide +kernel
theorem d_M_polygon_50 : decode b_M_polygon 50 = .ok (.iload 5, 2) := by decide +kernel
theorem d_M_polygon_52 : decode b_M_polygon 52 = .ok (.bipush 32, 2) := by decide +kernel
theorem d_M_polygon_54 : decode b_M_polygon 54 = .ok (.if_icmp .ge 95, 3) := by decide +kernel
theorem d_M_polygon_57 : decode b_M_polygon 57 = .ok (.iconst 0, 1) := by decide +kernel
theorem d_M_polygon_58 : decode b_M_polygon 58 = .ok (.istore 6, 2) := by decide +kernel
theorem d_M_polygon_60 : decode b_M_polygon 60 = .ok (.iload 6, 2) := by decide +kernel
theorem d_M_polygon_62 : decode b_M_polygon 62 = .ok (.bipush 32, 2) := by decide +kernel
theorem d_M_polygon_64 : decode b_M_polygon 64 = .ok (.if_icmp .ge 79, 3) := by decide +kernel
theorem d_M_polygon_67 : decode b_M_polygon 67 = .ok (.iconst 0, 1) := by decide +kernel
theorem d_M_polygon_68 : decode b_M_polygon 68 = .ok (.istore 7, 2) := by decide +kernel
theorem d_M_polygon_70 : decode b_M_polygon 70 = .ok (.iconst 0, 1) := by decide +kernel
theorem d_M_polygon_71 : decode b_M_polygon 71 = .ok (.istore 8, 2) := by decide +kernel
theorem d_M_polygon_73 : decode b_M_polygon 73 = .ok (.iload 8, 2) := by decide +kernel
theorem d_M_polygon_75 : decode b_M_polygon 75 = .ok (.iload_n 3, 1) := by decide +kernel
theorem d_M_polygon_76 : decode b_M_polygon 76 = .ok (.if_icmp .ge 38, 3) := by decide +kernel
theorem d_M_polygon_79 : decode b_M_polygon 79 = .ok (.iload 7, 2) := by decide +kernel
theorem d_M_polygon_81 : decode b_M_polygon 81 = .ok (.aload_n 0, 1) := by decide +kernel
theorem d_M_polygon_82 : decode b_M_polygon 82 = .ok (.iload 8, 2) := by decide +kernel
theorem d_M_polygon_84 : decode b_M_polygon 84 = .ok (.iload 8, 2) := by decide +kernel
theorem d_M_polygon_86 : decode b_M_polygon 86 = .ok (.iconst 1, 1) := by decide +kernel
theorem d_M_polygon_87 : decode b_M_polygon 87 = .ok (.iadd, 1) := by decide +kernel
theorem d_M_polygon_88 : decode b_M_polygon 88 = .ok (.iload_n 3, 1) := by decide +kernel
theorem d_M_polygon_89 : decode b_M_polygon 89 = .ok (.irem, 1) := by decide +kernel
theorem d_M_polygon_90 : decode b_M_polygon 90 = .ok (.iload 6, 2) := by decide +kernel
theorem d_M_polygon_92 : decode b_M_polygon 92 = .ok (.iload 5, 2) := by decide +kernel
theorem d_M_polygon_94 : decode b_M_polygon 94 = .ok (.invokevirtual 131, 3) := by decide +kernel
theorem d_M_polygon_97 : decode b_M_polygon 97 = .ok (.ifCond .eq 7, 3) := by decide +kernel
theorem d_M_polygon_100 : decode b_M_polygon 100 = .ok (.iconst 1, 1) := by decide +kernel
theorem d_M_polygon_101 : decode b_M_polygon 101 = .ok (.goto 4, 3) := by decide +kernel
theorem d_M_polygon_104 : decode b_M_polygon 104 = .ok (.iconst 0, 1) := by decide +kernel
theorem d_M_polygon_105 : decode b_M_polygon 105 = .ok (.iadd, 1) := by decide +kernel
theorem d_M_polygon_106 : decode b_M_polygon 106 = .ok (.istore 7, 2) := by decide +kernel
theorem d_M_polygon_108 : decode b_M_polygon 108 = .ok (.iinc 8 1, 3) := by decide +kernel
theorem d_M_polygon_111 : decode b_M_polygon 111 = .ok (.goto (-38), 3) := by decide +kernel
theorem d_M_polygon_114 : decode b_M_polygon 114 = .ok (.iload 7, 2) := by decide +kernel
theorem d_M_polygon_116 : decode b_M_polygon 116 = .ok (.iconst 2, 1) := by decide +kernel
theorem d_M_polygon_117 : decode b_M_polygon 117 = .ok (.irem, 1) := by decide +kernel
theorem d_M_polygon_118 : decode b_M_polygon 118 = .ok (.iconst 1, 1) := by decide +kernel
theorem d_M_polygon_119 : decode b_M_polygon 119 = .ok (.if_icmp .ne 18, 3) := by decide +kernel
theorem d_M_polygon_122 : decode b_M_polygon 122 = .ok (.aload_n 0, 1) := by decide +kernel
theorem d_M_polygon_123 : decode b_M_polygon 123 = .ok (.iload_n 1, 1) := by decide +kernel
theorem d_M_polygon_124 : decode b_M_polygon 124 = .ok (.iload_n 2, 1) := by decide +kernel
theorem d_M_polygon_125 : decode b_M_polygon 125 = .ok (.iload 6, 2) := by decide +kernel
theorem d_M_polygon_127 : decode b_M_polygon 127 = .ok (.iload 5, 2) := by decide +kernel
theorem d_M_polygon_129 : decode b_M_polygon 129 = .ok (.invokestatic 123, 3) := by decide +kernel
theorem d_M_polygon_132 : decode b_M_polygon 132 = .ok (.iload 4, 2) := by decide +kernel
theorem d_M_polygon_134 : decode b_M_polygon 134 = .ok (.invokevirtual 127, 3) := by decide +kernel
theorem d_M_polygon_137 : decode b_M_polygon 137 = .ok (.iinc 6 1, 3) := by decide +kernel
theorem d_M_polygon_140 : decode b_M_polygon 140 = .ok (.goto (-80), 3) := by decide +kernel
theorem d_M_polygon_143 : decode b_M_polygon 143 = .ok (.iinc 5 1, 3) := by decide +kernel
theorem d_M_polygon_146 : decode b_M_polygon 146 = .ok (.goto (-96), 3) := by decide +kernel
theorem d_M_polygon_149 : decode b_M_polygon 149 = .ok (.return_, 1) := by decide +kernel
theorem d_M_meets_0 : decode b_M_meets 0 = .ok (.aload_n 0, 1) := by decide +kernel
theorem d_M_meets_1 : decode b_M_meets 1 = .ok (.getfield 67, 3) := by decide +kernel
theorem d_M_meets_4 : decode b_M_meets 4 = .ok (.iload_n 1, 1) := by decide +kernel
theorem d_M_meets_5 : decode b_M_meets 5 = .ok (.iaload, 1) := by decide +kernel
theorem d_M_meets_6 : decode b_M_meets 6 = .ok (.iload 4, 2) := by decide +kernel
theorem d_M_meets_8 : decode b_M_meets 8 = .ok (.isub, 1) := by decide +kernel
theorem d_M_meets_9 : decode b_M_meets 9 = .ok (.istore 5, 2) := by decide +kernel
theorem d_M_meets_11 : decode b_M_meets 11 = .ok (.aload_n 0, 1) := by decide +kernel
theorem d_M_meets_12 : decode b_M_meets 12 = .ok (.getfield 67, 3) := by decide +kernel
theorem d_M_meets_15 : decode b_M_meets 15 = .ok (.iload_n 2, 1) := by decide +kernel
theorem d_M_meets_16 : decode b_M_meets 16 = .ok (.iaload, 1) := by decide +kernel
theorem d_M_meets_17 : decode b_M_meets 17 = .ok (.iload 4, 2) := by decide +kernel
theorem d_M_meets_19 : decode b_M_meets 19 = .ok (.isub, 1) := by decide +kernel
theorem d_M_meets_20 : decode b_M_meets 20 = .ok (.istore 6, 2) := by decide +kernel
theorem d_M_meets_22 : decode b_M_meets 22 = .ok (.iconst 2, 1) := by decide +kernel
theorem d_M_meets_23 : decode b_M_meets 23 = .ok (.iload 5, 2) := by decide +kernel
theorem d_M_meets_25 : decode b_M_meets 25 = .ok (.imul, 1) := by decide +kernel
theorem d_M_meets_26 : decode b_M_meets 26 = .ok (.iconst 1, 1) := by decide +kernel
theorem d_M_meets_27 : decode b_M_meets 27 = .ok (.isub, 1) := by decide +kernel
theorem d_M_meets_28 : decode b_M_meets 28 = .ok (.istore 7, 2) := by decide +kernel
theorem d_M_meets_30 : decode b_M_meets 30 = .ok (.iconst 2, 1) := by decide +kernel
theorem d_M_meets_31 : decode b_M_meets 31 = .ok (.iload 6, 2) := by decide +kernel
theorem d_M_meets_33 : decode b_M_meets 33 = .ok (.imul, 1) := by decide +kernel
theorem d_M_meets_34 : decode b_M_meets 34 = .ok (.iconst 1, 1) := by decide +kernel
theorem d_M_meets_35 : decode b_M_meets 35 = .ok (.isub, 1) := by decide +kernel
theorem d_M_meets_36 : decode b_M_meets 36 = .ok (.istore 8, 2) := by decide +kernel
theorem d_M_meets_38 : decode b_M_meets 38 = .ok (.iload 7, 2) := by decide +kernel
theorem d_M_meets_40 : decode b_M_meets 40 = .ok (.ifCond .le 7, 3) := by decide +kernel
theorem d_M_meets_43 : decode b_M_meets 43 = .ok (.iconst 1, 1) := by decide +kernel
theorem d_M_meets_44 : decode b_M_meets 44 = .ok (.goto 4, 3) := by decide +kernel
theorem d_M_meets_47 : decode b_M_meets 47 = .ok (.iconst 0, 1) := by decide +kernel
theorem d_M_meets_48 : decode b_M_meets 48 = .ok (.iload 8, 2) := by decide +kernel
theorem d_M_meets_50 : decode b_M_meets 50 = .ok (.ifCond .le 7, 3) := by decide +kernel
theorem d_M_meets_53 : decode b_M_meets 53 = .ok (.iconst 1, 1) := by decide +kernel
theorem d_M_meets_54 : decode b_M_meets 54 = .ok (.goto 4, 3) := by decide +kernel
theorem d_M_meets_57 : decode b_M_meets 57 = .ok (.iconst 0, 1) := by decide +kernel
theorem d_M_meets_58 : decode b_M_meets 58 = .ok (.if_icmp .ne 5, 3) := by decide +kernel
theorem d_M_meets_61 : decode b_M_meets 61 = .ok (.iconst 0, 1) := by decide +kernel
theorem d_M_meets_62 : decode b_M_meets 62 = .ok (.ireturn, 1) := by decide +kernel
theorem d_M_meets_63 : decode b_M_meets 63 = .ok (.iload 7, 2) := by decide +kernel
theorem d_M_meets_65 : decode b_M_meets 65 = .ok (.iload 8, 2) := by decide +kernel
theorem d_M_meets_67 : decode b_M_meets 67 = .ok (.isub, 1) := by decide +kernel
theorem d_M_meets_68 : decode b_M_meets 68 = .ok (.istore 9, 2) := by decide +kernel
theorem d_M_meets_70 : decode b_M_meets 70 = .ok (.iconst 2, 1) := by decide +kernel
theorem d_M_meets_71 : decode b_M_meets 71 = .ok (.aload_n 0, 1) := by decide +kernel
theorem d_M_meets_72 : decode b_M_meets 72 = .ok (.getfield 64, 3) := by decide +kernel
theorem d_M_meets_75 : decode b_M_meets 75 = .ok (.iload_n 1, 1) := by decide +kernel
theorem d_M_meets_76 : decode b_M_meets 76 = .ok (.iaload, 1) := by decide +kernel
theorem d_M_meets_77 : decode b_M_meets 77 = .ok (.imul, 1) := by decide +kernel
theorem d_M_meets_78 : decode b_M_meets 78 = .ok (.iload 9, 2) := by decide +kernel
theorem d_M_meets_80 : decode b_M_meets 80 = .ok (.imul, 1) := by decide +kernel
theorem d_M_meets_81 : decode b_M_meets 81 = .ok (.iconst 2, 1) := by decide +kernel
theorem d_M_meets_82 : decode b_M_meets 82 = .ok (.aload_n 0, 1) := by decide +kernel
theorem d_M_meets_83 : decode b_M_meets 83 = .ok (.getfield 64, 3) := by decide +kernel
theorem d_M_meets_86 : decode b_M_meets 86 = .ok (.iload_n 2, 1) := by decide +kernel
theorem d_M_meets_87 : decode b_M_meets 87 = .ok (.iaload, 1) := by decide +kernel
theorem d_M_meets_88 : decode b_M_meets 88 = .ok (.aload_n 0, 1) := by decide +kernel
theorem d_M_meets_89 : decode b_M_meets 89 = .ok (.getfield 64, 3) := by decide +kernel
theorem d_M_meets_92 : decode b_M_meets 92 = .ok (.iload_n 1, 1) := by decide +kernel
theorem d_M_meets_93 : decode b_M_meets 93 = .ok (.iaload, 1) := by decide +kernel
theorem d_M_meets_94 : decode b_M_meets 94 = .ok (.isub, 1) := by decide +kernel
theorem d_M_meets_95 : decode b_M_meets 95 = .ok (.imul, 1) := by decide +kernel
theorem d_M_meets_96 : decode b_M_meets 96 = .ok (.iload 7, 2) := by decide +kernel
theorem d_M_meets_98 : decode b_M_meets 98 = .ok (.imul, 1) := by decide +kernel
theorem d_M_meets_99 : decode b_M_meets 99 = .ok (.iadd, 1) := by decide +kernel
theorem d_M_meets_100 : decode b_M_meets 100 = .ok (.iconst 2, 1) := by decide +kernel
theorem d_M_meets_101 : decode b_M_meets 101 = .ok (.iload_n 3, 1) := by decide +kernel
theorem d_M_meets_102 : decode b_M_meets 102 = .ok (.imul, 1) := by decide +kernel
theorem d_M_meets_103 : decode b_M_meets 103 = .ok (.iconst 1, 1) := by decide +kernel
theorem d_M_meets_104 : decode b_M_meets 104 = .ok (.iadd, 1) := by decide +kernel
theorem d_M_meets_105 : decode b_M_meets 105 = .ok (.iload 9, 2) := by decide +kernel
theorem d_M_meets_107 : decode b_M_meets 107 = .ok (.imul, 1) := by decide +kernel
theorem d_M_meets_108 : decode b_M_meets 108 = .ok (.isub, 1) := by decide +kernel
theorem d_M_meets_109 : decode b_M_meets 109 = .ok (.istore 10, 2) := by decide +kernel
theorem d_M_meets_111 : decode b_M_meets 111 = .ok (.iload 9, 2) := by decide +kernel
theorem d_M_meets_113 : decode b_M_meets 113 = .ok (.ifCond .le 16, 3) := by decide +kernel
theorem d_M_meets_116 : decode b_M_meets 116 = .ok (.iload 10, 2) := by decide +kernel
theorem d_M_meets_118 : decode b_M_meets 118 = .ok (.ifCond .le 7, 3) := by decide +kernel
theorem d_M_meets_121 : decode b_M_meets 121 = .ok (.iconst 1, 1) := by decide +kernel
theorem d_M_meets_122 : decode b_M_meets 122 = .ok (.goto 17, 3) := by decide +kernel
theorem d_M_meets_125 : decode b_M_meets 125 = .ok (.iconst 0, 1) := by decide +kernel
theorem d_M_meets_126 : decode b_M_meets 126 = .ok (.goto 13, 3) := by decide +kernel
theorem d_M_meets_129 : decode b_M_meets 129 = .ok (.iload 10, 2) := by decide +kernel
theorem d_M_meets_131 : decode b_M_meets 131 = .ok (.ifCond .ge 7, 3) := by decide +kernel
theorem d_M_meets_134 : decode b_M_meets 134 = .ok (.iconst 1, 1) := by decide +kernel
theorem d_M_meets_135 : decode b_M_meets 135 = .ok (.goto 4, 3) := by decide +kernel
theorem d_M_meets_138 : decode b_M_meets 138 = .ok (.iconst 0, 1) := by decide +kernel
theorem d_M_meets_139 : decode b_M_meets 139 = .ok (.ireturn, 1) := by decide +kernel
theorem d_M_copy_0 : decode b_M_copy 0 = .ok (.aload_n 0, 1) := by decide +kernel
theorem d_M_copy_1 : decode b_M_copy 1 = .ok (.iload_n 1, 1) := by decide +kernel
theorem d_M_copy_2 : decode b_M_copy 2 = .ok (.invokevirtual 97, 3) := by decide +kernel
theorem d_M_copy_5 : decode b_M_copy 5 = .ok (.ifCond .eq 78, 3) := by decide +kernel
theorem d_M_copy_8 : decode b_M_copy 8 = .ok (.iload_n 2, 1) := by decide +kernel
theorem d_M_copy_9 : decode b_M_copy 9 = .ok (.invokestatic 102, 3) := by decide +kernel
theorem d_M_copy_12 : decode b_M_copy 12 = .ok (.ifCond .eq 71, 3) := by decide +kernel
theorem d_M_copy_15 : decode b_M_copy 15 = .ok (.aload_n 0, 1) := by decide +kernel
theorem d_M_copy_16 : decode b_M_copy 16 = .ok (.iload_n 3, 1) := by decide +kernel
theorem d_M_copy_17 : decode b_M_copy 17 = .ok (.invokevirtual 93, 3) := by decide +kernel
theorem d_M_copy_20 : decode b_M_copy 20 = .ok (.ifCond .eq 63, 3) := by decide +kernel
theorem d_M_copy_23 : decode b_M_copy 23 = .ok (.iload 4, 2) := by decide +kernel
theorem d_M_copy_25 : decode b_M_copy 25 = .ok (.invokestatic 102, 3) := by decide +kernel
theorem d_M_copy_28 : decode b_M_copy 28 = .ok (.ifCond .eq 55, 3) := by decide +kernel
theorem d_M_copy_31 : decode b_M_copy 31 = .ok (.iload 5, 2) := by decide +kernel
theorem d_M_copy_33 : decode b_M_copy 33 = .ok (.ifCond .lt 50, 3) := by decide +kernel
theorem d_M_copy_36 : decode b_M_copy 36 = .ok (.iload 6, 2) := by decide +kernel
theorem d_M_copy_38 : decode b_M_copy 38 = .ok (.ifCond .lt 45, 3) := by decide +kernel
theorem d_M_copy_41 : decode b_M_copy 41 = .ok (.iload 5, 2) := by decide +kernel
theorem d_M_copy_43 : decode b_M_copy 43 = .ok (.bipush 32, 2) := by decide +kernel
theorem d_M_copy_45 : decode b_M_copy 45 = .ok (.if_icmp .ge 38, 3) := by decide +kernel
theorem d_M_copy_48 : decode b_M_copy 48 = .ok (.iload 6, 2) := by decide +kernel
theorem d_M_copy_50 : decode b_M_copy 50 = .ok (.bipush 32, 2) := by decide +kernel
theorem d_M_copy_52 : decode b_M_copy 52 = .ok (.if_icmp .ge 31, 3) := by decide +kernel
theorem d_M_copy_55 : decode b_M_copy 55 = .ok (.aload_n 0, 1) := by decide +kernel
theorem d_M_copy_56 : decode b_M_copy 56 = .ok (.getfield 58, 3) := by decide +kernel
theorem d_M_copy_59 : decode b_M_copy 59 = .ok (.bipush 32, 2) := by decide +kernel
theorem d_M_copy_61 : decode b_M_copy 61 = .ok (.iload 5, 2) := by decide +kernel
theorem d_M_copy_63 : decode b_M_copy 63 = .ok (.isub, 1) := by decide +kernel
theorem d_M_copy_64 : decode b_M_copy 64 = .ok (.if_icmp .gt 19, 3) := by decide +kernel
theorem d_M_copy_67 : decode b_M_copy 67 = .ok (.aload_n 0, 1) := by decide +kernel
theorem d_M_copy_68 : decode b_M_copy 68 = .ok (.getfield 61, 3) := by decide +kernel
theorem d_M_copy_71 : decode b_M_copy 71 = .ok (.bipush 32, 2) := by decide +kernel
theorem d_M_copy_73 : decode b_M_copy 73 = .ok (.iload 6, 2) := by decide +kernel
theorem d_M_copy_75 : decode b_M_copy 75 = .ok (.isub, 1) := by decide +kernel
theorem d_M_copy_76 : decode b_M_copy 76 = .ok (.if_icmp .gt 7, 3) := by decide +kernel
theorem d_M_copy_79 : decode b_M_copy 79 = .ok (.iconst 1, 1) := by decide +kernel
theorem d_M_copy_80 : decode b_M_copy 80 = .ok (.goto 4, 3) := by decide +kernel
theorem d_M_copy_83 : decode b_M_copy 83 = .ok (.iconst 0, 1) := by decide +kernel
theorem d_M_copy_84 : decode b_M_copy 84 = .ok (.istore 7, 2) := by decide +kernel
theorem d_M_copy_86 : decode b_M_copy 86 = .ok (.aload_n 0, 1) := by decide +kernel
theorem d_M_copy_87 : decode b_M_copy 87 = .ok (.iload 7, 2) := by decide +kernel
theorem d_M_copy_89 : decode b_M_copy 89 = .ok (.ifCond .ne 7, 3) := by decide +kernel
theorem d_M_copy_92 : decode b_M_copy 92 = .ok (.iconst 1, 1) := by decide +kernel
theorem d_M_copy_93 : decode b_M_copy 93 = .ok (.goto 4, 3) := by decide +kernel
theorem d_M_copy_96 : decode b_M_copy 96 = .ok (.iconst 0, 1) := by decide +kernel
theorem d_M_copy_97 : decode b_M_copy 97 = .ok (.invokevirtual 119, 3) := by decide +kernel
theorem d_M_copy_100 : decode b_M_copy 100 = .ok (.ifCond .eq 4, 3) := by decide +kernel
theorem d_M_copy_103 : decode b_M_copy 103 = .ok (.return_, 1) := by decide +kernel
theorem d_M_copy_104 : decode b_M_copy 104 = .ok (.iconst 0, 1) := by decide +kernel
theorem d_M_copy_105 : decode b_M_copy 105 = .ok (.istore 8, 2) := by decide +kernel
theorem d_M_copy_107 : decode b_M_copy 107 = .ok (.iload 8, 2) := by decide +kernel
theorem d_M_copy_109 : decode b_M_copy 109 = .ok (.aload_n 0, 1) := by decide +kernel
theorem d_M_copy_110 : decode b_M_copy 110 = .ok (.getfield 61, 3) := by decide +kernel
theorem d_M_copy_113 : decode b_M_copy 113 = .ok (.if_icmp .ge 107, 3) := by decide +kernel
theorem d_M_copy_116 : decode b_M_copy 116 = .ok (.iconst 0, 1) := by decide +kernel
theorem d_M_copy_117 : decode b_M_copy 117 = .ok (.istore 9, 2) := by decide +kernel
theorem d_M_copy_119 : decode b_M_copy 119 = .ok (.iload 9, 2) := by decide +kernel
theorem d_M_copy_121 : decode b_M_copy 121 = .ok (.aload_n 0, 1) := by decide +kernel
theorem d_M_copy_122 : decode b_M_copy 122 = .ok (.getfield 58, 3) := by decide +kernel
theorem d_M_copy_125 : decode b_M_copy 125 = .ok (.if_icmp .ge 89, 3) := by decide +kernel
theorem d_M_copy_128 : decode b_M_copy 128 = .ok (.sipush 4096, 3) := by decide +kernel
theorem d_M_copy_131 : decode b_M_copy 131 = .ok (.iload_n 3, 1) := by decide +kernel
theorem d_M_copy_132 : decode b_M_copy 132 = .ok (.imul, 1) := by decide +kernel
theorem d_M_copy_133 : decode b_M_copy 133 = .ok (.iload 4, 2) := by decide +kernel
theorem d_M_copy_135 : decode b_M_copy 135 = .ok (.aload_n 0, 1) := by decide +kernel
theorem d_M_copy_136 : decode b_M_copy 136 = .ok (.getfield 109, 3) := by decide +kernel
theorem d_M_copy_139 : decode b_M_copy 139 = .ok (.iload 9, 2) := by decide +kernel
theorem d_M_copy_141 : decode b_M_copy 141 = .ok (.iadd, 1) := by decide +kernel
theorem d_M_copy_142 : decode b_M_copy 142 = .ok (.aload_n 0, 1) := by decide +kernel
theorem d_M_copy_143 : decode b_M_copy 143 = .ok (.getfield 112, 3) := by decide +kernel
theorem d_M_copy_146 : decode b_M_copy 146 = .ok (.iload 8, 2) := by decide +kernel
theorem d_M_copy_148 : decode b_M_copy 148 = .ok (.iadd, 1) := by decide +kernel
theorem d_M_copy_149 : decode b_M_copy 149 = .ok (.invokestatic 123, 3) := by decide +kernel
theorem d_M_copy_152 : decode b_M_copy 152 = .ok (.iadd, 1) := by decide +kernel
theorem d_M_copy_153 : decode b_M_copy 153 = .ok (.istore 10, 2) := by decide +kernel
theorem d_M_copy_155 : decode b_M_copy 155 = .ok (.sipush 4096, 3) := by decide +kernel
theorem d_M_copy_158 : decode b_M_copy 158 = .ok (.bipush 24, 2) := by decide +kernel
theorem d_M_copy_160 : decode b_M_copy 160 = .ok (.iload_n 1, 1) := by decide +kernel
theorem d_M_copy_161 : decode b_M_copy 161 = .ok (.iadd, 1) := by decide +kernel
theorem d_M_copy_162 : decode b_M_copy 162 = .ok (.imul, 1) := by decide +kernel
theorem d_M_copy_163 : decode b_M_copy 163 = .ok (.iload_n 2, 1) := by decide +kernel
theorem d_M_copy_164 : decode b_M_copy 164 = .ok (.iload 5, 2) := by decide +kernel
theorem d_M_copy_166 : decode b_M_copy 166 = .ok (.iload 9, 2) := by decide +kernel
theorem d_M_copy_168 : decode b_M_copy 168 = .ok (.iadd, 1) := by decide +kernel
theorem d_M_copy_169 : decode b_M_copy 169 = .ok (.iload 6, 2) := by decide +kernel
theorem d_M_copy_171 : decode b_M_copy 171 = .ok (.iload 8, 2) := by decide +kernel
theorem d_M_copy_173 : decode b_M_copy 173 = .ok (.iadd, 1) := by decide +kernel
theorem d_M_copy_174 : decode b_M_copy 174 = .ok (.invokestatic 123, 3) := by decide +kernel
theorem d_M_copy_177 : decode b_M_copy 177 = .ok (.iadd, 1) := by decide +kernel
theorem d_M_copy_178 : decode b_M_copy 178 = .ok (.istore 11, 2) := by decide +kernel
theorem d_M_copy_180 : decode b_M_copy 180 = .ok (.aload_n 0, 1) := by decide +kernel
theorem d_M_copy_181 : decode b_M_copy 181 = .ok (.getfield 8, 3) := by decide +kernel
theorem d_M_copy_184 : decode b_M_copy 184 = .ok (.iload 11, 2) := by decide +kernel
theorem d_M_copy_186 : decode b_M_copy 186 = .ok (.aload_n 0, 1) := by decide +kernel
theorem d_M_copy_187 : decode b_M_copy 187 = .ok (.getfield 8, 3) := by decide +kernel
theorem d_M_copy_190 : decode b_M_copy 190 = .ok (.iload 10, 2) := by decide +kernel
theorem d_M_copy_192 : decode b_M_copy 192 = .ok (.iaload, 1) := by decide +kernel
theorem d_M_copy_193 : decode b_M_copy 193 = .ok (.iastore, 1) := by decide +kernel
theorem d_M_copy_194 : decode b_M_copy 194 = .ok (.aload_n 0, 1) := by decide +kernel
theorem d_M_copy_195 : decode b_M_copy 195 = .ok (.getfield 14, 3) := by decide +kernel
theorem d_M_copy_198 : decode b_M_copy 198 = .ok (.iload 11, 2) := by decide +kernel
theorem d_M_copy_200 : decode b_M_copy 200 = .ok (.aload_n 0, 1) := by decide +kernel
theorem d_M_copy_201 : decode b_M_copy 201 = .ok (.getfield 14, 3) := by decide +kernel
theorem d_M_copy_204 : decode b_M_copy 204 = .ok (.iload 10, 2) := by decide +kernel
theorem d_M_copy_206 : decode b_M_copy 206 = .ok (.iaload, 1) := by decide +kernel
theorem d_M_copy_207 : decode b_M_copy 207 = .ok (.iastore, 1) := by decide +kernel
theorem d_M_copy_208 : decode b_M_copy 208 = .ok (.iinc 9 1, 3) := by decide +kernel
theorem d_M_copy_211 : decode b_M_copy 211 = .ok (.goto (-92), 3) := by decide +kernel
theorem d_M_copy_214 : decode b_M_copy 214 = .ok (.iinc 8 1, 3) := by decide +kernel
theorem d_M_copy_217 : decode b_M_copy 217 = .ok (.goto (-110), 3) := by decide +kernel
theorem d_M_copy_220 : decode b_M_copy 220 = .ok (.return_, 1) := by decide +kernel
theorem d_M_entry_0 : decode b_M_entry 0 = .ok (.aload_n 0, 1) := by decide +kernel
theorem d_M_entry_1 : decode b_M_entry 1 = .ok (.iconst 0, 1) := by decide +kernel
theorem d_M_entry_2 : decode b_M_entry 2 = .ok (.putfield 90, 3) := by decide +kernel
theorem d_M_entry_5 : decode b_M_entry 5 = .ok (.iload_n 1, 1) := by decide +kernel
theorem d_M_entry_6 : decode b_M_entry 6 = .ok (.ifCond .lt 23, 3) := by decide +kernel
theorem d_M_entry_9 : decode b_M_entry 9 = .ok (.iload_n 1, 1) := by decide +kernel
theorem d_M_entry_10 : decode b_M_entry 10 = .ok (.bipush 7, 2) := by decide +kernel
theorem d_M_entry_12 : decode b_M_entry 12 = .ok (.if_icmp .gt 17, 3) := by decide +kernel
theorem d_M_entry_15 : decode b_M_entry 15 = .ok (.iload_n 2, 1) := by decide +kernel
theorem d_M_entry_16 : decode b_M_entry 16 = .ok (.invokestatic 116, 3) := by decide +kernel
theorem d_M_entry_19 : decode b_M_entry 19 = .ok (.ifCond .eq 10, 3) := by decide +kernel
theorem d_M_entry_22 : decode b_M_entry 22 = .ok (.iload_n 3, 1) := by decide +kernel
theorem d_M_entry_23 : decode b_M_entry 23 = .ok (.invokestatic 116, 3) := by decide +kernel
theorem d_M_entry_26 : decode b_M_entry 26 = .ok (.ifCond .ne 5, 3) := by decide +kernel
theorem d_M_entry_29 : decode b_M_entry 29 = .ok (.iconst 0, 1) := by decide +kernel
theorem d_M_entry_30 : decode b_M_entry 30 = .ok (.ireturn, 1) := by decide +kernel
theorem d_M_entry_31 : decode b_M_entry 31 = .ok (.aload_n 0, 1) := by decide +kernel
theorem d_M_entry_32 : decode b_M_entry 32 = .ok (.getfield 70, 3) := by decide +kernel
theorem d_M_entry_35 : decode b_M_entry 35 = .ok (.iload_n 1, 1) := by decide +kernel
theorem d_M_entry_36 : decode b_M_entry 36 = .ok (.iload_n 2, 1) := by decide +kernel
theorem d_M_entry_37 : decode b_M_entry 37 = .ok (.iastore, 1) := by decide +kernel
theorem d_M_entry_38 : decode b_M_entry 38 = .ok (.aload_n 0, 1) := by decide +kernel
theorem d_M_entry_39 : decode b_M_entry 39 = .ok (.getfield 73, 3) := by decide +kernel
theorem d_M_entry_42 : decode b_M_entry 42 = .ok (.iload_n 1, 1) := by decide +kernel
theorem d_M_entry_43 : decode b_M_entry 43 = .ok (.iload_n 3, 1) := by decide +kernel
theorem d_M_entry_44 : decode b_M_entry 44 = .ok (.iastore, 1) := by decide +kernel
theorem d_M_entry_45 : decode b_M_entry 45 = .ok (.iconst 1, 1) := by decide +kernel
theorem d_M_entry_46 : decode b_M_entry 46 = .ok (.ireturn, 1) := by decide +kernel
theorem d_M_map_0 : decode b_M_map 0 = .ok (.aload_n 0, 1) := by decide +kernel
theorem d_M_map_1 : decode b_M_map 1 = .ok (.aload_n 0, 1) := by decide +kernel
theorem d_M_map_2 : decode b_M_map 2 = .ok (.iload_n 1, 1) := by decide +kernel
theorem d_M_map_3 : decode b_M_map 3 = .ok (.invokevirtual 97, 3) := by decide +kernel
theorem d_M_map_6 : decode b_M_map 6 = .ok (.ifCond .eq 10, 3) := by decide +kernel
theorem d_M_map_9 : decode b_M_map 9 = .ok (.iload_n 2, 1) := by decide +kernel
theorem d_M_map_10 : decode b_M_map 10 = .ok (.invokestatic 102, 3) := by decide +kernel
theorem d_M_map_13 : decode b_M_map 13 = .ok (.ifCond .ne 7, 3) := by decide +kernel
theorem d_M_map_16 : decode b_M_map 16 = .ok (.iconst 1, 1) := by decide +kernel
theorem d_M_map_17 : decode b_M_map 17 = .ok (.goto 4, 3) := by decide +kernel
theorem d_M_map_20 : decode b_M_map 20 = .ok (.iconst 0, 1) := by decide +kernel
theorem d_M_map_21 : decode b_M_map 21 = .ok (.invokevirtual 119, 3) := by decide +kernel
theorem d_M_map_24 : decode b_M_map 24 = .ok (.ifCond .eq 4, 3) := by decide +kernel
theorem d_M_map_27 : decode b_M_map 27 = .ok (.return_, 1) := by decide +kernel
theorem d_M_map_28 : decode b_M_map 28 = .ok (.aload_n 0, 1) := by decide +kernel
theorem d_M_map_29 : decode b_M_map 29 = .ok (.getfield 112, 3) := by decide +kernel
theorem d_M_map_32 : decode b_M_map 32 = .ok (.istore_n 3, 1) := by decide +kernel
theorem d_M_map_33 : decode b_M_map 33 = .ok (.iload_n 3, 1) := by decide +kernel
theorem d_M_map_34 : decode b_M_map 34 = .ok (.aload_n 0, 1) := by decide +kernel
theorem d_M_map_35 : decode b_M_map 35 = .ok (.getfield 112, 3) := by decide +kernel
theorem d_M_map_38 : decode b_M_map 38 = .ok (.aload_n 0, 1) := by decide +kernel
theorem d_M_map_39 : decode b_M_map 39 = .ok (.getfield 61, 3) := by decide +kernel
theorem d_M_map_42 : decode b_M_map 42 = .ok (.iadd, 1) := by decide +kernel
theorem d_M_map_43 : decode b_M_map 43 = .ok (.if_icmp .ge 135, 3) := by decide +kernel
theorem d_M_map_46 : decode b_M_map 46 = .ok (.aload_n 0, 1) := by decide +kernel
theorem d_M_map_47 : decode b_M_map 47 = .ok (.getfield 109, 3) := by decide +kernel
theorem d_M_map_50 : decode b_M_map 50 = .ok (.istore 4, 2) := by decide +kernel
theorem d_M_map_52 : decode b_M_map 52 = .ok (.iload 4, 2) := by decide +kernel
theorem d_M_map_54 : decode b_M_map 54 = .ok (.aload_n 0, 1) := by decide +kernel
theorem d_M_map_55 : decode b_M_map 55 = .ok (.getfield 109, 3) := by decide +kernel
theorem d_M_map_58 : decode b_M_map 58 = .ok (.aload_n 0, 1) := by decide +kernel
theorem d_M_map_59 : decode b_M_map 59 = .ok (.getfield 58, 3) := by decide +kernel
theorem d_M_map_62 : decode b_M_map 62 = .ok (.iadd, 1) := by decide +kernel
theorem d_M_map_63 : decode b_M_map 63 = .ok (.if_icmp .ge 109, 3) := by decide +kernel
theorem d_M_map_66 : decode b_M_map 66 = .ok (.iload_n 2, 1) := by decide +kernel
theorem d_M_map_67 : decode b_M_map 67 = .ok (.iload 4, 2) := by decide +kernel
theorem d_M_map_69 : decode b_M_map 69 = .ok (.iload_n 3, 1) := by decide +kernel
theorem d_M_map_70 : decode b_M_map 70 = .ok (.invokestatic 123, 3) := by decide +kernel
theorem d_M_map_73 : decode b_M_map 73 = .ok (.istore 5, 2) := by decide +kernel
theorem d_M_map_75 : decode b_M_map 75 = .ok (.aload_n 0, 1) := by decide +kernel
theorem d_M_map_76 : decode b_M_map 76 = .ok (.getfield 8, 3) := by decide +kernel
theorem d_M_map_79 : decode b_M_map 79 = .ok (.sipush 4096, 3) := by decide +kernel
theorem d_M_map_82 : decode b_M_map 82 = .ok (.bipush 24, 2) := by decide +kernel
theorem d_M_map_84 : decode b_M_map 84 = .ok (.iload_n 1, 1) := by decide +kernel
theorem d_M_map_85 : decode b_M_map 85 = .ok (.iadd, 1) := by decide +kernel
theorem d_M_map_86 : decode b_M_map 86 = .ok (.imul, 1) := by decide +kernel
theorem d_M_map_87 : decode b_M_map 87 = .ok (.iload 5, 2) := by decide +kernel
theorem d_M_map_89 : decode b_M_map 89 = .ok (.iadd, 1) := by decide +kernel
theorem d_M_map_90 : decode b_M_map 90 = .ok (.iaload, 1) := by decide +kernel
theorem d_M_map_91 : decode b_M_map 91 = .ok (.istore 6, 2) := by decide +kernel
theorem d_M_map_93 : decode b_M_map 93 = .ok (.bipush 8, 2) := by decide +kernel
theorem d_M_map_95 : decode b_M_map 95 = .ok (.istore 7, 2) := by decide +kernel
theorem d_M_map_97 : decode b_M_map 97 = .ok (.bipush 7, 2) := by decide +kernel
theorem d_M_map_99 : decode b_M_map 99 = .ok (.istore 8, 2) := by decide +kernel
theorem d_M_map_101 : decode b_M_map 101 = .ok (.iload 8, 2) := by decide +kernel
theorem d_M_map_103 : decode b_M_map 103 = .ok (.ifCond .lt 30, 3) := by decide +kernel
theorem d_M_map_106 : decode b_M_map 106 = .ok (.aload_n 0, 1) := by decide +kernel
theorem d_M_map_107 : decode b_M_map 107 = .ok (.getfield 70, 3) := by decide +kernel
theorem d_M_map_110 : decode b_M_map 110 = .ok (.iload 8, 2) := by decide +kernel
theorem d_M_map_112 : decode b_M_map 112 = .ok (.iaload, 1) := by decide +kernel
theorem d_M_map_113 : decode b_M_map 113 = .ok (.iload 6, 2) := by decide +kernel
theorem d_M_map_115 : decode b_M_map 115 = .ok (.if_icmp .ne 8, 3) := by decide +kernel
theorem d_M_map_118 : decode b_M_map 118 = .ok (.iload 8, 2) := by decide +kernel
theorem d_M_map_120 : decode b_M_map 120 = .ok (.goto 5, 3) := by decide +kernel
theorem d_M_map_123 : decode b_M_map 123 = .ok (.iload 7, 2) := by decide +kernel
theorem d_M_map_125 : decode b_M_map 125 = .ok (.istore 7, 2) := by decide +kernel
theorem d_M_map_127 : decode b_M_map 127 = .ok (.iinc 8 (-1), 3) := by decide +kernel
theorem d_M_map_130 : decode b_M_map 130 = .ok (.goto (-29), 3) := by decide +kernel
theorem d_M_map_133 : decode b_M_map 133 = .ok (.iload 7, 2) := by decide +kernel
theorem d_M_map_135 : decode b_M_map 135 = .ok (.bipush 8, 2) := by decide +kernel
theorem d_M_map_137 : decode b_M_map 137 = .ok (.if_icmp .ge 29, 3) := by decide +kernel
theorem d_M_map_140 : decode b_M_map 140 = .ok (.aload_n 0, 1) := by decide +kernel
theorem d_M_map_141 : decode b_M_map 141 = .ok (.getfield 73, 3) := by decide +kernel
theorem d_M_map_144 : decode b_M_map 144 = .ok (.iload 7, 2) := by decide +kernel
theorem d_M_map_146 : decode b_M_map 146 = .ok (.iaload, 1) := by decide +kernel
theorem d_M_map_147 : decode b_M_map 147 = .ok (.iload 6, 2) := by decide +kernel
theorem d_M_map_149 : decode b_M_map 149 = .ok (.if_icmp .eq 17, 3) := by decide +kernel
theorem d_M_map_152 : decode b_M_map 152 = .ok (.aload_n 0, 1) := by decide +kernel
theorem d_M_map_153 : decode b_M_map 153 = .ok (.iload_n 1, 1) := by decide +kernel
theorem d_M_map_154 : decode b_M_map 154 = .ok (.iload 5, 2) := by decide +kernel
theorem d_M_map_156 : decode b_M_map 156 = .ok (.aload_n 0, 1) := by decide +kernel
theorem d_M_map_157 : decode b_M_map 157 = .ok (.getfield 73, 3) := by decide +kernel
theorem d_M_map_160 : decode b_M_map 160 = .ok (.iload 7, 2) := by decide +kernel
theorem d_M_map_162 : decode b_M_map 162 = .ok (.iaload, 1) := by decide +kernel
theorem d_M_map_163 : decode b_M_map 163 = .ok (.invokevirtual 127, 3) := by decide +kernel
theorem d_M_map_166 : decode b_M_map 166 = .ok (.iinc 4 1, 3) := by decide +kernel
theorem d_M_map_169 : decode b_M_map 169 = .ok (.goto (-117), 3) := by decide +kernel
theorem d_M_map_172 : decode b_M_map 172 = .ok (.iinc 3 1, 3) := by decide +kernel
theorem d_M_map_175 : decode b_M_map 175 = .ok (.goto (-142), 3) := by decide +kernel
theorem d_M_map_178 : decode b_M_map 178 = .ok (.return_, 1) := by decide +kernel
theorem d_M_combine_0 : decode b_M_combine 0 = .ok (.aload_n 0, 1) := by decide +kernel
theorem d_M_combine_1 : decode b_M_combine 1 = .ok (.aload_n 0, 1) := by decide +kernel
theorem d_M_combine_2 : decode b_M_combine 2 = .ok (.iload_n 1, 1) := by decide +kernel
theorem d_M_combine_3 : decode b_M_combine 3 = .ok (.invokevirtual 97, 3) := by decide +kernel
theorem d_M_combine_6 : decode b_M_combine 6 = .ok (.ifCond .eq 28, 3) := by decide +kernel
theorem d_M_combine_9 : decode b_M_combine 9 = .ok (.iload_n 2, 1) := by decide +kernel
theorem d_M_combine_10 : decode b_M_combine 10 = .ok (.invokestatic 102, 3) := by decide +kernel
theorem d_M_combine_13 : decode b_M_combine 13 = .ok (.ifCond .eq 21, 3) := by decide +kernel
theorem d_M_combine_16 : decode b_M_combine 16 = .ok (.iload_n 3, 1) := by decide +kernel
theorem d_M_combine_17 : decode b_M_combine 17 = .ok (.invokestatic 102, 3) := by decide +kernel
theorem d_M_combine_20 : decode b_M_combine 20 = .ok (.ifCond .eq 14, 3) := by decide +kernel
theorem d_M_combine_23 : decode b_M_combine 23 = .ok (.iload 4, 2) := by decide +kernel
theorem d_M_combine_25 : decode b_M_combine 25 = .ok (.ifCond .lt 9, 3) := by decide +kernel
theorem d_M_combine_28 : decode b_M_combine 28 = .ok (.iload 4, 2) := by decide +kernel
theorem d_M_combine_30 : decode b_M_combine 30 = .ok (.iconst 2, 1) := by decide +kernel
theorem d_M_combine_31 : decode b_M_combine 31 = .ok (.if_icmp .le 7, 3) := by decide +kernel
theorem d_M_combine_34 : decode b_M_combine 34 = .ok (.iconst 1, 1) := by decide +kernel
theorem d_M_combine_35 : decode b_M_combine 35 = .ok (.goto 4, 3) := by decide +kernel
theorem d_M_combine_38 : decode b_M_combine 38 = .ok (.iconst 0, 1) := by decide +kernel
theorem d_M_combine_39 : decode b_M_combine 39 = .ok (.invokevirtual 119, 3) := by decide +kernel
theorem d_M_combine_42 : decode b_M_combine 42 = .ok (.ifCond .eq 4, 3) := by decide +kernel
theorem d_M_combine_45 : decode b_M_combine 45 = .ok (.return_, 1) := by decide +kernel
theorem d_M_combine_46 : decode b_M_combine 46 = .ok (.aload_n 0, 1) := by decide +kernel
theorem d_M_combine_47 : decode b_M_combine 47 = .ok (.getfield 112, 3) := by decide +kernel
theorem d_M_combine_50 : decode b_M_combine 50 = .ok (.istore 5, 2) := by decide +kernel
theorem d_M_combine_52 : decode b_M_combine 52 = .ok (.iload 5, 2) := by decide +kernel
theorem d_M_combine_54 : decode b_M_combine 54 = .ok (.aload_n 0, 1) := by decide +kernel
theorem d_M_combine_55 : decode b_M_combine 55 = .ok (.getfield 112, 3) := by decide +kernel
theorem d_M_combine_58 : decode b_M_combine 58 = .ok (.aload_n 0, 1) := by decide +kernel
theorem d_M_combine_59 : decode b_M_combine 59 = .ok (.getfield 61, 3) := by decide +kernel
theorem d_M_combine_62 : decode b_M_combine 62 = .ok (.iadd, 1) := by decide +kernel
theorem d_M_combine_63 : decode b_M_combine 63 = .ok (.if_icmp .ge 211, 3) := by decide +kernel
theorem d_M_combine_66 : decode b_M_combine 66 = .ok (.aload_n 0, 1) := by decide +kernel
theorem d_M_combine_67 : decode b_M_combine 67 = .ok (.getfield 109, 3) := by decide +kernel
theorem d_M_combine_70 : decode b_M_combine 70 = .ok (.istore 6, 2) := by decide +kernel
theorem d_M_combine_72 : decode b_M_combine 72 = .ok (.iload 6, 2) := by decide +kernel
theorem d_M_combine_74 : decode b_M_combine 74 = .ok (.aload_n 0, 1) := by decide +kernel
theorem d_M_combine_75 : decode b_M_combine 75 = .ok (.getfield 109, 3) := by decide +kernel
theorem d_M_combine_78 : decode b_M_combine 78 = .ok (.aload_n 0, 1) := by decide +kernel
theorem d_M_combine_79 : decode b_M_combine 79 = .ok (.getfield 58, 3) := by decide +kernel
theorem d_M_combine_82 : decode b_M_combine 82 = .ok (.iadd, 1) := by decide +kernel
theorem d_M_combine_83 : decode b_M_combine 83 = .ok (.if_icmp .ge 185, 3) := by decide +kernel
theorem d_M_combine_86 : decode b_M_combine 86 = .ok (.iload_n 2, 1) := by decide +kernel
theorem d_M_combine_87 : decode b_M_combine 87 = .ok (.iload 6, 2) := by decide +kernel
theorem d_M_combine_89 : decode b_M_combine 89 = .ok (.iload 5, 2) := by decide +kernel
theorem d_M_combine_91 : decode b_M_combine 91 = .ok (.invokestatic 123, 3) := by decide +kernel
theorem d_M_combine_94 : decode b_M_combine 94 = .ok (.istore 7, 2) := by decide +kernel
theorem d_M_combine_96 : decode b_M_combine 96 = .ok (.aload_n 0, 1) := by decide +kernel
theorem d_M_combine_97 : decode b_M_combine 97 = .ok (.getfield 8, 3) := by decide +kernel
theorem d_M_combine_100 : decode b_M_combine 100 = .ok (.sipush 4096, 3) := by decide +kernel
theorem d_M_combine_103 : decode b_M_combine 103 = .ok (.bipush 24, 2) := by decide +kernel
theorem d_M_combine_105 : decode b_M_combine 105 = .ok (.iload_n 1, 1) := by decide +kernel
theorem d_M_combine_106 : decode b_M_combine 106 = .ok (.iadd, 1) := by decide +kernel
theorem d_M_combine_107 : decode b_M_combine 107 = .ok (.imul, 1) := by decide +kernel
theorem d_M_combine_108 : decode b_M_combine 108 = .ok (.iload 7, 2) := by decide +kernel
theorem d_M_combine_110 : decode b_M_combine 110 = .ok (.iadd, 1) := by decide +kernel
theorem d_M_combine_111 : decode b_M_combine 111 = .ok (.iaload, 1) := by decide +kernel
theorem d_M_combine_112 : decode b_M_combine 112 = .ok (.istore 8, 2) := by decide +kernel
theorem d_M_combine_114 : decode b_M_combine 114 = .ok (.aload_n 0, 1) := by decide +kernel
theorem d_M_combine_115 : decode b_M_combine 115 = .ok (.getfield 8, 3) := by decide +kernel
theorem d_M_combine_118 : decode b_M_combine 118 = .ok (.sipush 4096, 3) := by decide +kernel
theorem d_M_combine_121 : decode b_M_combine 121 = .ok (.bipush 24, 2) := by decide +kernel
theorem d_M_combine_123 : decode b_M_combine 123 = .ok (.iload_n 1, 1) := by decide +kernel
theorem d_M_combine_124 : decode b_M_combine 124 = .ok (.iadd, 1) := by decide +kernel
theorem d_M_combine_125 : decode b_M_combine 125 = .ok (.imul, 1) := by decide +kernel
theorem d_M_combine_126 : decode b_M_combine 126 = .ok (.iload_n 3, 1) := by decide +kernel
theorem d_M_combine_127 : decode b_M_combine 127 = .ok (.iload 6, 2) := by decide +kernel
theorem d_M_combine_129 : decode b_M_combine 129 = .ok (.iload 5, 2) := by decide +kernel
theorem d_M_combine_131 : decode b_M_combine 131 = .ok (.invokestatic 123, 3) := by decide +kernel
theorem d_M_combine_134 : decode b_M_combine 134 = .ok (.iadd, 1) := by decide +kernel
theorem d_M_combine_135 : decode b_M_combine 135 = .ok (.iaload, 1) := by decide +kernel
theorem d_M_combine_136 : decode b_M_combine 136 = .ok (.istore 9, 2) := by decide +kernel
theorem d_M_combine_138 : decode b_M_combine 138 = .ok (.iload 9, 2) := by decide +kernel
theorem d_M_combine_140 : decode b_M_combine 140 = .ok (.ldc 89, 2) := by decide +kernel
theorem d_M_combine_142 : decode b_M_combine 142 = .ok (.if_icmp .ne 6, 3) := by decide +kernel
theorem d_M_combine_145 : decode b_M_combine 145 = .ok (.goto 117, 3) := by decide +kernel
theorem d_M_combine_148 : decode b_M_combine 148 = .ok (.iload 8, 2) := by decide +kernel
theorem d_M_combine_150 : decode b_M_combine 150 = .ok (.iload 9, 2) := by decide +kernel
theorem d_M_combine_152 : decode b_M_combine 152 = .ok (.iadd, 1) := by decide +kernel
theorem d_M_combine_153 : decode b_M_combine 153 = .ok (.ldc 101, 2) := by decide +kernel
theorem d_M_combine_155 : decode b_M_combine 155 = .ok (.if_icmp .le 8, 3) := by decide +kernel
theorem d_M_combine_158 : decode b_M_combine 158 = .ok (.ldc 101, 2) := by decide +kernel
theorem d_M_combine_160 : decode b_M_combine 160 = .ok (.goto 23, 3) := by decide +kernel
theorem d_M_combine_163 : decode b_M_combine 163 = .ok (.iload 8, 2) := by decide +kernel
theorem d_M_combine_165 : decode b_M_combine 165 = .ok (.iload 9, 2) := by decide +kernel
theorem d_M_combine_167 : decode b_M_combine 167 = .ok (.iadd, 1) := by decide +kernel
theorem d_M_combine_168 : decode b_M_combine 168 = .ok (.ldc 100, 2) := by decide +kernel
theorem d_M_combine_170 : decode b_M_combine 170 = .ok (.if_icmp .ge 8, 3) := by decide +kernel
theorem d_M_combine_173 : decode b_M_combine 173 = .ok (.ldc 100, 2) := by decide +kernel
theorem d_M_combine_175 : decode b_M_combine 175 = .ok (.goto 8, 3) := by decide +kernel
theorem d_M_combine_178 : decode b_M_combine 178 = .ok (.iload 8, 2) := by decide +kernel
theorem d_M_combine_180 : decode b_M_combine 180 = .ok (.iload 9, 2) := by decide +kernel
theorem d_M_combine_182 : decode b_M_combine 182 = .ok (.iadd, 1) := by decide +kernel
theorem d_M_combine_183 : decode b_M_combine 183 = .ok (.istore 10, 2) := by decide +kernel
theorem d_M_combine_185 : decode b_M_combine 185 = .ok (.iload 8, 2) := by decide +kernel
theorem d_M_combine_187 : decode b_M_combine 187 = .ok (.ldc 89, 2) := by decide +kernel
theorem d_M_combine_189 : decode b_M_combine 189 = .ok (.if_icmp .ne 8, 3) := by decide +kernel
theorem d_M_combine_192 : decode b_M_combine 192 = .ok (.iload 9, 2) := by decide +kernel
theorem d_M_combine_194 : decode b_M_combine 194 = .ok (.goto 50, 3) := by decide +kernel
theorem d_M_combine_197 : decode b_M_combine 197 = .ok (.iload 4, 2) := by decide +kernel
theorem d_M_combine_199 : decode b_M_combine 199 = .ok (.ifCond .ne 8, 3) := by decide +kernel
theorem d_M_combine_202 : decode b_M_combine 202 = .ok (.iload 10, 2) := by decide +kernel
theorem d_M_combine_204 : decode b_M_combine 204 = .ok (.goto 40, 3) := by decide +kernel
theorem d_M_combine_207 : decode b_M_combine 207 = .ok (.iload 4, 2) := by decide +kernel
theorem d_M_combine_209 : decode b_M_combine 209 = .ok (.iconst 1, 1) := by decide +kernel
theorem d_M_combine_210 : decode b_M_combine 210 = .ok (.if_icmp .ne 20, 3) := by decide +kernel
theorem d_M_combine_213 : decode b_M_combine 213 = .ok (.iload 8, 2) := by decide +kernel
theorem d_M_combine_215 : decode b_M_combine 215 = .ok (.iload 9, 2) := by decide +kernel
theorem d_M_combine_217 : decode b_M_combine 217 = .ok (.if_icmp .le 8, 3) := by decide +kernel
theorem d_M_combine_220 : decode b_M_combine 220 = .ok (.iload 8, 2) := by decide +kernel
theorem d_M_combine_222 : decode b_M_combine 222 = .ok (.goto 22, 3) := by decide +kernel
theorem d_M_combine_225 : decode b_M_combine 225 = .ok (.iload 9, 2) := by decide +kernel
theorem d_M_combine_227 : decode b_M_combine 227 = .ok (.goto 17, 3) := by decide +kernel
theorem d_M_combine_230 : decode b_M_combine 230 = .ok (.iload 8, 2) := by decide +kernel
theorem d_M_combine_232 : decode b_M_combine 232 = .ok (.iload 9, 2) := by decide +kernel
theorem d_M_combine_234 : decode b_M_combine 234 = .ok (.if_icmp .ge 8, 3) := by decide +kernel
theorem d_M_combine_237 : decode b_M_combine 237 = .ok (.iload 8, 2) := by decide +kernel
theorem d_M_combine_239 : decode b_M_combine 239 = .ok (.goto 5, 3) := by decide +kernel
theorem d_M_combine_242 : decode b_M_combine 242 = .ok (.iload 9, 2) := by decide +kernel
theorem d_M_combine_244 : decode b_M_combine 244 = .ok (.istore 11, 2) := by decide +kernel
theorem d_M_combine_246 : decode b_M_combine 246 = .ok (.iload 11, 2) := by decide +kernel
theorem d_M_combine_248 : decode b_M_combine 248 = .ok (.iload 8, 2) := by decide +kernel
theorem d_M_combine_250 : decode b_M_combine 250 = .ok (.if_icmp .eq 12, 3) := by decide +kernel
theorem d_M_combine_253 : decode b_M_combine 253 = .ok (.aload_n 0, 1) := by decide +kernel
theorem d_M_combine_254 : decode b_M_combine 254 = .ok (.iload_n 1, 1) := by decide +kernel
theorem d_M_combine_255 : decode b_M_combine 255 = .ok (.iload 7, 2) := by decide +kernel
theorem d_M_combine_257 : decode b_M_combine 257 = .ok (.iload 11, 2) := by decide +kernel
theorem d_M_combine_259 : decode b_M_combine 259 = .ok (.invokevirtual 127, 3) := by decide +kernel
theorem d_M_combine_262 : decode b_M_combine 262 = .ok (.iinc 6 1, 3) := by decide +kernel
theorem d_M_combine_265 : decode b_M_combine 265 = .ok (.goto (-193), 3) := by decide +kernel
theorem d_M_combine_268 : decode b_M_combine 268 = .ok (.iinc 5 1, 3) := by decide +kernel
theorem d_M_combine_271 : decode b_M_combine 271 = .ok (.goto (-219), 3) := by decide +kernel
theorem d_M_combine_274 : decode b_M_combine 274 = .ok (.return_, 1) := by decide +kernel
theorem d_M_commit_0 : decode b_M_commit 0 = .ok (.aload_n 0, 1) := by decide +kernel
theorem d_M_commit_1 : decode b_M_commit 1 = .ok (.aload_n 0, 1) := by decide +kernel
theorem d_M_commit_2 : decode b_M_commit 2 = .ok (.iload_n 1, 1) := by decide +kernel
theorem d_M_commit_3 : decode b_M_commit 3 = .ok (.invokevirtual 97, 3) := by decide +kernel
theorem d_M_commit_6 : decode b_M_commit 6 = .ok (.ifCond .ne 7, 3) := by decide +kernel
theorem d_M_commit_9 : decode b_M_commit 9 = .ok (.iconst 1, 1) := by decide +kernel
theorem d_M_commit_10 : decode b_M_commit 10 = .ok (.goto 33, 3) := by decide +kernel
theorem d_M_commit_13 : decode b_M_commit 13 = .ok (.aload_n 0, 1) := by decide +kernel
theorem d_M_commit_14 : decode b_M_commit 14 = .ok (.iload_n 1, 1) := by decide +kernel
theorem d_M_commit_15 : decode b_M_commit 15 = .ok (.invokevirtual 135, 3) := by decide +kernel
theorem d_M_commit_18 : decode b_M_commit 18 = .ok (.ifCond .eq 20, 3) := by decide +kernel
theorem d_M_commit_21 : decode b_M_commit 21 = .ok (.aload_n 0, 1) := by decide +kernel
theorem d_M_commit_22 : decode b_M_commit 22 = .ok (.iload_n 1, 1) := by decide +kernel
theorem d_M_commit_23 : decode b_M_commit 23 = .ok (.invokevirtual 138, 3) := by decide +kernel
theorem d_M_commit_26 : decode b_M_commit 26 = .ok (.ifCond .gt 12, 3) := by decide +kernel
theorem d_M_commit_29 : decode b_M_commit 29 = .ok (.aload_n 0, 1) := by decide +kernel
theorem d_M_commit_30 : decode b_M_commit 30 = .ok (.getfield 26, 3) := by decide +kernel
theorem d_M_commit_33 : decode b_M_commit 33 = .ok (.bipush 24, 2) := by decide +kernel
theorem d_M_commit_35 : decode b_M_commit 35 = .ok (.if_icmp .ne 7, 3) := by decide +kernel
theorem d_M_commit_38 : decode b_M_commit 38 = .ok (.iconst 2, 1) := by decide +kernel
theorem d_M_commit_39 : decode b_M_commit 39 = .ok (.goto 4, 3) := by decide +kernel
theorem d_M_commit_42 : decode b_M_commit 42 = .ok (.iconst 0, 1) := by decide +kernel
theorem d_M_commit_43 : decode b_M_commit 43 = .ok (.putfield 90, 3) := by decide +kernel
theorem d_M_commit_46 : decode b_M_commit 46 = .ok (.aload_n 0, 1) := by decide +kernel
theorem d_M_commit_47 : decode b_M_commit 47 = .ok (.getfield 90, 3) := by decide +kernel
theorem d_M_commit_50 : decode b_M_commit 50 = .ok (.ifCond .le 5, 3) := by decide +kernel
theorem d_M_commit_53 : decode b_M_commit 53 = .ok (.iconst 0, 1) := by decide +kernel
theorem d_M_commit_54 : decode b_M_commit 54 = .ok (.ireturn, 1) := by decide +kernel
theorem d_M_commit_55 : decode b_M_commit 55 = .ok (.aload_n 0, 1) := by decide +kernel
theorem d_M_commit_56 : decode b_M_commit 56 = .ok (.getfield 26, 3) := by decide +kernel
theorem d_M_commit_59 : decode b_M_commit 59 = .ok (.istore_n 2, 1) := by decide +kernel
theorem d_M_commit_60 : decode b_M_commit 60 = .ok (.aload_n 0, 1) := by decide +kernel
theorem d_M_commit_61 : decode b_M_commit 61 = .ok (.dup, 1) := by decide +kernel
theorem d_M_commit_62 : decode b_M_commit 62 = .ok (.getfield 26, 3) := by decide +kernel
theorem d_M_commit_65 : decode b_M_commit 65 = .ok (.iconst 1, 1) := by decide +kernel
theorem d_M_commit_66 : decode b_M_commit 66 = .ok (.iadd, 1) := by decide +kernel
theorem d_M_commit_67 : decode b_M_commit 67 = .ok (.putfield 26, 3) := by decide +kernel
theorem d_M_commit_70 : decode b_M_commit 70 = .ok (.sipush 4096, 3) := by decide +kernel
theorem d_M_commit_73 : decode b_M_commit 73 = .ok (.bipush 24, 2) := by decide +kernel
theorem d_M_commit_75 : decode b_M_commit 75 = .ok (.iload_n 1, 1) := by decide +kernel
theorem d_M_commit_76 : decode b_M_commit 76 = .ok (.iadd, 1) := by decide +kernel
theorem d_M_commit_77 : decode b_M_commit 77 = .ok (.imul, 1) := by decide +kernel
theorem d_M_commit_78 : decode b_M_commit 78 = .ok (.istore_n 3, 1) := by decide +kernel
theorem d_M_commit_79 : decode b_M_commit 79 = .ok (.iload_n 3, 1) := by decide +kernel
theorem d_M_commit_80 : decode b_M_commit 80 = .ok (.sipush 4096, 3) := by decide +kernel
theorem d_M_commit_83 : decode b_M_commit 83 = .ok (.bipush 24, 2) := by decide +kernel
theorem d_M_commit_85 : decode b_M_commit 85 = .ok (.iload_n 1, 1) := by decide +kernel
theorem d_M_commit_86 : decode b_M_commit 86 = .ok (.iadd, 1) := by decide +kernel
theorem d_M_commit_87 : decode b_M_commit 87 = .ok (.imul, 1) := by decide +kernel
theorem d_M_commit_88 : decode b_M_commit 88 = .ok (.sipush 4096, 3) := by decide +kernel
theorem d_M_commit_91 : decode b_M_commit 91 = .ok (.iadd, 1) := by decide +kernel
theorem d_M_commit_92 : decode b_M_commit 92 = .ok (.if_icmp .ge 42, 3) := by decide +kernel
theorem d_M_commit_95 : decode b_M_commit 95 = .ok (.aload_n 0, 1) := by decide +kernel
theorem d_M_commit_96 : decode b_M_commit 96 = .ok (.getfield 14, 3) := by decide +kernel
theorem d_M_commit_99 : decode b_M_commit 99 = .ok (.iload_n 3, 1) := by decide +kernel
theorem d_M_commit_100 : decode b_M_commit 100 = .ok (.iaload, 1) := by decide +kernel
theorem d_M_commit_101 : decode b_M_commit 101 = .ok (.ldc 115, 2) := by decide +kernel
theorem d_M_commit_103 : decode b_M_commit 103 = .ok (.if_icmp .lt 25, 3) := by decide +kernel
theorem d_M_commit_106 : decode b_M_commit 106 = .ok (.aload_n 0, 1) := by decide +kernel
theorem d_M_commit_107 : decode b_M_commit 107 = .ok (.getfield 14, 3) := by decide +kernel
theorem d_M_commit_110 : decode b_M_commit 110 = .ok (.iload_n 3, 1) := by decide +kernel
theorem d_M_commit_111 : decode b_M_commit 111 = .ok (.sipush 4096, 3) := by decide +kernel
theorem d_M_commit_114 : decode b_M_commit 114 = .ok (.iload_n 2, 1) := by decide +kernel
theorem d_M_commit_115 : decode b_M_commit 115 = .ok (.imul, 1) := by decide +kernel
theorem d_M_commit_116 : decode b_M_commit 116 = .ok (.aload_n 0, 1) := by decide +kernel
theorem d_M_commit_117 : decode b_M_commit 117 = .ok (.getfield 14, 3) := by decide +kernel
theorem d_M_commit_120 : decode b_M_commit 120 = .ok (.iload_n 3, 1) := by decide +kernel
theorem d_M_commit_121 : decode b_M_commit 121 = .ok (.iaload, 1) := by decide +kernel
theorem d_M_commit_122 : decode b_M_commit 122 = .ok (.sipush 4096, 3) := by decide +kernel
theorem d_M_commit_125 : decode b_M_commit 125 = .ok (.irem, 1) := by decide +kernel
theorem d_M_commit_126 : decode b_M_commit 126 = .ok (.iadd, 1) := by decide +kernel
theorem d_M_commit_127 : decode b_M_commit 127 = .ok (.iastore, 1) := by decide +kernel
theorem d_M_commit_128 : decode b_M_commit 128 = .ok (.iinc 3 1, 3) := by decide +kernel
theorem d_M_commit_131 : decode b_M_commit 131 = .ok (.goto (-52), 3) := by decide +kernel
theorem d_M_commit_134 : decode b_M_commit 134 = .ok (.aload_n 0, 1) := by decide +kernel
theorem d_M_commit_135 : decode b_M_commit 135 = .ok (.iload_n 2, 1) := by decide +kernel
theorem d_M_commit_136 : decode b_M_commit 136 = .ok (.bipush 24, 2) := by decide +kernel
theorem d_M_commit_138 : decode b_M_commit 138 = .ok (.iload_n 1, 1) := by decide +kernel
theorem d_M_commit_139 : decode b_M_commit 139 = .ok (.iadd, 1) := by decide +kernel
theorem d_M_commit_140 : decode b_M_commit 140 = .ok (.invokevirtual 105, 3) := by decide +kernel
theorem d_M_commit_143 : decode b_M_commit 143 = .ok (.aload_n 0, 1) := by decide +kernel
theorem d_M_commit_144 : decode b_M_commit 144 = .ok (.getfield 20, 3) := by decide +kernel
theorem d_M_commit_147 : decode b_M_commit 147 = .ok (.iload_n 2, 1) := by decide +kernel
theorem d_M_commit_148 : decode b_M_commit 148 = .ok (.aload_n 0, 1) := by decide +kernel
theorem d_M_commit_149 : decode b_M_commit 149 = .ok (.getfield 34, 3) := by decide +kernel
theorem d_M_commit_152 : decode b_M_commit 152 = .ok (.iload_n 1, 1) := by decide +kernel
theorem d_M_commit_153 : decode b_M_commit 153 = .ok (.iaload, 1) := by decide +kernel
theorem d_M_commit_154 : decode b_M_commit 154 = .ok (.iastore, 1) := by decide +kernel
theorem d_M_commit_155 : decode b_M_commit 155 = .ok (.aload_n 0, 1) := by decide +kernel
theorem d_M_commit_156 : decode b_M_commit 156 = .ok (.getfield 23, 3) := by decide +kernel
theorem d_M_commit_159 : decode b_M_commit 159 = .ok (.iload_n 2, 1) := by decide +kernel
theorem d_M_commit_160 : decode b_M_commit 160 = .ok (.aload_n 0, 1) := by decide +kernel
theorem d_M_commit_161 : decode b_M_commit 161 = .ok (.getfield 37, 3) := by decide +kernel
theorem d_M_commit_164 : decode b_M_commit 164 = .ok (.iload_n 1, 1) := by decide +kernel
theorem d_M_commit_165 : decode b_M_commit 165 = .ok (.iaload, 1) := by decide +kernel
theorem d_M_commit_166 : decode b_M_commit 166 = .ok (.iastore, 1) := by decide +kernel
theorem d_M_commit_167 : decode b_M_commit 167 = .ok (.aload_n 0, 1) := by decide +kernel
theorem d_M_commit_168 : decode b_M_commit 168 = .ok (.getfield 34, 3) := by decide +kernel
theorem d_M_commit_171 : decode b_M_commit 171 = .ok (.iload_n 1, 1) := by decide +kernel
theorem d_M_commit_172 : decode b_M_commit 172 = .ok (.iload_n 2, 1) := by decide +kernel
theorem d_M_commit_173 : decode b_M_commit 173 = .ok (.iastore, 1) := by decide +kernel
theorem d_M_commit_174 : decode b_M_commit 174 = .ok (.aload_n 0, 1) := by decide +kernel
theorem d_M_commit_175 : decode b_M_commit 175 = .ok (.getfield 37, 3) := by decide +kernel
theorem d_M_commit_178 : decode b_M_commit 178 = .ok (.iload_n 1, 1) := by decide +kernel
theorem d_M_commit_179 : decode b_M_commit 179 = .ok (.iconst (-1), 1) := by decide +kernel
theorem d_M_commit_180 : decode b_M_commit 180 = .ok (.iastore, 1) := by decide +kernel
theorem d_M_commit_181 : decode b_M_commit 181 = .ok (.aload_n 0, 1) := by decide +kernel
theorem d_M_commit_182 : decode b_M_commit 182 = .ok (.getfield 52, 3) := by decide +kernel
theorem d_M_commit_185 : decode b_M_commit 185 = .ok (.iload_n 1, 1) := by decide +kernel
theorem d_M_commit_186 : decode b_M_commit 186 = .ok (.iconst 0, 1) := by decide +kernel
theorem d_M_commit_187 : decode b_M_commit 187 = .ok (.iastore, 1) := by decide +kernel
theorem d_M_commit_188 : decode b_M_commit 188 = .ok (.iload_n 2, 1) := by decide +kernel
theorem d_M_commit_189 : decode b_M_commit 189 = .ok (.ireturn, 1) := by decide +kernel
theorem d_M_isChanged_0 : decode b_M_isChanged 0 = .ok (.aload_n 0, 1) := by decide +kernel
theorem d_M_isChanged_1 : decode b_M_isChanged 1 = .ok (.getfield 37, 3) := by decide +kernel
theorem d_M_isChanged_4 : decode b_M_isChanged 4 = .ok (.iload_n 1, 1) := by decide +kernel
theorem d_M_isChanged_5 : decode b_M_isChanged 5 = .ok (.iaload, 1) := by decide +kernel
theorem d_M_isChanged_6 : decode b_M_isChanged 6 = .ok (.ifCond .lt 7, 3) := by decide +kernel
theorem d_M_isChanged_9 : decode b_M_isChanged 9 = .ok (.iconst 1, 1) := by decide +kernel
theorem d_M_isChanged_10 : decode b_M_isChanged 10 = .ok (.goto 4, 3) := by decide +kernel
theorem d_M_isChanged_13 : decode b_M_isChanged 13 = .ok (.iconst 0, 1) := by decide +kernel
theorem d_M_isChanged_14 : decode b_M_isChanged 14 = .ok (.istore_n 2, 1) := by decide +kernel
theorem d_M_isChanged_15 : decode b_M_isChanged 15 = .ok (.iconst 0, 1) := by decide +kernel
theorem d_M_isChanged_16 : decode b_M_isChanged 16 = .ok (.istore_n 3, 1) := by decide +kernel
theorem d_M_isChanged_17 : decode b_M_isChanged 17 = .ok (.iload_n 3, 1) := by decide +kernel
theorem d_M_isChanged_18 : decode b_M_isChanged 18 = .ok (.sipush 4096, 3) := by decide +kernel
theorem d_M_isChanged_21 : decode b_M_isChanged 21 = .ok (.if_icmp .ge 89, 3) := by decide +kernel
theorem d_M_isChanged_24 : decode b_M_isChanged 24 = .ok (.iload_n 2, 1) := by decide +kernel
theorem d_M_isChanged_25 : decode b_M_isChanged 25 = .ok (.ifCond .ne 85, 3) := by decide +kernel
theorem d_M_isChanged_28 : decode b_M_isChanged 28 = .ok (.aload_n 0, 1) := by decide +kernel
theorem d_M_isChanged_29 : decode b_M_isChanged 29 = .ok (.getfield 8, 3) := by decide +kernel
theorem d_M_isChanged_32 : decode b_M_isChanged 32 = .ok (.sipush 4096, 3) := by decide +kernel
theorem d_M_isChanged_35 : decode b_M_isChanged 35 = .ok (.bipush 24, 2) := by decide +kernel
theorem d_M_isChanged_37 : decode b_M_isChanged 37 = .ok (.iload_n 1, 1) := by decide +kernel
theorem d_M_isChanged_38 : decode b_M_isChanged 38 = .ok (.iadd, 1) := by decide +kernel
theorem d_M_isChanged_39 : decode b_M_isChanged 39 = .ok (.imul, 1) := by decide +kernel
theorem d_M_isChanged_40 : decode b_M_isChanged 40 = .ok (.iload_n 3, 1) := by decide +kernel
theorem d_M_isChanged_41 : decode b_M_isChanged 41 = .ok (.iadd, 1) := by decide +kernel
theorem d_M_isChanged_42 : decode b_M_isChanged 42 = .ok (.iaload, 1) := by decide +kernel
theorem d_M_isChanged_43 : decode b_M_isChanged 43 = .ok (.aload_n 0, 1) := by decide +kernel
theorem d_M_isChanged_44 : decode b_M_isChanged 44 = .ok (.getfield 8, 3) := by decide +kernel
theorem d_M_isChanged_47 : decode b_M_isChanged 47 = .ok (.sipush 4096, 3) := by decide +kernel
theorem d_M_isChanged_50 : decode b_M_isChanged 50 = .ok (.aload_n 0, 1) := by decide +kernel
theorem d_M_isChanged_51 : decode b_M_isChanged 51 = .ok (.getfield 34, 3) := by decide +kernel
theorem d_M_isChanged_54 : decode b_M_isChanged 54 = .ok (.iload_n 1, 1) := by decide +kernel
theorem d_M_isChanged_55 : decode b_M_isChanged 55 = .ok (.iaload, 1) := by decide +kernel
theorem d_M_isChanged_56 : decode b_M_isChanged 56 = .ok (.imul, 1) := by decide +kernel
theorem d_M_isChanged_57 : decode b_M_isChanged 57 = .ok (.iload_n 3, 1) := by decide +kernel
theorem d_M_isChanged_58 : decode b_M_isChanged 58 = .ok (.iadd, 1) := by decide +kernel
theorem d_M_isChanged_59 : decode b_M_isChanged 59 = .ok (.iaload, 1) := by decide +kernel
theorem d_M_isChanged_60 : decode b_M_isChanged 60 = .ok (.if_icmp .ne 38, 3) := by decide +kernel
theorem d_M_isChanged_63 : decode b_M_isChanged 63 = .ok (.aload_n 0, 1) := by decide +kernel
theorem d_M_isChanged_64 : decode b_M_isChanged 64 = .ok (.getfield 14, 3) := by decide +kernel
theorem d_M_isChanged_67 : decode b_M_isChanged 67 = .ok (.sipush 4096, 3) := by decide +kernel
theorem d_M_isChanged_70 : decode b_M_isChanged 70 = .ok (.bipush 24, 2) := by decide +kernel
theorem d_M_isChanged_72 : decode b_M_isChanged 72 = .ok (.iload_n 1, 1) := by decide +kernel
theorem d_M_isChanged_73 : decode b_M_isChanged 73 = .ok (.iadd, 1) := by decide +kernel
theorem d_M_isChanged_74 : decode b_M_isChanged 74 = .ok (.imul, 1) := by decide +kernel
theorem d_M_isChanged_75 : decode b_M_isChanged 75 = .ok (.iload_n 3, 1) := by decide +kernel
theorem d_M_isChanged_76 : decode b_M_isChanged 76 = .ok (.iadd, 1) := by decide +kernel
theorem d_M_isChanged_77 : decode b_M_isChanged 77 = .ok (.iaload, 1) := by decide +kernel
theorem d_M_isChanged_78 : decode b_M_isChanged 78 = .ok (.aload_n 0, 1) := by decide +kernel
theorem d_M_isChanged_79 : decode b_M_isChanged 79 = .ok (.getfield 14, 3) := by decide +kernel
theorem d_M_isChanged_82 : decode b_M_isChanged 82 = .ok (.sipush 4096, 3) := by decide +kernel
theorem d_M_isChanged_85 : decode b_M_isChanged 85 = .ok (.aload_n 0, 1) := by decide +kernel
theorem d_M_isChanged_86 : decode b_M_isChanged 86 = .ok (.getfield 34, 3) := by decide +kernel
theorem d_M_isChanged_89 : decode b_M_isChanged 89 = .ok (.iload_n 1, 1) := by decide +kernel
theorem d_M_isChanged_90 : decode b_M_isChanged 90 = .ok (.iaload, 1) := by decide +kernel
theorem d_M_isChanged_91 : decode b_M_isChanged 91 = .ok (.imul, 1) := by decide +kernel
theorem d_M_isChanged_92 : decode b_M_isChanged 92 = .ok (.iload_n 3, 1) := by decide +kernel
theorem d_M_isChanged_93 : decode b_M_isChanged 93 = .ok (.iadd, 1) := by decide +kernel
theorem d_M_isChanged_94 : decode b_M_isChanged 94 = .ok (.iaload, 1) := by decide +kernel
theorem d_M_isChanged_95 : decode b_M_isChanged 95 = .ok (.if_icmp .eq 7, 3) := by decide +kernel
theorem d_M_isChanged_98 : decode b_M_isChanged 98 = .ok (.iconst 1, 1) := by decide +kernel
theorem d_M_isChanged_99 : decode b_M_isChanged 99 = .ok (.goto 4, 3) := by decide +kernel
theorem d_M_isChanged_102 : decode b_M_isChanged 102 = .ok (.iconst 0, 1) := by decide +kernel
theorem d_M_isChanged_103 : decode b_M_isChanged 103 = .ok (.istore_n 2, 1) := by decide +kernel
theorem d_M_isChanged_104 : decode b_M_isChanged 104 = .ok (.iinc 3 1, 3) := by decide +kernel
theorem d_M_isChanged_107 : decode b_M_isChanged 107 = .ok (.goto (-90), 3) := by decide +kernel
theorem d_M_isChanged_110 : decode b_M_isChanged 110 = .ok (.iload_n 2, 1) := by decide +kernel
theorem d_M_isChanged_111 : decode b_M_isChanged 111 = .ok (.ireturn, 1) := by decide +kernel
theorem d_M_unsettled_0 : decode b_M_unsettled 0 = .ok (.iconst 0, 1) := by decide +kernel
theorem d_M_unsettled_1 : decode b_M_unsettled 1 = .ok (.istore_n 2, 1) := by decide +kernel
theorem d_M_unsettled_2 : decode b_M_unsettled 2 = .ok (.iconst 0, 1) := by decide +kernel
theorem d_M_unsettled_3 : decode b_M_unsettled 3 = .ok (.istore_n 3, 1) := by decide +kernel
theorem d_M_unsettled_4 : decode b_M_unsettled 4 = .ok (.iload_n 3, 1) := by decide +kernel
theorem d_M_unsettled_5 : decode b_M_unsettled 5 = .ok (.aload_n 0, 1) := by decide +kernel
theorem d_M_unsettled_6 : decode b_M_unsettled 6 = .ok (.getfield 52, 3) := by decide +kernel
theorem d_M_unsettled_9 : decode b_M_unsettled 9 = .ok (.iload_n 1, 1) := by decide +kernel
theorem d_M_unsettled_10 : decode b_M_unsettled 10 = .ok (.iaload, 1) := by decide +kernel
theorem d_M_unsettled_11 : decode b_M_unsettled 11 = .ok (.if_icmp .ge 32, 3) := by decide +kernel
theorem d_M_unsettled_14 : decode b_M_unsettled 14 = .ok (.iload_n 2, 1) := by decide +kernel
theorem d_M_unsettled_15 : decode b_M_unsettled 15 = .ok (.aload_n 0, 1) := by decide +kernel
theorem d_M_unsettled_16 : decode b_M_unsettled 16 = .ok (.getfield 55, 3) := by decide +kernel
theorem d_M_unsettled_19 : decode b_M_unsettled 19 = .ok (.sipush 4096, 3) := by decide +kernel
theorem d_M_unsettled_22 : decode b_M_unsettled 22 = .ok (.iload_n 1, 1) := by decide +kernel
theorem d_M_unsettled_23 : decode b_M_unsettled 23 = .ok (.imul, 1) := by decide +kernel
theorem d_M_unsettled_24 : decode b_M_unsettled 24 = .ok (.iload_n 3, 1) := by decide +kernel
theorem d_M_unsettled_25 : decode b_M_unsettled 25 = .ok (.iadd, 1) := by decide +kernel
theorem d_M_unsettled_26 : decode b_M_unsettled 26 = .ok (.baload, 1) := by decide +kernel
theorem d_M_unsettled_27 : decode b_M_unsettled 27 = .ok (.ifCond .eq 7, 3) := by decide +kernel
theorem d_M_unsettled_30 : decode b_M_unsettled 30 = .ok (.iconst 0, 1) := by decide +kernel
theorem d_M_unsettled_31 : decode b_M_unsettled 31 = .ok (.goto 4, 3) := by decide +kernel
theorem d_M_unsettled_34 : decode b_M_unsettled 34 = .ok (.iconst 1, 1) := by decide +kernel
theorem d_M_unsettled_35 : decode b_M_unsettled 35 = .ok (.iadd, 1) := by decide +kernel
theorem d_M_unsettled_36 : decode b_M_unsettled 36 = .ok (.istore_n 2, 1) := by decide +kernel
theorem d_M_unsettled_37 : decode b_M_unsettled 37 = .ok (.iinc 3 1, 3) := by decide +kernel
theorem d_M_unsettled_40 : decode b_M_unsettled 40 = .ok (.goto (-36), 3) := by decide +kernel
theorem d_M_unsettled_43 : decode b_M_unsettled 43 = .ok (.iload_n 2, 1) := by decide +kernel
theorem d_M_unsettled_44 : decode b_M_unsettled 44 = .ok (.ireturn, 1) := by decide +kernel
theorem d_M_merge_0 : decode b_M_merge 0 = .ok (.aload_n 0, 1) := by decide +kernel
theorem d_M_merge_1 : decode b_M_merge 1 = .ok (.aload_n 0, 1) := by decide +kernel
theorem d_M_merge_2 : decode b_M_merge 2 = .ok (.iload_n 1, 1) := by decide +kernel
theorem d_M_merge_3 : decode b_M_merge 3 = .ok (.invokevirtual 97, 3) := by decide +kernel
theorem d_M_merge_6 : decode b_M_merge 6 = .ok (.ifCond .eq 11, 3) := by decide +kernel
theorem d_M_merge_9 : decode b_M_merge 9 = .ok (.aload_n 0, 1) := by decide +kernel
theorem d_M_merge_10 : decode b_M_merge 10 = .ok (.iload_n 2, 1) := by decide +kernel
theorem d_M_merge_11 : decode b_M_merge 11 = .ok (.invokevirtual 93, 3) := by decide +kernel
theorem d_M_merge_14 : decode b_M_merge 14 = .ok (.ifCond .ne 7, 3) := by decide +kernel
theorem d_M_merge_17 : decode b_M_merge 17 = .ok (.iconst 1, 1) := by decide +kernel
theorem d_M_merge_18 : decode b_M_merge 18 = .ok (.goto 36, 3) := by decide +kernel
theorem d_M_merge_21 : decode b_M_merge 21 = .ok (.aload_n 0, 1) := by decide +kernel
theorem d_M_merge_22 : decode b_M_merge 22 = .ok (.iload_n 1, 1) := by decide +kernel
theorem d_M_merge_23 : decode b_M_merge 23 = .ok (.invokevirtual 135, 3) := by decide +kernel
theorem d_M_merge_26 : decode b_M_merge 26 = .ok (.ifCond .ne 23, 3) := by decide +kernel
theorem d_M_merge_29 : decode b_M_merge 29 = .ok (.aload_n 0, 1) := by decide +kernel
theorem d_M_merge_30 : decode b_M_merge 30 = .ok (.iconst 1, 1) := by decide +kernel
theorem d_M_merge_31 : decode b_M_merge 31 = .ok (.aload_n 0, 1) := by decide +kernel
theorem d_M_merge_32 : decode b_M_merge 32 = .ok (.getfield 34, 3) := by decide +kernel
theorem d_M_merge_35 : decode b_M_merge 35 = .ok (.iload_n 1, 1) := by decide +kernel
theorem d_M_merge_36 : decode b_M_merge 36 = .ok (.iaload, 1) := by decide +kernel
theorem d_M_merge_37 : decode b_M_merge 37 = .ok (.ishl, 1) := by decide +kernel
theorem d_M_merge_38 : decode b_M_merge 38 = .ok (.invokevirtual 142, 3) := by decide +kernel
theorem d_M_merge_41 : decode b_M_merge 41 = .ok (.iload_n 2, 1) := by decide +kernel
theorem d_M_merge_42 : decode b_M_merge 42 = .ok (.ishr, 1) := by decide +kernel
theorem d_M_merge_43 : decode b_M_merge 43 = .ok (.iconst 1, 1) := by decide +kernel
theorem d_M_merge_44 : decode b_M_merge 44 = .ok (.iand, 1) := by decide +kernel
theorem d_M_merge_45 : decode b_M_merge 45 = .ok (.iconst 1, 1) := by decide +kernel
theorem d_M_merge_46 : decode b_M_merge 46 = .ok (.if_icmp .ne 7, 3) := by decide +kernel
theorem d_M_merge_49 : decode b_M_merge 49 = .ok (.iconst 2, 1) := by decide +kernel
theorem d_M_merge_50 : decode b_M_merge 50 = .ok (.goto 4, 3) := by decide +kernel
theorem d_M_merge_53 : decode b_M_merge 53 = .ok (.iconst 0, 1) := by decide +kernel
theorem d_M_merge_54 : decode b_M_merge 54 = .ok (.putfield 90, 3) := by decide +kernel
theorem d_M_merge_57 : decode b_M_merge 57 = .ok (.aload_n 0, 1) := by decide +kernel
theorem d_M_merge_58 : decode b_M_merge 58 = .ok (.getfield 90, 3) := by decide +kernel
theorem d_M_merge_61 : decode b_M_merge 61 = .ok (.ifCond .le 5, 3) := by decide +kernel
theorem d_M_merge_64 : decode b_M_merge 64 = .ok (.iconst 0, 1) := by decide +kernel
theorem d_M_merge_65 : decode b_M_merge 65 = .ok (.ireturn, 1) := by decide +kernel
theorem d_M_merge_66 : decode b_M_merge 66 = .ok (.aload_n 0, 1) := by decide +kernel
theorem d_M_merge_67 : decode b_M_merge 67 = .ok (.aload_n 0, 1) := by decide +kernel
theorem d_M_merge_68 : decode b_M_merge 68 = .ok (.getfield 34, 3) := by decide +kernel
theorem d_M_merge_71 : decode b_M_merge 71 = .ok (.iload_n 1, 1) := by decide +kernel
theorem d_M_merge_72 : decode b_M_merge 72 = .ok (.iaload, 1) := by decide +kernel
theorem d_M_merge_73 : decode b_M_merge 73 = .ok (.iload_n 2, 1) := by decide +kernel
theorem d_M_merge_74 : decode b_M_merge 74 = .ok (.invokevirtual 158, 3) := by decide +kernel
theorem d_M_merge_77 : decode b_M_merge 77 = .ok (.aload_n 0, 1) := by decide +kernel
theorem d_M_merge_78 : decode b_M_merge 78 = .ok (.getfield 37, 3) := by decide +kernel
theorem d_M_merge_81 : decode b_M_merge 81 = .ok (.iload_n 1, 1) := by decide +kernel
theorem d_M_merge_82 : decode b_M_merge 82 = .ok (.iload_n 2, 1) := by decide +kernel
theorem d_M_merge_83 : decode b_M_merge 83 = .ok (.iastore, 1) := by decide +kernel
theorem d_M_merge_84 : decode b_M_merge 84 = .ok (.aload_n 0, 1) := by decide +kernel
theorem d_M_merge_85 : decode b_M_merge 85 = .ok (.getfield 52, 3) := by decide +kernel
theorem d_M_merge_88 : decode b_M_merge 88 = .ok (.iload_n 1, 1) := by decide +kernel
theorem d_M_merge_89 : decode b_M_merge 89 = .ok (.iconst 0, 1) := by decide +kernel
theorem d_M_merge_90 : decode b_M_merge 90 = .ok (.iastore, 1) := by decide +kernel
theorem d_M_merge_91 : decode b_M_merge 91 = .ok (.iconst 0, 1) := by decide +kernel
theorem d_M_merge_92 : decode b_M_merge 92 = .ok (.istore_n 3, 1) := by decide +kernel
theorem d_M_merge_93 : decode b_M_merge 93 = .ok (.iload_n 3, 1) := by decide +kernel
theorem d_M_merge_94 : decode b_M_merge 94 = .ok (.sipush 4096, 3) := by decide +kernel
theorem d_M_merge_97 : decode b_M_merge 97 = .ok (.if_icmp .ge 216, 3) := by decide +kernel
theorem d_M_merge_100 : decode b_M_merge 100 = .ok (.sipush 4096, 3) := by decide +kernel
theorem d_M_merge_103 : decode b_M_merge 103 = .ok (.bipush 24, 2) := by decide +kernel
theorem d_M_merge_105 : decode b_M_merge 105 = .ok (.iload_n 1, 1) := by decide +kernel
theorem d_M_merge_106 : decode b_M_merge 106 = .ok (.iadd, 1) := by decide +kernel
theorem d_M_merge_107 : decode b_M_merge 107 = .ok (.imul, 1) := by decide +kernel
theorem d_M_merge_108 : decode b_M_merge 108 = .ok (.iload_n 3, 1) := by decide +kernel
theorem d_M_merge_109 : decode b_M_merge 109 = .ok (.iadd, 1) := by decide +kernel
theorem d_M_merge_110 : decode b_M_merge 110 = .ok (.istore 4, 2) := by decide +kernel
theorem d_M_merge_112 : decode b_M_merge 112 = .ok (.aload_n 0, 1) := by decide +kernel
theorem d_M_merge_113 : decode b_M_merge 113 = .ok (.getfield 8, 3) := by decide +kernel
theorem d_M_merge_116 : decode b_M_merge 116 = .ok (.iload 4, 2) := by decide +kernel
theorem d_M_merge_118 : decode b_M_merge 118 = .ok (.iaload, 1) := by decide +kernel
theorem d_M_merge_119 : decode b_M_merge 119 = .ok (.istore 5, 2) := by decide +kernel
theorem d_M_merge_121 : decode b_M_merge 121 = .ok (.aload_n 0, 1) := by decide +kernel
theorem d_M_merge_122 : decode b_M_merge 122 = .ok (.getfield 8, 3) := by decide +kernel
theorem d_M_merge_125 : decode b_M_merge 125 = .ok (.sipush 4096, 3) := by decide +kernel
theorem d_M_merge_128 : decode b_M_merge 128 = .ok (.iload_n 2, 1) := by decide +kernel
theorem d_M_merge_129 : decode b_M_merge 129 = .ok (.imul, 1) := by decide +kernel
theorem d_M_merge_130 : decode b_M_merge 130 = .ok (.iload_n 3, 1) := by decide +kernel
theorem d_M_merge_131 : decode b_M_merge 131 = .ok (.iadd, 1) := by decide +kernel
theorem d_M_merge_132 : decode b_M_merge 132 = .ok (.iaload, 1) := by decide +kernel
theorem d_M_merge_133 : decode b_M_merge 133 = .ok (.istore 6, 2) := by decide +kernel
theorem d_M_merge_135 : decode b_M_merge 135 = .ok (.iload 5, 2) := by decide +kernel
theorem d_M_merge_137 : decode b_M_merge 137 = .ok (.iload 6, 2) := by decide +kernel
theorem d_M_merge_139 : decode b_M_merge 139 = .ok (.if_icmp .eq 168, 3) := by decide +kernel
theorem d_M_merge_142 : decode b_M_merge 142 = .ok (.iload 6, 2) := by decide +kernel
theorem d_M_merge_144 : decode b_M_merge 144 = .ok (.aload_n 0, 1) := by decide +kernel
theorem d_M_merge_145 : decode b_M_merge 145 = .ok (.getfield 83, 3) := by decide +kernel
theorem d_M_merge_148 : decode b_M_merge 148 = .ok (.iload_n 3, 1) := by decide +kernel
theorem d_M_merge_149 : decode b_M_merge 149 = .ok (.iaload, 1) := by decide +kernel
theorem d_M_merge_150 : decode b_M_merge 150 = .ok (.if_icmp .ne 6, 3) := by decide +kernel
theorem d_M_merge_153 : decode b_M_merge 153 = .ok (.goto 154, 3) := by decide +kernel
theorem d_M_merge_156 : decode b_M_merge 156 = .ok (.iload 5, 2) := by decide +kernel
theorem d_M_merge_158 : decode b_M_merge 158 = .ok (.aload_n 0, 1) := by decide +kernel
theorem d_M_merge_159 : decode b_M_merge 159 = .ok (.getfield 83, 3) := by decide +kernel
theorem d_M_merge_162 : decode b_M_merge 162 = .ok (.iload_n 3, 1) := by decide +kernel
theorem d_M_merge_163 : decode b_M_merge 163 = .ok (.iaload, 1) := by decide +kernel
theorem d_M_merge_164 : decode b_M_merge 164 = .ok (.if_icmp .ne 7, 3) := by decide +kernel
theorem d_M_merge_167 : decode b_M_merge 167 = .ok (.iconst 1, 1) := by decide +kernel
theorem d_M_merge_168 : decode b_M_merge 168 = .ok (.goto 4, 3) := by decide +kernel
theorem d_M_merge_171 : decode b_M_merge 171 = .ok (.iconst 0, 1) := by decide +kernel
theorem d_M_merge_172 : decode b_M_merge 172 = .ok (.istore 7, 2) := by decide +kernel
theorem d_M_merge_174 : decode b_M_merge 174 = .ok (.aload_n 0, 1) := by decide +kernel
theorem d_M_merge_175 : decode b_M_merge 175 = .ok (.getfield 17, 3) := by decide +kernel
theorem d_M_merge_178 : decode b_M_merge 178 = .ok (.iload_n 3, 1) := by decide +kernel
theorem d_M_merge_179 : decode b_M_merge 179 = .ok (.sipush 1024, 3) := by decide +kernel
theorem d_M_merge_182 : decode b_M_merge 182 = .ok (.idiv, 1) := by decide +kernel
theorem d_M_merge_183 : decode b_M_merge 183 = .ok (.iaload, 1) := by decide +kernel
theorem d_M_merge_184 : decode b_M_merge 184 = .ok (.istore 8, 2) := by decide +kernel
theorem d_M_merge_186 : decode b_M_merge 186 = .ok (.iload 7, 2) := by decide +kernel
theorem d_M_merge_188 : decode b_M_merge 188 = .ok (.ifCond .ne 83, 3) := by decide +kernel
theorem d_M_merge_191 : decode b_M_merge 191 = .ok (.iload 8, 2) := by decide +kernel
theorem d_M_merge_193 : decode b_M_merge 193 = .ok (.iconst 1, 1) := by decide +kernel
theorem d_M_merge_194 : decode b_M_merge 194 = .ok (.if_icmp .ne 10, 3) := by decide +kernel
theorem d_M_merge_197 : decode b_M_merge 197 = .ok (.iload 6, 2) := by decide +kernel
theorem d_M_merge_199 : decode b_M_merge 199 = .ok (.iload 5, 2) := by decide +kernel
theorem d_M_merge_201 : decode b_M_merge 201 = .ok (.if_icmp .gt 42, 3) := by decide +kernel
theorem d_M_merge_204 : decode b_M_merge 204 = .ok (.iload 8, 2) := by decide +kernel
theorem d_M_merge_206 : decode b_M_merge 206 = .ok (.iconst 2, 1) := by decide +kernel
theorem d_M_merge_207 : decode b_M_merge 207 = .ok (.if_icmp .ne 10, 3) := by decide +kernel
theorem d_M_merge_210 : decode b_M_merge 210 = .ok (.iload 6, 2) := by decide +kernel
theorem d_M_merge_212 : decode b_M_merge 212 = .ok (.iload 5, 2) := by decide +kernel
theorem d_M_merge_214 : decode b_M_merge 214 = .ok (.if_icmp .lt 29, 3) := by decide +kernel
theorem d_M_merge_217 : decode b_M_merge 217 = .ok (.iload 8, 2) := by decide +kernel
theorem d_M_merge_219 : decode b_M_merge 219 = .ok (.iconst 3, 1) := by decide +kernel
theorem d_M_merge_220 : decode b_M_merge 220 = .ok (.if_icmp .ne 27, 3) := by decide +kernel
theorem d_M_merge_223 : decode b_M_merge 223 = .ok (.aload_n 0, 1) := by decide +kernel
theorem d_M_merge_224 : decode b_M_merge 224 = .ok (.sipush 4096, 3) := by decide +kernel
theorem d_M_merge_227 : decode b_M_merge 227 = .ok (.iload_n 2, 1) := by decide +kernel
theorem d_M_merge_228 : decode b_M_merge 228 = .ok (.imul, 1) := by decide +kernel
theorem d_M_merge_229 : decode b_M_merge 229 = .ok (.iload_n 3, 1) := by decide +kernel
theorem d_M_merge_230 : decode b_M_merge 230 = .ok (.iadd, 1) := by decide +kernel
theorem d_M_merge_231 : decode b_M_merge 231 = .ok (.invokevirtual 161, 3) := by decide +kernel
theorem d_M_merge_234 : decode b_M_merge 234 = .ok (.aload_n 0, 1) := by decide +kernel
theorem d_M_merge_235 : decode b_M_merge 235 = .ok (.iload 4, 2) := by decide +kernel
theorem d_M_merge_237 : decode b_M_merge 237 = .ok (.invokevirtual 161, 3) := by decide +kernel
theorem d_M_merge_240 : decode b_M_merge 240 = .ok (.if_icmp .le 7, 3) := by decide +kernel
theorem d_M_merge_243 : decode b_M_merge 243 = .ok (.iconst 1, 1) := by decide +kernel
theorem d_M_merge_244 : decode b_M_merge 244 = .ok (.goto 4, 3) := by decide +kernel
theorem d_M_merge_247 : decode b_M_merge 247 = .ok (.iconst 0, 1) := by decide +kernel
theorem d_M_merge_248 : decode b_M_merge 248 = .ok (.istore 7, 2) := by decide +kernel
theorem d_M_merge_250 : decode b_M_merge 250 = .ok (.iload 8, 2) := by decide +kernel
theorem d_M_merge_252 : decode b_M_merge 252 = .ok (.ifCond .ne 19, 3) := by decide +kernel
theorem d_M_merge_255 : decode b_M_merge 255 = .ok (.aload_n 0, 1) := by decide +kernel
theorem d_M_merge_256 : decode b_M_merge 256 = .ok (.iload_n 1, 1) := by decide +kernel
theorem d_M_merge_257 : decode b_M_merge 257 = .ok (.iload_n 3, 1) := by decide +kernel
theorem d_M_merge_258 : decode b_M_merge 258 = .ok (.iload 5, 2) := by decide +kernel
theorem d_M_merge_260 : decode b_M_merge 260 = .ok (.iload 6, 2) := by decide +kernel
theorem d_M_merge_262 : decode b_M_merge 262 = .ok (.aload_n 0, 1) := by decide +kernel
theorem d_M_merge_263 : decode b_M_merge 263 = .ok (.getfield 83, 3) := by decide +kernel
theorem d_M_merge_266 : decode b_M_merge 266 = .ok (.iload_n 3, 1) := by decide +kernel
theorem d_M_merge_267 : decode b_M_merge 267 = .ok (.iaload, 1) := by decide +kernel
theorem d_M_merge_268 : decode b_M_merge 268 = .ok (.invokevirtual 164, 3) := by decide +kernel
theorem d_M_merge_271 : decode b_M_merge 271 = .ok (.iload 7, 2) := by decide +kernel
theorem d_M_merge_273 : decode b_M_merge 273 = .ok (.ifCond .ne 6, 3) := by decide +kernel
theorem d_M_merge_276 : decode b_M_merge 276 = .ok (.goto 31, 3) := by decide +kernel
theorem d_M_merge_279 : decode b_M_merge 279 = .ok (.aload_n 0, 1) := by decide +kernel
theorem d_M_merge_280 : decode b_M_merge 280 = .ok (.getfield 8, 3) := by decide +kernel
theorem d_M_merge_283 : decode b_M_merge 283 = .ok (.iload 4, 2) := by decide +kernel
theorem d_M_merge_285 : decode b_M_merge 285 = .ok (.iload 6, 2) := by decide +kernel
theorem d_M_merge_287 : decode b_M_merge 287 = .ok (.iastore, 1) := by decide +kernel
theorem d_M_merge_288 : decode b_M_merge 288 = .ok (.aload_n 0, 1) := by decide +kernel
theorem d_M_merge_289 : decode b_M_merge 289 = .ok (.getfield 14, 3) := by decide +kernel
theorem d_M_merge_292 : decode b_M_merge 292 = .ok (.iload 4, 2) := by decide +kernel
theorem d_M_merge_294 : decode b_M_merge 294 = .ok (.aload_n 0, 1) := by decide +kernel
theorem d_M_merge_295 : decode b_M_merge 295 = .ok (.getfield 14, 3) := by decide +kernel
theorem d_M_merge_298 : decode b_M_merge 298 = .ok (.sipush 4096, 3) := by decide +kernel
theorem d_M_merge_301 : decode b_M_merge 301 = .ok (.iload_n 2, 1) := by decide +kernel
theorem d_M_merge_302 : decode b_M_merge 302 = .ok (.imul, 1) := by decide +kernel
theorem d_M_merge_303 : decode b_M_merge 303 = .ok (.iload_n 3, 1) := by decide +kernel
theorem d_M_merge_304 : decode b_M_merge 304 = .ok (.iadd, 1) := by decide +kernel
theorem d_M_merge_305 : decode b_M_merge 305 = .ok (.iaload, 1) := by decide +kernel
theorem d_M_merge_306 : decode b_M_merge 306 = .ok (.iastore, 1) := by decide +kernel
theorem d_M_merge_307 : decode b_M_merge 307 = .ok (.iinc 3 1, 3) := by decide +kernel
theorem d_M_merge_310 : decode b_M_merge 310 = .ok (.goto (-217), 3) := by decide +kernel
theorem d_M_merge_313 : decode b_M_merge 313 = .ok (.aload_n 0, 1) := by decide +kernel
theorem d_M_merge_314 : decode b_M_merge 314 = .ok (.getfield 52, 3) := by decide +kernel
theorem d_M_merge_317 : decode b_M_merge 317 = .ok (.iload_n 1, 1) := by decide +kernel
theorem d_M_merge_318 : decode b_M_merge 318 = .ok (.iaload, 1) := by decide +kernel
theorem d_M_merge_319 : decode b_M_merge 319 = .ok (.ireturn, 1) := by decide +kernel
theorem d_M_ancestors_0 : decode b_M_ancestors 0 = .ok (.iload_n 1, 1) := by decide +kernel
theorem d_M_ancestors_1 : decode b_M_ancestors 1 = .ok (.istore_n 2, 1) := by decide +kernel
theorem d_M_ancestors_2 : decode b_M_ancestors 2 = .ok (.aload_n 0, 1) := by decide +kernel
theorem d_M_ancestors_3 : decode b_M_ancestors 3 = .ok (.getfield 26, 3) := by decide +kernel
theorem d_M_ancestors_6 : decode b_M_ancestors 6 = .ok (.iconst 1, 1) := by decide +kernel
theorem d_M_ancestors_7 : decode b_M_ancestors 7 = .ok (.isub, 1) := by decide +kernel
theorem d_M_ancestors_8 : decode b_M_ancestors 8 = .ok (.istore_n 3, 1) := by decide +kernel
theorem d_M_ancestors_9 : decode b_M_ancestors 9 = .ok (.iload_n 3, 1) := by decide +kernel
theorem d_M_ancestors_10 : decode b_M_ancestors 10 = .ok (.ifCond .le 51, 3) := by decide +kernel
theorem d_M_ancestors_13 : decode b_M_ancestors 13 = .ok (.iload_n 2, 1) := by decide +kernel
theorem d_M_ancestors_14 : decode b_M_ancestors 14 = .ok (.iload_n 3, 1) := by decide +kernel
theorem d_M_ancestors_15 : decode b_M_ancestors 15 = .ok (.ishr, 1) := by decide +kernel
theorem d_M_ancestors_16 : decode b_M_ancestors 16 = .ok (.iconst 1, 1) := by decide +kernel
theorem d_M_ancestors_17 : decode b_M_ancestors 17 = .ok (.iand, 1) := by decide +kernel
theorem d_M_ancestors_18 : decode b_M_ancestors 18 = .ok (.ifCond .ne 6, 3) := by decide +kernel
theorem d_M_ancestors_21 : decode b_M_ancestors 21 = .ok (.goto 34, 3) := by decide +kernel
theorem d_M_ancestors_24 : decode b_M_ancestors 24 = .ok (.iload_n 2, 1) := by decide +kernel
theorem d_M_ancestors_25 : decode b_M_ancestors 25 = .ok (.iconst 1, 1) := by decide +kernel
theorem d_M_ancestors_26 : decode b_M_ancestors 26 = .ok (.aload_n 0, 1) := by decide +kernel
theorem d_M_ancestors_27 : decode b_M_ancestors 27 = .ok (.getfield 20, 3) := by decide +kernel
theorem d_M_ancestors_30 : decode b_M_ancestors 30 = .ok (.iload_n 3, 1) := by decide +kernel
theorem d_M_ancestors_31 : decode b_M_ancestors 31 = .ok (.iaload, 1) := by decide +kernel
theorem d_M_ancestors_32 : decode b_M_ancestors 32 = .ok (.ishl, 1) := by decide +kernel
theorem d_M_ancestors_33 : decode b_M_ancestors 33 = .ok (.ior, 1) := by decide +kernel
theorem d_M_ancestors_34 : decode b_M_ancestors 34 = .ok (.istore_n 2, 1) := by decide +kernel
theorem d_M_ancestors_35 : decode b_M_ancestors 35 = .ok (.aload_n 0, 1) := by decide +kernel
theorem d_M_ancestors_36 : decode b_M_ancestors 36 = .ok (.getfield 23, 3) := by decide +kernel
theorem d_M_ancestors_39 : decode b_M_ancestors 39 = .ok (.iload_n 3, 1) := by decide +kernel
theorem d_M_ancestors_40 : decode b_M_ancestors 40 = .ok (.iaload, 1) := by decide +kernel
theorem d_M_ancestors_41 : decode b_M_ancestors 41 = .ok (.ifCond .lt 14, 3) := by decide +kernel
theorem d_M_ancestors_44 : decode b_M_ancestors 44 = .ok (.iload_n 2, 1) := by decide +kernel
theorem d_M_ancestors_45 : decode b_M_ancestors 45 = .ok (.iconst 1, 1) := by decide +kernel
theorem d_M_ancestors_46 : decode b_M_ancestors 46 = .ok (.aload_n 0, 1) := by decide +kernel
theorem d_M_ancestors_47 : decode b_M_ancestors 47 = .ok (.getfield 23, 3) := by decide +kernel
theorem d_M_ancestors_50 : decode b_M_ancestors 50 = .ok (.iload_n 3, 1) := by decide +kernel
theorem d_M_ancestors_51 : decode b_M_ancestors 51 = .ok (.iaload, 1) := by decide +kernel
theorem d_M_ancestors_52 : decode b_M_ancestors 52 = .ok (.ishl, 1) := by decide +kernel
theorem d_M_ancestors_53 : decode b_M_ancestors 53 = .ok (.ior, 1) := by decide +kernel
theorem d_M_ancestors_54 : decode b_M_ancestors 54 = .ok (.istore_n 2, 1) := by decide +kernel
theorem d_M_ancestors_55 : decode b_M_ancestors 55 = .ok (.iinc 3 (-1), 3) := by decide +kernel
theorem d_M_ancestors_58 : decode b_M_ancestors 58 = .ok (.goto (-49), 3) := by decide +kernel
theorem d_M_ancestors_61 : decode b_M_ancestors 61 = .ok (.iload_n 2, 1) := by decide +kernel
theorem d_M_ancestors_62 : decode b_M_ancestors 62 = .ok (.ireturn, 1) := by decide +kernel
theorem d_M_base_0 : decode b_M_base 0 = .ok (.iconst 0, 1) := by decide +kernel
theorem d_M_base_1 : decode b_M_base 1 = .ok (.istore_n 3, 1) := by decide +kernel
theorem d_M_base_2 : decode b_M_base 2 = .ok (.aload_n 0, 1) := by decide +kernel
theorem d_M_base_3 : decode b_M_base 3 = .ok (.iconst 0, 1) := by decide +kernel
theorem d_M_base_4 : decode b_M_base 4 = .ok (.iconst 1, 1) := by decide +kernel
theorem d_M_base_5 : decode b_M_base 5 = .ok (.iload_n 1, 1) := by decide +kernel
theorem d_M_base_6 : decode b_M_base 6 = .ok (.ishl, 1) := by decide +kernel
theorem d_M_base_7 : decode b_M_base 7 = .ok (.iload_n 2, 1) := by decide +kernel
theorem d_M_base_8 : decode b_M_base 8 = .ok (.invokevirtual 149, 3) := by decide +kernel
theorem d_M_base_11 : decode b_M_base 11 = .ok (.iload_n 3, 1) := by decide +kernel
theorem d_M_base_12 : decode b_M_base 12 = .ok (.ifCond .lt 165, 3) := by decide +kernel
theorem d_M_base_15 : decode b_M_base 15 = .ok (.aload_n 0, 1) := by decide +kernel
theorem d_M_base_16 : decode b_M_base 16 = .ok (.getfield 76, 3) := by decide +kernel
theorem d_M_base_19 : decode b_M_base 19 = .ok (.iload_n 3, 1) := by decide +kernel
theorem d_M_base_20 : decode b_M_base 20 = .ok (.iaload, 1) := by decide +kernel
theorem d_M_base_21 : decode b_M_base 21 = .ok (.aload_n 0, 1) := by decide +kernel
theorem d_M_base_22 : decode b_M_base 22 = .ok (.getfield 79, 3) := by decide +kernel
theorem d_M_base_25 : decode b_M_base 25 = .ok (.iload_n 3, 1) := by decide +kernel
theorem d_M_base_26 : decode b_M_base 26 = .ok (.iaload, 1) := by decide +kernel
theorem d_M_base_27 : decode b_M_base 27 = .ok (.invokestatic 152, 3) := by decide +kernel
theorem d_M_base_30 : decode b_M_base 30 = .ok (.istore 4, 2) := by decide +kernel
theorem d_M_base_32 : decode b_M_base 32 = .ok (.iload 4, 2) := by decide +kernel
theorem d_M_base_34 : decode b_M_base 34 = .ok (.bipush 24, 2) := by decide +kernel
theorem d_M_base_36 : decode b_M_base 36 = .ok (.if_icmp .ne 51, 3) := by decide +kernel
theorem d_M_base_39 : decode b_M_base 39 = .ok (.iinc 3 (-1), 3) := by decide +kernel
theorem d_M_base_42 : decode b_M_base 42 = .ok (.iload_n 3, 1) := by decide +kernel
theorem d_M_base_43 : decode b_M_base 43 = .ok (.ifCond .ge 4, 3) := by decide +kernel
theorem d_M_base_46 : decode b_M_base 46 = .ok (.return_, 1) := by decide +kernel
theorem d_M_base_47 : decode b_M_base 47 = .ok (.aload_n 0, 1) := by decide +kernel
theorem d_M_base_48 : decode b_M_base 48 = .ok (.getfield 76, 3) := by decide +kernel
theorem d_M_base_51 : decode b_M_base 51 = .ok (.iload_n 3, 1) := by decide +kernel
theorem d_M_base_52 : decode b_M_base 52 = .ok (.iaload, 1) := by decide +kernel
theorem d_M_base_53 : decode b_M_base 53 = .ok (.aload_n 0, 1) := by decide +kernel
theorem d_M_base_54 : decode b_M_base 54 = .ok (.getfield 79, 3) := by decide +kernel
theorem d_M_base_57 : decode b_M_base 57 = .ok (.iload_n 3, 1) := by decide +kernel
theorem d_M_base_58 : decode b_M_base 58 = .ok (.iaload, 1) := by decide +kernel
theorem d_M_base_59 : decode b_M_base 59 = .ok (.invokestatic 152, 3) := by decide +kernel
theorem d_M_base_62 : decode b_M_base 62 = .ok (.istore 5, 2) := by decide +kernel
theorem d_M_base_64 : decode b_M_base 64 = .ok (.aload_n 0, 1) := by decide +kernel
theorem d_M_base_65 : decode b_M_base 65 = .ok (.iload_n 3, 1) := by decide +kernel
theorem d_M_base_66 : decode b_M_base 66 = .ok (.iload 5, 2) := by decide +kernel
theorem d_M_base_68 : decode b_M_base 68 = .ok (.invokevirtual 155, 3) := by decide +kernel
theorem d_M_base_71 : decode b_M_base 71 = .ok (.aload_n 0, 1) := by decide +kernel
theorem d_M_base_72 : decode b_M_base 72 = .ok (.getfield 79, 3) := by decide +kernel
theorem d_M_base_75 : decode b_M_base 75 = .ok (.iload_n 3, 1) := by decide +kernel
theorem d_M_base_76 : decode b_M_base 76 = .ok (.dup2, 1) := by decide +kernel
theorem d_M_base_77 : decode b_M_base 77 = .ok (.iaload, 1) := by decide +kernel
theorem d_M_base_78 : decode b_M_base 78 = .ok (.iconst 1, 1) := by decide +kernel
theorem d_M_base_79 : decode b_M_base 79 = .ok (.iload 5, 2) := by decide +kernel
theorem d_M_base_81 : decode b_M_base 81 = .ok (.ishl, 1) := by decide +kernel
theorem d_M_base_82 : decode b_M_base 82 = .ok (.ior, 1) := by decide +kernel
theorem d_M_base_83 : decode b_M_base 83 = .ok (.iastore, 1) := by decide +kernel
theorem d_M_base_84 : decode b_M_base 84 = .ok (.goto 90, 3) := by decide +kernel
theorem d_M_base_87 : decode b_M_base 87 = .ok (.aload_n 0, 1) := by decide +kernel
theorem d_M_base_88 : decode b_M_base 88 = .ok (.getfield 79, 3) := by decide +kernel
theorem d_M_base_91 : decode b_M_base 91 = .ok (.iload_n 3, 1) := by decide +kernel
theorem d_M_base_92 : decode b_M_base 92 = .ok (.iaload, 1) := by decide +kernel
theorem d_M_base_93 : decode b_M_base 93 = .ok (.ifCond .ne 63, 3) := by decide +kernel
theorem d_M_base_96 : decode b_M_base 96 = .ok (.iconst 0, 1) := by decide +kernel
theorem d_M_base_97 : decode b_M_base 97 = .ok (.istore 5, 2) := by decide +kernel
theorem d_M_base_99 : decode b_M_base 99 = .ok (.iload 5, 2) := by decide +kernel
theorem d_M_base_101 : decode b_M_base 101 = .ok (.sipush 4096, 3) := by decide +kernel
theorem d_M_base_104 : decode b_M_base 104 = .ok (.if_icmp .ge 36, 3) := by decide +kernel
theorem d_M_base_107 : decode b_M_base 107 = .ok (.aload_n 0, 1) := by decide +kernel
theorem d_M_base_108 : decode b_M_base 108 = .ok (.getfield 83, 3) := by decide +kernel
theorem d_M_base_111 : decode b_M_base 111 = .ok (.sipush 4096, 3) := by decide +kernel
theorem d_M_base_114 : decode b_M_base 114 = .ok (.iload_n 3, 1) := by decide +kernel
theorem d_M_base_115 : decode b_M_base 115 = .ok (.imul, 1) := by decide +kernel
theorem d_M_base_116 : decode b_M_base 116 = .ok (.iload 5, 2) := by decide +kernel
theorem d_M_base_118 : decode b_M_base 118 = .ok (.iadd, 1) := by decide +kernel
theorem d_M_base_119 : decode b_M_base 119 = .ok (.aload_n 0, 1) := by decide +kernel
theorem d_M_base_120 : decode b_M_base 120 = .ok (.getfield 8, 3) := by decide +kernel
theorem d_M_base_123 : decode b_M_base 123 = .ok (.sipush 4096, 3) := by decide +kernel
theorem d_M_base_126 : decode b_M_base 126 = .ok (.iload 4, 2) := by decide +kernel
theorem d_M_base_128 : decode b_M_base 128 = .ok (.imul, 1) := by decide +kernel
theorem d_M_base_129 : decode b_M_base 129 = .ok (.iload 5, 2) := by decide +kernel
theorem d_M_base_131 : decode b_M_base 131 = .ok (.iadd, 1) := by decide +kernel
theorem d_M_base_132 : decode b_M_base 132 = .ok (.iaload, 1) := by decide +kernel
theorem d_M_base_133 : decode b_M_base 133 = .ok (.iastore, 1) := by decide +kernel
theorem d_M_base_134 : decode b_M_base 134 = .ok (.iinc 5 1, 3) := by decide +kernel
theorem d_M_base_137 : decode b_M_base 137 = .ok (.goto (-38), 3) := by decide +kernel
theorem d_M_base_140 : decode b_M_base 140 = .ok (.aload_n 0, 1) := by decide +kernel
theorem d_M_base_141 : decode b_M_base 141 = .ok (.getfield 79, 3) := by decide +kernel
theorem d_M_base_144 : decode b_M_base 144 = .ok (.iload_n 3, 1) := by decide +kernel
theorem d_M_base_145 : decode b_M_base 145 = .ok (.dup2, 1) := by decide +kernel
theorem d_M_base_146 : decode b_M_base 146 = .ok (.iaload, 1) := by decide +kernel
theorem d_M_base_147 : decode b_M_base 147 = .ok (.iconst 1, 1) := by decide +kernel
theorem d_M_base_148 : decode b_M_base 148 = .ok (.iload 4, 2) := by decide +kernel
theorem d_M_base_150 : decode b_M_base 150 = .ok (.ishl, 1) := by decide +kernel
theorem d_M_base_151 : decode b_M_base 151 = .ok (.ior, 1) := by decide +kernel
theorem d_M_base_152 : decode b_M_base 152 = .ok (.iastore, 1) := by decide +kernel
theorem d_M_base_153 : decode b_M_base 153 = .ok (.goto 21, 3) := by decide +kernel
theorem d_M_base_156 : decode b_M_base 156 = .ok (.aload_n 0, 1) := by decide +kernel
theorem d_M_base_157 : decode b_M_base 157 = .ok (.iload_n 3, 1) := by decide +kernel
theorem d_M_base_158 : decode b_M_base 158 = .ok (.iconst 1, 1) := by decide +kernel
theorem d_M_base_159 : decode b_M_base 159 = .ok (.iadd, 1) := by decide +kernel
theorem d_M_base_160 : decode b_M_base 160 = .ok (.aload_n 0, 1) := by decide +kernel
theorem d_M_base_161 : decode b_M_base 161 = .ok (.getfield 79, 3) := by decide +kernel
theorem d_M_base_164 : decode b_M_base 164 = .ok (.iload_n 3, 1) := by decide +kernel
theorem d_M_base_165 : decode b_M_base 165 = .ok (.iaload, 1) := by decide +kernel
theorem d_M_base_166 : decode b_M_base 166 = .ok (.iload 4, 2) := by decide +kernel
theorem d_M_base_168 : decode b_M_base 168 = .ok (.invokevirtual 149, 3) := by decide +kernel
theorem d_M_base_171 : decode b_M_base 171 = .ok (.iinc 3 1, 3) := by decide +kernel
theorem d_M_base_174 : decode b_M_base 174 = .ok (.goto (-163), 3) := by decide +kernel
theorem d_M_base_177 : decode b_M_base 177 = .ok (.return_, 1) := by decide +kernel
theorem d_M_beginBase_0 : decode b_M_beginBase 0 = .ok (.aload_n 0, 1) := by decide +kernel
theorem d_M_beginBase_1 : decode b_M_beginBase 1 = .ok (.getfield 76, 3) := by decide +kernel
theorem d_M_beginBase_4 : decode b_M_beginBase 4 = .ok (.iload_n 1, 1) := by decide +kernel
theorem d_M_beginBase_5 : decode b_M_beginBase 5 = .ok (.aload_n 0, 1) := by decide +kernel
theorem d_M_beginBase_6 : decode b_M_beginBase 6 = .ok (.iload_n 2, 1) := by decide +kernel
theorem d_M_beginBase_7 : decode b_M_beginBase 7 = .ok (.iload_n 3, 1) := by decide +kernel
theorem d_M_beginBase_8 : decode b_M_beginBase 8 = .ok (.invokevirtual 145, 3) := by decide +kernel
theorem d_M_beginBase_11 : decode b_M_beginBase 11 = .ok (.iastore, 1) := by decide +kernel
theorem d_M_beginBase_12 : decode b_M_beginBase 12 = .ok (.aload_n 0, 1) := by decide +kernel
theorem d_M_beginBase_13 : decode b_M_beginBase 13 = .ok (.getfield 79, 3) := by decide +kernel
theorem d_M_beginBase_16 : decode b_M_beginBase 16 = .ok (.iload_n 1, 1) := by decide +kernel
theorem d_M_beginBase_17 : decode b_M_beginBase 17 = .ok (.iconst 0, 1) := by decide +kernel
theorem d_M_beginBase_18 : decode b_M_beginBase 18 = .ok (.iastore, 1) := by decide +kernel
theorem d_M_beginBase_19 : decode b_M_beginBase 19 = .ok (.return_, 1) := by decide +kernel
theorem d_M_nearestOf_0 : decode b_M_nearestOf 0 = .ok (.aload_n 0, 1) := by decide +kernel
theorem d_M_nearestOf_1 : decode b_M_nearestOf 1 = .ok (.iload_n 1, 1) := by decide +kernel
theorem d_M_nearestOf_2 : decode b_M_nearestOf 2 = .ok (.invokevirtual 142, 3) := by decide +kernel
theorem d_M_nearestOf_5 : decode b_M_nearestOf 5 = .ok (.aload_n 0, 1) := by decide +kernel
theorem d_M_nearestOf_6 : decode b_M_nearestOf 6 = .ok (.iconst 1, 1) := by decide +kernel
theorem d_M_nearestOf_7 : decode b_M_nearestOf 7 = .ok (.iload_n 2, 1) := by decide +kernel
theorem d_M_nearestOf_8 : decode b_M_nearestOf 8 = .ok (.ishl, 1) := by decide +kernel
theorem d_M_nearestOf_9 : decode b_M_nearestOf 9 = .ok (.invokevirtual 142, 3) := by decide +kernel
theorem d_M_nearestOf_12 : decode b_M_nearestOf 12 = .ok (.iand, 1) := by decide +kernel
theorem d_M_nearestOf_13 : decode b_M_nearestOf 13 = .ok (.istore_n 3, 1) := by decide +kernel
theorem d_M_nearestOf_14 : decode b_M_nearestOf 14 = .ok (.iconst 0, 1) := by decide +kernel
theorem d_M_nearestOf_15 : decode b_M_nearestOf 15 = .ok (.istore 4, 2) := by decide +kernel
theorem d_M_nearestOf_17 : decode b_M_nearestOf 17 = .ok (.iconst 0, 1) := by decide +kernel
theorem d_M_nearestOf_18 : decode b_M_nearestOf 18 = .ok (.istore 5, 2) := by decide +kernel
theorem d_M_nearestOf_20 : decode b_M_nearestOf 20 = .ok (.iload 5, 2) := by decide +kernel
theorem d_M_nearestOf_22 : decode b_M_nearestOf 22 = .ok (.aload_n 0, 1) := by decide +kernel
theorem d_M_nearestOf_23 : decode b_M_nearestOf 23 = .ok (.getfield 26, 3) := by decide +kernel
theorem d_M_nearestOf_26 : decode b_M_nearestOf 26 = .ok (.if_icmp .ge 98, 3) := by decide +kernel
theorem d_M_nearestOf_29 : decode b_M_nearestOf 29 = .ok (.iload_n 3, 1) := by decide +kernel
theorem d_M_nearestOf_30 : decode b_M_nearestOf 30 = .ok (.iload 5, 2) := by decide +kernel
theorem d_M_nearestOf_32 : decode b_M_nearestOf 32 = .ok (.ishr, 1) := by decide +kernel
theorem d_M_nearestOf_33 : decode b_M_nearestOf 33 = .ok (.iconst 1, 1) := by decide +kernel
theorem d_M_nearestOf_34 : decode b_M_nearestOf 34 = .ok (.iand, 1) := by decide +kernel
theorem d_M_nearestOf_35 : decode b_M_nearestOf 35 = .ok (.ifCond .ne 6, 3) := by decide +kernel
theorem d_M_nearestOf_38 : decode b_M_nearestOf 38 = .ok (.goto 80, 3) := by decide +kernel
theorem d_M_nearestOf_41 : decode b_M_nearestOf 41 = .ok (.iconst 0, 1) := by decide +kernel
theorem d_M_nearestOf_42 : decode b_M_nearestOf 42 = .ok (.istore 6, 2) := by decide +kernel
theorem d_M_nearestOf_44 : decode b_M_nearestOf 44 = .ok (.iload 5, 2) := by decide +kernel
theorem d_M_nearestOf_46 : decode b_M_nearestOf 46 = .ok (.iconst 1, 1) := by decide +kernel
theorem d_M_nearestOf_47 : decode b_M_nearestOf 47 = .ok (.iadd, 1) := by decide +kernel
theorem d_M_nearestOf_48 : decode b_M_nearestOf 48 = .ok (.istore 7, 2) := by decide +kernel
theorem d_M_nearestOf_50 : decode b_M_nearestOf 50 = .ok (.iload 7, 2) := by decide +kernel
theorem d_M_nearestOf_52 : decode b_M_nearestOf 52 = .ok (.aload_n 0, 1) := by decide +kernel
theorem d_M_nearestOf_53 : decode b_M_nearestOf 53 = .ok (.getfield 26, 3) := by decide +kernel
theorem d_M_nearestOf_56 : decode b_M_nearestOf 56 = .ok (.if_icmp .ge 48, 3) := by decide +kernel
theorem d_M_nearestOf_59 : decode b_M_nearestOf 59 = .ok (.iload 6, 2) := by decide +kernel
theorem d_M_nearestOf_61 : decode b_M_nearestOf 61 = .ok (.ifCond .ne 30, 3) := by decide +kernel
theorem d_M_nearestOf_64 : decode b_M_nearestOf 64 = .ok (.iload_n 3, 1) := by decide +kernel
theorem d_M_nearestOf_65 : decode b_M_nearestOf 65 = .ok (.iload 7, 2) := by decide +kernel
theorem d_M_nearestOf_67 : decode b_M_nearestOf 67 = .ok (.ishr, 1) := by decide +kernel
theorem d_M_nearestOf_68 : decode b_M_nearestOf 68 = .ok (.iconst 1, 1) := by decide +kernel
theorem d_M_nearestOf_69 : decode b_M_nearestOf 69 = .ok (.iand, 1) := by decide +kernel
theorem d_M_nearestOf_70 : decode b_M_nearestOf 70 = .ok (.iconst 1, 1) := by decide +kernel
theorem d_M_nearestOf_71 : decode b_M_nearestOf 71 = .ok (.if_icmp .ne 24, 3) := by decide +kernel
theorem d_M_nearestOf_74 : decode b_M_nearestOf 74 = .ok (.aload_n 0, 1) := by decide +kernel
theorem d_M_nearestOf_75 : decode b_M_nearestOf 75 = .ok (.iconst 1, 1) := by decide +kernel
theorem d_M_nearestOf_76 : decode b_M_nearestOf 76 = .ok (.iload 7, 2) := by decide +kernel
theorem d_M_nearestOf_78 : decode b_M_nearestOf 78 = .ok (.ishl, 1) := by decide +kernel
theorem d_M_nearestOf_79 : decode b_M_nearestOf 79 = .ok (.invokevirtual 142, 3) := by decide +kernel
theorem d_M_nearestOf_82 : decode b_M_nearestOf 82 = .ok (.iload 5, 2) := by decide +kernel
theorem d_M_nearestOf_84 : decode b_M_nearestOf 84 = .ok (.ishr, 1) := by decide +kernel
theorem d_M_nearestOf_85 : decode b_M_nearestOf 85 = .ok (.iconst 1, 1) := by decide +kernel
theorem d_M_nearestOf_86 : decode b_M_nearestOf 86 = .ok (.iand, 1) := by decide +kernel
theorem d_M_nearestOf_87 : decode b_M_nearestOf 87 = .ok (.iconst 1, 1) := by decide +kernel
theorem d_M_nearestOf_88 : decode b_M_nearestOf 88 = .ok (.if_icmp .ne 7, 3) := by decide +kernel
theorem d_M_nearestOf_91 : decode b_M_nearestOf 91 = .ok (.iconst 1, 1) := by decide +kernel
theorem d_M_nearestOf_92 : decode b_M_nearestOf 92 = .ok (.goto 4, 3) := by decide +kernel
theorem d_M_nearestOf_95 : decode b_M_nearestOf 95 = .ok (.iconst 0, 1) := by decide +kernel
theorem d_M_nearestOf_96 : decode b_M_nearestOf 96 = .ok (.istore 6, 2) := by decide +kernel
theorem d_M_nearestOf_98 : decode b_M_nearestOf 98 = .ok (.iinc 7 1, 3) := by decide +kernel
theorem d_M_nearestOf_101 : decode b_M_nearestOf 101 = .ok (.goto (-51), 3) := by decide +kernel
theorem d_M_nearestOf_104 : decode b_M_nearestOf 104 = .ok (.iload 6, 2) := by decide +kernel
theorem d_M_nearestOf_106 : decode b_M_nearestOf 106 = .ok (.ifCond .ne 12, 3) := by decide +kernel
theorem d_M_nearestOf_109 : decode b_M_nearestOf 109 = .ok (.iload 4, 2) := by decide +kernel
theorem d_M_nearestOf_111 : decode b_M_nearestOf 111 = .ok (.iconst 1, 1) := by decide +kernel
theorem d_M_nearestOf_112 : decode b_M_nearestOf 112 = .ok (.iload 5, 2) := by decide +kernel
theorem d_M_nearestOf_114 : decode b_M_nearestOf 114 = .ok (.ishl, 1) := by decide +kernel
theorem d_M_nearestOf_115 : decode b_M_nearestOf 115 = .ok (.ior, 1) := by decide +kernel
theorem d_M_nearestOf_116 : decode b_M_nearestOf 116 = .ok (.istore 4, 2) := by decide +kernel
theorem d_M_nearestOf_118 : decode b_M_nearestOf 118 = .ok (.iinc 5 1, 3) := by decide +kernel
theorem d_M_nearestOf_121 : decode b_M_nearestOf 121 = .ok (.goto (-101), 3) := by decide +kernel
theorem d_M_nearestOf_124 : decode b_M_nearestOf 124 = .ok (.iload 4, 2) := by decide +kernel
theorem d_M_nearestOf_126 : decode b_M_nearestOf 126 = .ok (.ireturn, 1) := by decide +kernel
theorem d_M_next_0 : decode b_M_next 0 = .ok (.iconst 0, 1) := by decide +kernel
theorem d_M_next_1 : decode b_M_next 1 = .ok (.istore_n 2, 1) := by decide +kernel
theorem d_M_next_2 : decode b_M_next 2 = .ok (.iload_n 2, 1) := by decide +kernel
theorem d_M_next_3 : decode b_M_next 3 = .ok (.bipush 24, 2) := by decide +kernel
theorem d_M_next_5 : decode b_M_next 5 = .ok (.if_icmp .ge 21, 3) := by decide +kernel
theorem d_M_next_8 : decode b_M_next 8 = .ok (.iload_n 0, 1) := by decide +kernel
theorem d_M_next_9 : decode b_M_next 9 = .ok (.iload_n 1, 1) := by decide +kernel
theorem d_M_next_10 : decode b_M_next 10 = .ok (.iconst (-1), 1) := by decide +kernel
theorem d_M_next_11 : decode b_M_next 11 = .ok (.ixor, 1) := by decide +kernel
theorem d_M_next_12 : decode b_M_next 12 = .ok (.iand, 1) := by decide +kernel
theorem d_M_next_13 : decode b_M_next 13 = .ok (.iload_n 2, 1) := by decide +kernel
theorem d_M_next_14 : decode b_M_next 14 = .ok (.ishr, 1) := by decide +kernel
theorem d_M_next_15 : decode b_M_next 15 = .ok (.iconst 1, 1) := by decide +kernel
theorem d_M_next_16 : decode b_M_next 16 = .ok (.iand, 1) := by decide +kernel
theorem d_M_next_17 : decode b_M_next 17 = .ok (.ifCond .ne 9, 3) := by decide +kernel
theorem d_M_next_20 : decode b_M_next 20 = .ok (.iinc 2 1, 3) := by decide +kernel
theorem d_M_next_23 : decode b_M_next 23 = .ok (.goto (-21), 3) := by decide +kernel
theorem d_M_next_26 : decode b_M_next 26 = .ok (.iload_n 2, 1) := by decide +kernel
theorem d_M_next_27 : decode b_M_next 27 = .ok (.ireturn, 1) := by decide +kernel
theorem d_M_joinBase_0 : decode b_M_joinBase 0 = .ok (.iconst 0, 1) := by decide +kernel
theorem d_M_joinBase_1 : decode b_M_joinBase 1 = .ok (.istore_n 3, 1) := by decide +kernel
theorem d_M_joinBase_2 : decode b_M_joinBase 2 = .ok (.iload_n 3, 1) := by decide +kernel
theorem d_M_joinBase_3 : decode b_M_joinBase 3 = .ok (.sipush 4096, 3) := by decide +kernel
theorem d_M_joinBase_6 : decode b_M_joinBase 6 = .ok (.if_icmp .ge 107, 3) := by decide +kernel
theorem d_M_joinBase_9 : decode b_M_joinBase 9 = .ok (.aload_n 0, 1) := by decide +kernel
theorem d_M_joinBase_10 : decode b_M_joinBase 10 = .ok (.getfield 83, 3) := by decide +kernel
theorem d_M_joinBase_13 : decode b_M_joinBase 13 = .ok (.sipush 4096, 3) := by decide +kernel
theorem d_M_joinBase_16 : decode b_M_joinBase 16 = .ok (.iload_n 1, 1) := by decide +kernel
theorem d_M_joinBase_17 : decode b_M_joinBase 17 = .ok (.imul, 1) := by decide +kernel
theorem d_M_joinBase_18 : decode b_M_joinBase 18 = .ok (.iload_n 3, 1) := by decide +kernel
theorem d_M_joinBase_19 : decode b_M_joinBase 19 = .ok (.iadd, 1) := by decide +kernel
theorem d_M_joinBase_20 : decode b_M_joinBase 20 = .ok (.iaload, 1) := by decide +kernel
theorem d_M_joinBase_21 : decode b_M_joinBase 21 = .ok (.istore 4, 2) := by decide +kernel
theorem d_M_joinBase_23 : decode b_M_joinBase 23 = .ok (.aload_n 0, 1) := by decide +kernel
theorem d_M_joinBase_24 : decode b_M_joinBase 24 = .ok (.getfield 8, 3) := by decide +kernel
theorem d_M_joinBase_27 : decode b_M_joinBase 27 = .ok (.sipush 4096, 3) := by decide +kernel
theorem d_M_joinBase_30 : decode b_M_joinBase 30 = .ok (.iload_n 2, 1) := by decide +kernel
theorem d_M_joinBase_31 : decode b_M_joinBase 31 = .ok (.imul, 1) := by decide +kernel
theorem d_M_joinBase_32 : decode b_M_joinBase 32 = .ok (.iload_n 3, 1) := by decide +kernel
theorem d_M_joinBase_33 : decode b_M_joinBase 33 = .ok (.iadd, 1) := by decide +kernel
theorem d_M_joinBase_34 : decode b_M_joinBase 34 = .ok (.iaload, 1) := by decide +kernel
theorem d_M_joinBase_35 : decode b_M_joinBase 35 = .ok (.istore 5, 2) := by decide +kernel
theorem d_M_joinBase_37 : decode b_M_joinBase 37 = .ok (.aload_n 0, 1) := by decide +kernel
theorem d_M_joinBase_38 : decode b_M_joinBase 38 = .ok (.getfield 83, 3) := by decide +kernel
theorem d_M_joinBase_41 : decode b_M_joinBase 41 = .ok (.sipush 4096, 3) := by decide +kernel
theorem d_M_joinBase_44 : decode b_M_joinBase 44 = .ok (.iload_n 1, 1) := by decide +kernel
theorem d_M_joinBase_45 : decode b_M_joinBase 45 = .ok (.imul, 1) := by decide +kernel
theorem d_M_joinBase_46 : decode b_M_joinBase 46 = .ok (.sipush 4096, 3) := by decide +kernel
theorem d_M_joinBase_49 : decode b_M_joinBase 49 = .ok (.iadd, 1) := by decide +kernel
theorem d_M_joinBase_50 : decode b_M_joinBase 50 = .ok (.iload_n 3, 1) := by decide +kernel
theorem d_M_joinBase_51 : decode b_M_joinBase 51 = .ok (.iadd, 1) := by decide +kernel
theorem d_M_joinBase_52 : decode b_M_joinBase 52 = .ok (.iaload, 1) := by decide +kernel
theorem d_M_joinBase_53 : decode b_M_joinBase 53 = .ok (.istore 6, 2) := by decide +kernel
theorem d_M_joinBase_55 : decode b_M_joinBase 55 = .ok (.iload 4, 2) := by decide +kernel
theorem d_M_joinBase_57 : decode b_M_joinBase 57 = .ok (.iload 6, 2) := by decide +kernel
theorem d_M_joinBase_59 : decode b_M_joinBase 59 = .ok (.if_icmp .ne 20, 3) := by decide +kernel
theorem d_M_joinBase_62 : decode b_M_joinBase 62 = .ok (.aload_n 0, 1) := by decide +kernel
theorem d_M_joinBase_63 : decode b_M_joinBase 63 = .ok (.getfield 83, 3) := by decide +kernel
theorem d_M_joinBase_66 : decode b_M_joinBase 66 = .ok (.sipush 4096, 3) := by decide +kernel
theorem d_M_joinBase_69 : decode b_M_joinBase 69 = .ok (.iload_n 1, 1) := by decide +kernel
theorem d_M_joinBase_70 : decode b_M_joinBase 70 = .ok (.imul, 1) := by decide +kernel
theorem d_M_joinBase_71 : decode b_M_joinBase 71 = .ok (.iload_n 3, 1) := by decide +kernel
theorem d_M_joinBase_72 : decode b_M_joinBase 72 = .ok (.iadd, 1) := by decide +kernel
theorem d_M_joinBase_73 : decode b_M_joinBase 73 = .ok (.iload 5, 2) := by decide +kernel
theorem d_M_joinBase_75 : decode b_M_joinBase 75 = .ok (.iastore, 1) := by decide +kernel
theorem d_M_joinBase_76 : decode b_M_joinBase 76 = .ok (.goto 31, 3) := by decide +kernel
theorem d_M_joinBase_79 : decode b_M_joinBase 79 = .ok (.iload 5, 2) := by decide +kernel
theorem d_M_joinBase_81 : decode b_M_joinBase 81 = .ok (.iload 6, 2) := by decide +kernel
theorem d_M_joinBase_83 : decode b_M_joinBase 83 = .ok (.if_icmp .eq 24, 3) := by decide +kernel
theorem d_M_joinBase_86 : decode b_M_joinBase 86 = .ok (.iload 5, 2) := by decide +kernel
theorem d_M_joinBase_88 : decode b_M_joinBase 88 = .ok (.iload 4, 2) := by decide +kernel
theorem d_M_joinBase_90 : decode b_M_joinBase 90 = .ok (.if_icmp .eq 17, 3) := by decide +kernel
theorem d_M_joinBase_93 : decode b_M_joinBase 93 = .ok (.aload_n 0, 1) := by decide +kernel
theorem d_M_joinBase_94 : decode b_M_joinBase 94 = .ok (.getfield 83, 3) := by decide +kernel
theorem d_M_joinBase_97 : decode b_M_joinBase 97 = .ok (.sipush 4096, 3) := by decide +kernel
theorem d_M_joinBase_100 : decode b_M_joinBase 100 = .ok (.iload_n 1, 1) := by decide +kernel
theorem d_M_joinBase_101 : decode b_M_joinBase 101 = .ok (.imul, 1) := by decide +kernel
theorem d_M_joinBase_102 : decode b_M_joinBase 102 = .ok (.iload_n 3, 1) := by decide +kernel
theorem d_M_joinBase_103 : decode b_M_joinBase 103 = .ok (.iadd, 1) := by decide +kernel
theorem d_M_joinBase_104 : decode b_M_joinBase 104 = .ok (.ldc 89, 2) := by decide +kernel
theorem d_M_joinBase_106 : decode b_M_joinBase 106 = .ok (.iastore, 1) := by decide +kernel
theorem d_M_joinBase_107 : decode b_M_joinBase 107 = .ok (.iinc 3 1, 3) := by decide +kernel
theorem d_M_joinBase_110 : decode b_M_joinBase 110 = .ok (.goto (-108), 3) := by decide +kernel
theorem d_M_joinBase_113 : decode b_M_joinBase 113 = .ok (.return_, 1) := by decide +kernel
theorem d_M_madeIn_0 : decode b_M_madeIn 0 = .ok (.aload_n 0, 1) := by decide +kernel
theorem d_M_madeIn_1 : decode b_M_madeIn 1 = .ok (.getfield 14, 3) := by decide +kernel
theorem d_M_madeIn_4 : decode b_M_madeIn 4 = .ok (.iload_n 1, 1) := by decide +kernel
theorem d_M_madeIn_5 : decode b_M_madeIn 5 = .ok (.iaload, 1) := by decide +kernel
theorem d_M_madeIn_6 : decode b_M_madeIn 6 = .ok (.ifCond .ge 7, 3) := by decide +kernel
theorem d_M_madeIn_9 : decode b_M_madeIn 9 = .ok (.iconst (-1), 1) := by decide +kernel
theorem d_M_madeIn_10 : decode b_M_madeIn 10 = .ok (.goto 13, 3) := by decide +kernel
theorem d_M_madeIn_13 : decode b_M_madeIn 13 = .ok (.aload_n 0, 1) := by decide +kernel
theorem d_M_madeIn_14 : decode b_M_madeIn 14 = .ok (.getfield 14, 3) := by decide +kernel
theorem d_M_madeIn_17 : decode b_M_madeIn 17 = .ok (.iload_n 1, 1) := by decide +kernel
theorem d_M_madeIn_18 : decode b_M_madeIn 18 = .ok (.iaload, 1) := by decide +kernel
theorem d_M_madeIn_19 : decode b_M_madeIn 19 = .ok (.sipush 4096, 3) := by decide +kernel
theorem d_M_madeIn_22 : decode b_M_madeIn 22 = .ok (.idiv, 1) := by decide +kernel
theorem d_M_madeIn_23 : decode b_M_madeIn 23 = .ok (.ireturn, 1) := by decide +kernel
theorem d_M_note_0 : decode b_M_note 0 = .ok (.sipush 4096, 3) := by decide +kernel
theorem d_M_note_3 : decode b_M_note 3 = .ok (.iload_n 1, 1) := by decide +kernel
theorem d_M_note_4 : decode b_M_note 4 = .ok (.imul, 1) := by decide +kernel
theorem d_M_note_5 : decode b_M_note 5 = .ok (.aload_n 0, 1) := by decide +kernel
theorem d_M_note_6 : decode b_M_note 6 = .ok (.getfield 52, 3) := by decide +kernel
theorem d_M_note_9 : decode b_M_note 9 = .ok (.iload_n 1, 1) := by decide +kernel
theorem d_M_note_10 : decode b_M_note 10 = .ok (.iaload, 1) := by decide +kernel
theorem d_M_note_11 : decode b_M_note 11 = .ok (.iadd, 1) := by decide +kernel
theorem d_M_note_12 : decode b_M_note 12 = .ok (.istore 6, 2) := by decide +kernel
theorem d_M_note_14 : decode b_M_note 14 = .ok (.aload_n 0, 1) := by decide +kernel
theorem d_M_note_15 : decode b_M_note 15 = .ok (.getfield 40, 3) := by decide +kernel
theorem d_M_note_18 : decode b_M_note 18 = .ok (.iload 6, 2) := by decide +kernel
theorem d_M_note_20 : decode b_M_note 20 = .ok (.iload_n 2, 1) := by decide +kernel
theorem d_M_note_21 : decode b_M_note 21 = .ok (.iastore, 1) := by decide +kernel
theorem d_M_note_22 : decode b_M_note 22 = .ok (.aload_n 0, 1) := by decide +kernel
theorem d_M_note_23 : decode b_M_note 23 = .ok (.getfield 43, 3) := by decide +kernel
theorem d_M_note_26 : decode b_M_note 26 = .ok (.iload 6, 2) := by decide +kernel
theorem d_M_note_28 : decode b_M_note 28 = .ok (.iload_n 3, 1) := by decide +kernel
theorem d_M_note_29 : decode b_M_note 29 = .ok (.iastore, 1) := by decide +kernel
theorem d_M_note_30 : decode b_M_note 30 = .ok (.aload_n 0, 1) := by decide +kernel
theorem d_M_note_31 : decode b_M_note 31 = .ok (.getfield 46, 3) := by decide +kernel
theorem d_M_note_34 : decode b_M_note 34 = .ok (.iload 6, 2) := by decide +kernel
theorem d_M_note_36 : decode b_M_note 36 = .ok (.iload 4, 2) := by decide +kernel
theorem d_M_note_38 : decode b_M_note 38 = .ok (.iastore, 1) := by decide +kernel
theorem d_M_note_39 : decode b_M_note 39 = .ok (.aload_n 0, 1) := by decide +kernel
theorem d_M_note_40 : decode b_M_note 40 = .ok (.getfield 49, 3) := by decide +kernel
theorem d_M_note_43 : decode b_M_note 43 = .ok (.iload 6, 2) := by decide +kernel
theorem d_M_note_45 : decode b_M_note 45 = .ok (.iload 5, 2) := by decide +kernel
theorem d_M_note_47 : decode b_M_note 47 = .ok (.iastore, 1) := by decide +kernel
theorem d_M_note_48 : decode b_M_note 48 = .ok (.aload_n 0, 1) := by decide +kernel
theorem d_M_note_49 : decode b_M_note 49 = .ok (.getfield 55, 3) := by decide +kernel
theorem d_M_note_52 : decode b_M_note 52 = .ok (.iload 6, 2) := by decide +kernel
theorem d_M_note_54 : decode b_M_note 54 = .ok (.iconst 0, 1) := by decide +kernel
theorem d_M_note_55 : decode b_M_note 55 = .ok (.bastore, 1) := by decide +kernel
theorem d_M_note_56 : decode b_M_note 56 = .ok (.aload_n 0, 1) := by decide +kernel
theorem d_M_note_57 : decode b_M_note 57 = .ok (.getfield 52, 3) := by decide +kernel
theorem d_M_note_60 : decode b_M_note 60 = .ok (.iload_n 1, 1) := by decide +kernel
theorem d_M_note_61 : decode b_M_note 61 = .ok (.dup2, 1) := by decide +kernel
theorem d_M_note_62 : decode b_M_note 62 = .ok (.iaload, 1) := by decide +kernel
theorem d_M_note_63 : decode b_M_note 63 = .ok (.iconst 1, 1) := by decide +kernel
theorem d_M_note_64 : decode b_M_note 64 = .ok (.iadd, 1) := by decide +kernel
theorem d_M_note_65 : decode b_M_note 65 = .ok (.iastore, 1) := by decide +kernel
theorem d_M_note_66 : decode b_M_note 66 = .ok (.return_, 1) := by decide +kernel
theorem d_M_conflict_0 : decode b_M_conflict 0 = .ok (.aload_n 0, 1) := by decide +kernel
theorem d_M_conflict_1 : decode b_M_conflict 1 = .ok (.iconst 0, 1) := by decide +kernel
theorem d_M_conflict_2 : decode b_M_conflict 2 = .ok (.putfield 90, 3) := by decide +kernel
theorem d_M_conflict_5 : decode b_M_conflict 5 = .ok (.aload_n 0, 1) := by decide +kernel
theorem d_M_conflict_6 : decode b_M_conflict 6 = .ok (.iload_n 1, 1) := by decide +kernel
theorem d_M_conflict_7 : decode b_M_conflict 7 = .ok (.iload_n 2, 1) := by decide +kernel
theorem d_M_conflict_8 : decode b_M_conflict 8 = .ok (.invokevirtual 168, 3) := by decide +kernel
theorem d_M_conflict_11 : decode b_M_conflict 11 = .ok (.ifCond .ne 6, 3) := by decide +kernel
theorem d_M_conflict_14 : decode b_M_conflict 14 = .ok (.ldc 89, 2) := by decide +kernel
theorem d_M_conflict_16 : decode b_M_conflict 16 = .ok (.ireturn, 1) := by decide +kernel
theorem d_M_conflict_17 : decode b_M_conflict 17 = .ok (.sipush 4096, 3) := by decide +kernel
theorem d_M_conflict_20 : decode b_M_conflict 20 = .ok (.iload_n 1, 1) := by decide +kernel
theorem d_M_conflict_21 : decode b_M_conflict 21 = .ok (.imul, 1) := by decide +kernel
theorem d_M_conflict_22 : decode b_M_conflict 22 = .ok (.iload_n 2, 1) := by decide +kernel
theorem d_M_conflict_23 : decode b_M_conflict 23 = .ok (.iadd, 1) := by decide +kernel
theorem d_M_conflict_24 : decode b_M_conflict 24 = .ok (.istore 4, 2) := by decide +kernel
theorem d_M_conflict_26 : decode b_M_conflict 26 = .ok (.iload_n 3, 1) := by decide +kernel
theorem d_M_conflict_27 : decode b_M_conflict 27 = .ok (.tableswitch 118 0 6 #[41, 53, 64, 78, 86, 94, 102], 41) := by decide +kernel
theorem d_M_conflict_68 : decode b_M_conflict 68 = .ok (.aload_n 0, 1) := by decide +kernel
theorem d_M_conflict_69 : decode b_M_conflict 69 = .ok (.getfield 40, 3) := by decide +kernel
theorem d_M_conflict_72 : decode b_M_conflict 72 = .ok (.iload 4, 2) := by decide +kernel
theorem d_M_conflict_74 : decode b_M_conflict 74 = .ok (.iaload, 1) := by decide +kernel
theorem d_M_conflict_75 : decode b_M_conflict 75 = .ok (.sipush 1024, 3) := by decide +kernel
theorem d_M_conflict_78 : decode b_M_conflict 78 = .ok (.idiv, 1) := by decide +kernel
theorem d_M_conflict_79 : decode b_M_conflict 79 = .ok (.ireturn, 1) := by decide +kernel
theorem d_M_conflict_80 : decode b_M_conflict 80 = .ok (.aload_n 0, 1) := by decide +kernel
theorem d_M_conflict_81 : decode b_M_conflict 81 = .ok (.getfield 40, 3) := by decide +kernel
theorem d_M_conflict_84 : decode b_M_conflict 84 = .ok (.iload 4, 2) := by decide +kernel
theorem d_M_conflict_86 : decode b_M_conflict 86 = .ok (.iaload, 1) := by decide +kernel
theorem d_M_conflict_87 : decode b_M_conflict 87 = .ok (.bipush 32, 2) := by decide +kernel
theorem d_M_conflict_89 : decode b_M_conflict 89 = .ok (.irem, 1) := by decide +kernel
theorem d_M_conflict_90 : decode b_M_conflict 90 = .ok (.ireturn, 1) := by decide +kernel
theorem d_M_conflict_91 : decode b_M_conflict 91 = .ok (.aload_n 0, 1) := by decide +kernel
theorem d_M_conflict_92 : decode b_M_conflict 92 = .ok (.getfield 40, 3) := by decide +kernel
theorem d_M_conflict_95 : decode b_M_conflict 95 = .ok (.iload 4, 2) := by decide +kernel
theorem d_M_conflict_97 : decode b_M_conflict 97 = .ok (.iaload, 1) := by decide +kernel
theorem d_M_conflict_98 : decode b_M_conflict 98 = .ok (.bipush 32, 2) := by decide +kernel
theorem d_M_conflict_100 : decode b_M_conflict 100 = .ok (.idiv, 1) := by decide +kernel
theorem d_M_conflict_101 : decode b_M_conflict 101 = .ok (.bipush 32, 2) := by decide +kernel
theorem d_M_conflict_103 : decode b_M_conflict 103 = .ok (.irem, 1) := by decide +kernel
theorem d_M_conflict_104 : decode b_M_conflict 104 = .ok (.ireturn, 1) := by decide +kernel
theorem d_M_conflict_105 : decode b_M_conflict 105 = .ok (.aload_n 0, 1) := by decide +kernel
theorem d_M_conflict_106 : decode b_M_conflict 106 = .ok (.getfield 43, 3) := by decide +kernel
theorem d_M_conflict_109 : decode b_M_conflict 109 = .ok (.iload 4, 2) := by decide +kernel
theorem d_M_conflict_111 : decode b_M_conflict 111 = .ok (.iaload, 1) := by decide +kernel
theorem d_M_conflict_112 : decode b_M_conflict 112 = .ok (.ireturn, 1) := by decide +kernel
theorem d_M_conflict_113 : decode b_M_conflict 113 = .ok (.aload_n 0, 1) := by decide +kernel
theorem d_M_conflict_114 : decode b_M_conflict 114 = .ok (.getfield 46, 3) := by decide +kernel
theorem d_M_conflict_117 : decode b_M_conflict 117 = .ok (.iload 4, 2) := by decide +kernel
theorem d_M_conflict_119 : decode b_M_conflict 119 = .ok (.iaload, 1) := by decide +kernel
theorem d_M_conflict_120 : decode b_M_conflict 120 = .ok (.ireturn, 1) := by decide +kernel
theorem d_M_conflict_121 : decode b_M_conflict 121 = .ok (.aload_n 0, 1) := by decide +kernel
theorem d_M_conflict_122 : decode b_M_conflict 122 = .ok (.getfield 49, 3) := by decide +kernel
theorem d_M_conflict_125 : decode b_M_conflict 125 = .ok (.iload 4, 2) := by decide +kernel
theorem d_M_conflict_127 : decode b_M_conflict 127 = .ok (.iaload, 1) := by decide +kernel
theorem d_M_conflict_128 : decode b_M_conflict 128 = .ok (.ireturn, 1) := by decide +kernel
theorem d_M_conflict_129 : decode b_M_conflict 129 = .ok (.aload_n 0, 1) := by decide +kernel
theorem d_M_conflict_130 : decode b_M_conflict 130 = .ok (.getfield 55, 3) := by decide +kernel
theorem d_M_conflict_133 : decode b_M_conflict 133 = .ok (.iload 4, 2) := by decide +kernel
theorem d_M_conflict_135 : decode b_M_conflict 135 = .ok (.baload, 1) := by decide +kernel
theorem d_M_conflict_136 : decode b_M_conflict 136 = .ok (.ifCond .eq 7, 3) := by decide +kernel
theorem d_M_conflict_139 : decode b_M_conflict 139 = .ok (.iconst 1, 1) := by decide +kernel
theorem d_M_conflict_140 : decode b_M_conflict 140 = .ok (.goto 4, 3) := by decide +kernel
theorem d_M_conflict_143 : decode b_M_conflict 143 = .ok (.iconst 0, 1) := by decide +kernel
theorem d_M_conflict_144 : decode b_M_conflict 144 = .ok (.ireturn, 1) := by decide +kernel
theorem d_M_conflict_145 : decode b_M_conflict 145 = .ok (.ldc 89, 2) := by decide +kernel
theorem d_M_conflict_147 : decode b_M_conflict 147 = .ok (.ireturn, 1) := by decide +kernel
theorem d_M_isConflict_0 : decode b_M_isConflict 0 = .ok (.aload_n 0, 1) := by decide +kernel
theorem d_M_isConflict_1 : decode b_M_isConflict 1 = .ok (.iload_n 1, 1) := by decide +kernel
theorem d_M_isConflict_2 : decode b_M_isConflict 2 = .ok (.invokevirtual 97, 3) := by decide +kernel
theorem d_M_isConflict_5 : decode b_M_isConflict 5 = .ok (.ifCond .eq 21, 3) := by decide +kernel
theorem d_M_isConflict_8 : decode b_M_isConflict 8 = .ok (.iload_n 2, 1) := by decide +kernel
theorem d_M_isConflict_9 : decode b_M_isConflict 9 = .ok (.ifCond .lt 17, 3) := by decide +kernel
theorem d_M_isConflict_12 : decode b_M_isConflict 12 = .ok (.iload_n 2, 1) := by decide +kernel
theorem d_M_isConflict_13 : decode b_M_isConflict 13 = .ok (.aload_n 0, 1) := by decide +kernel
theorem d_M_isConflict_14 : decode b_M_isConflict 14 = .ok (.getfield 52, 3) := by decide +kernel
theorem d_M_isConflict_17 : decode b_M_isConflict 17 = .ok (.iload_n 1, 1) := by decide +kernel
theorem d_M_isConflict_18 : decode b_M_isConflict 18 = .ok (.iaload, 1) := by decide +kernel
theorem d_M_isConflict_19 : decode b_M_isConflict 19 = .ok (.if_icmp .ge 7, 3) := by decide +kernel
theorem d_M_isConflict_22 : decode b_M_isConflict 22 = .ok (.iconst 1, 1) := by decide +kernel
theorem d_M_isConflict_23 : decode b_M_isConflict 23 = .ok (.goto 4, 3) := by decide +kernel
theorem d_M_isConflict_26 : decode b_M_isConflict 26 = .ok (.iconst 0, 1) := by decide +kernel
theorem d_M_isConflict_27 : decode b_M_isConflict 27 = .ok (.ireturn, 1) := by decide +kernel
theorem d_M_settle_0 : decode b_M_settle 0 = .ok (.aload_n 0, 1) := by decide +kernel
theorem d_M_settle_1 : decode b_M_settle 1 = .ok (.aload_n 0, 1) := by decide +kernel
theorem d_M_settle_2 : decode b_M_settle 2 = .ok (.iload_n 1, 1) := by decide +kernel
theorem d_M_settle_3 : decode b_M_settle 3 = .ok (.iload_n 2, 1) := by decide +kernel
theorem d_M_settle_4 : decode b_M_settle 4 = .ok (.invokevirtual 168, 3) := by decide +kernel
theorem d_M_settle_7 : decode b_M_settle 7 = .ok (.ifCond .eq 10, 3) := by decide +kernel
theorem d_M_settle_10 : decode b_M_settle 10 = .ok (.iload_n 3, 1) := by decide +kernel
theorem d_M_settle_11 : decode b_M_settle 11 = .ok (.invokestatic 116, 3) := by decide +kernel
theorem d_M_settle_14 : decode b_M_settle 14 = .ok (.ifCond .ne 7, 3) := by decide +kernel
theorem d_M_settle_17 : decode b_M_settle 17 = .ok (.iconst 1, 1) := by decide +kernel
theorem d_M_settle_18 : decode b_M_settle 18 = .ok (.goto 4, 3) := by decide +kernel
theorem d_M_settle_21 : decode b_M_settle 21 = .ok (.iconst 0, 1) := by decide +kernel
theorem d_M_settle_22 : decode b_M_settle 22 = .ok (.invokevirtual 119, 3) := by decide +kernel
theorem d_M_settle_25 : decode b_M_settle 25 = .ok (.ifCond .eq 5, 3) := by decide +kernel
theorem d_M_settle_28 : decode b_M_settle 28 = .ok (.iconst 0, 1) := by decide +kernel
theorem d_M_settle_29 : decode b_M_settle 29 = .ok (.ireturn, 1) := by decide +kernel
theorem d_M_settle_30 : decode b_M_settle 30 = .ok (.aload_n 0, 1) := by decide +kernel
theorem d_M_settle_31 : decode b_M_settle 31 = .ok (.getfield 55, 3) := by decide +kernel
theorem d_M_settle_34 : decode b_M_settle 34 = .ok (.sipush 4096, 3) := by decide +kernel
theorem d_M_settle_37 : decode b_M_settle 37 = .ok (.iload_n 1, 1) := by decide +kernel
theorem d_M_settle_38 : decode b_M_settle 38 = .ok (.imul, 1) := by decide +kernel
theorem d_M_settle_39 : decode b_M_settle 39 = .ok (.iload_n 2, 1) := by decide +kernel
theorem d_M_settle_40 : decode b_M_settle 40 = .ok (.iadd, 1) := by decide +kernel
theorem d_M_settle_41 : decode b_M_settle 41 = .ok (.iconst 1, 1) := by decide +kernel
theorem d_M_settle_42 : decode b_M_settle 42 = .ok (.bastore, 1) := by decide +kernel
theorem d_M_settle_43 : decode b_M_settle 43 = .ok (.aload_n 0, 1) := by decide +kernel
theorem d_M_settle_44 : decode b_M_settle 44 = .ok (.iload_n 1, 1) := by decide +kernel
theorem d_M_settle_45 : decode b_M_settle 45 = .ok (.aload_n 0, 1) := by decide +kernel
theorem d_M_settle_46 : decode b_M_settle 46 = .ok (.getfield 40, 3) := by decide +kernel
theorem d_M_settle_49 : decode b_M_settle 49 = .ok (.sipush 4096, 3) := by decide +kernel
theorem d_M_settle_52 : decode b_M_settle 52 = .ok (.iload_n 1, 1) := by decide +kernel
theorem d_M_settle_53 : decode b_M_settle 53 = .ok (.imul, 1) := by decide +kernel
theorem d_M_settle_54 : decode b_M_settle 54 = .ok (.iload_n 2, 1) := by decide +kernel
theorem d_M_settle_55 : decode b_M_settle 55 = .ok (.iadd, 1) := by decide +kernel
theorem d_M_settle_56 : decode b_M_settle 56 = .ok (.iaload, 1) := by decide +kernel
theorem d_M_settle_57 : decode b_M_settle 57 = .ok (.iload_n 3, 1) := by decide +kernel
theorem d_M_settle_58 : decode b_M_settle 58 = .ok (.invokevirtual 127, 3) := by decide +kernel
theorem d_M_settle_61 : decode b_M_settle 61 = .ok (.aload_n 0, 1) := by decide +kernel
theorem d_M_settle_62 : decode b_M_settle 62 = .ok (.iload_n 1, 1) := by decide +kernel
theorem d_M_settle_63 : decode b_M_settle 63 = .ok (.invokevirtual 138, 3) := by decide +kernel
theorem d_M_settle_66 : decode b_M_settle 66 = .ok (.ireturn, 1) := by decide +kernel
theorem d_M_value_0 : decode b_M_value 0 = .ok (.aload_n 0, 1) := by decide +kernel
theorem d_M_value_1 : decode b_M_value 1 = .ok (.iconst 0, 1) := by decide +kernel
theorem d_M_value_2 : decode b_M_value 2 = .ok (.putfield 90, 3) := by decide +kernel
theorem d_M_value_5 : decode b_M_value 5 = .ok (.aload_n 0, 1) := by decide +kernel
theorem d_M_value_6 : decode b_M_value 6 = .ok (.iload_n 1, 1) := by decide +kernel
theorem d_M_value_7 : decode b_M_value 7 = .ok (.iload_n 2, 1) := by decide +kernel
theorem d_M_value_8 : decode b_M_value 8 = .ok (.iload_n 3, 1) := by decide +kernel
theorem d_M_value_9 : decode b_M_value 9 = .ok (.iload 4, 2) := by decide +kernel
theorem d_M_value_11 : decode b_M_value 11 = .ok (.invokevirtual 175, 3) := by decide +kernel
theorem d_M_value_14 : decode b_M_value 14 = .ok (.ifCond .eq 24, 3) := by decide +kernel
theorem d_M_value_17 : decode b_M_value 17 = .ok (.aload_n 0, 1) := by decide +kernel
theorem d_M_value_18 : decode b_M_value 18 = .ok (.getfield 8, 3) := by decide +kernel
theorem d_M_value_21 : decode b_M_value 21 = .ok (.sipush 4096, 3) := by decide +kernel
theorem d_M_value_24 : decode b_M_value 24 = .ok (.iload_n 1, 1) := by decide +kernel
theorem d_M_value_25 : decode b_M_value 25 = .ok (.imul, 1) := by decide +kernel
theorem d_M_value_26 : decode b_M_value 26 = .ok (.iload_n 2, 1) := by decide +kernel
theorem d_M_value_27 : decode b_M_value 27 = .ok (.iload_n 3, 1) := by decide +kernel
theorem d_M_value_28 : decode b_M_value 28 = .ok (.iload 4, 2) := by decide +kernel
theorem d_M_value_30 : decode b_M_value 30 = .ok (.invokestatic 123, 3) := by decide +kernel
theorem d_M_value_33 : decode b_M_value 33 = .ok (.iadd, 1) := by decide +kernel
theorem d_M_value_34 : decode b_M_value 34 = .ok (.iaload, 1) := by decide +kernel
theorem d_M_value_35 : decode b_M_value 35 = .ok (.goto 5, 3) := by decide +kernel
theorem d_M_value_38 : decode b_M_value 38 = .ok (.ldc 89, 2) := by decide +kernel
theorem d_M_value_40 : decode b_M_value 40 = .ok (.ireturn, 1) := by decide +kernel
theorem d_M_isCell_0 : decode b_M_isCell 0 = .ok (.aload_n 0, 1) := by decide +kernel
theorem d_M_isCell_1 : decode b_M_isCell 1 = .ok (.iload_n 1, 1) := by decide +kernel
theorem d_M_isCell_2 : decode b_M_isCell 2 = .ok (.invokevirtual 172, 3) := by decide +kernel
theorem d_M_isCell_5 : decode b_M_isCell 5 = .ok (.ifCond .eq 36, 3) := by decide +kernel
theorem d_M_isCell_8 : decode b_M_isCell 8 = .ok (.iload_n 2, 1) := by decide +kernel
theorem d_M_isCell_9 : decode b_M_isCell 9 = .ok (.invokestatic 102, 3) := by decide +kernel
theorem d_M_isCell_12 : decode b_M_isCell 12 = .ok (.ifCond .eq 29, 3) := by decide +kernel
theorem d_M_isCell_15 : decode b_M_isCell 15 = .ok (.iload_n 3, 1) := by decide +kernel
theorem d_M_isCell_16 : decode b_M_isCell 16 = .ok (.ifCond .lt 25, 3) := by decide +kernel
theorem d_M_isCell_19 : decode b_M_isCell 19 = .ok (.iload_n 3, 1) := by decide +kernel
theorem d_M_isCell_20 : decode b_M_isCell 20 = .ok (.bipush 32, 2) := by decide +kernel
theorem d_M_isCell_22 : decode b_M_isCell 22 = .ok (.if_icmp .ge 19, 3) := by decide +kernel
theorem d_M_isCell_25 : decode b_M_isCell 25 = .ok (.iload 4, 2) := by decide +kernel
theorem d_M_isCell_27 : decode b_M_isCell 27 = .ok (.ifCond .lt 14, 3) := by decide +kernel
theorem d_M_isCell_30 : decode b_M_isCell 30 = .ok (.iload 4, 2) := by decide +kernel
theorem d_M_isCell_32 : decode b_M_isCell 32 = .ok (.bipush 32, 2) := by decide +kernel
theorem d_M_isCell_34 : decode b_M_isCell 34 = .ok (.if_icmp .ge 7, 3) := by decide +kernel
theorem d_M_isCell_37 : decode b_M_isCell 37 = .ok (.iconst 1, 1) := by decide +kernel
theorem d_M_isCell_38 : decode b_M_isCell 38 = .ok (.goto 4, 3) := by decide +kernel
theorem d_M_isCell_41 : decode b_M_isCell 41 = .ok (.iconst 0, 1) := by decide +kernel
theorem d_M_isCell_42 : decode b_M_isCell 42 = .ok (.ireturn, 1) := by decide +kernel
theorem d_M_isPlace_0 : decode b_M_isPlace 0 = .ok (.iload_n 1, 1) := by decide +kernel
theorem d_M_isPlace_1 : decode b_M_isPlace 1 = .ok (.bipush 24, 2) := by decide +kernel
theorem d_M_isPlace_3 : decode b_M_isPlace 3 = .ok (.if_icmp .ge 11, 3) := by decide +kernel
theorem d_M_isPlace_6 : decode b_M_isPlace 6 = .ok (.aload_n 0, 1) := by decide +kernel
theorem d_M_isPlace_7 : decode b_M_isPlace 7 = .ok (.iload_n 1, 1) := by decide +kernel
theorem d_M_isPlace_8 : decode b_M_isPlace 8 = .ok (.invokevirtual 93, 3) := by decide +kernel
theorem d_M_isPlace_11 : decode b_M_isPlace 11 = .ok (.goto 11, 3) := by decide +kernel
theorem d_M_isPlace_14 : decode b_M_isPlace 14 = .ok (.aload_n 0, 1) := by decide +kernel
theorem d_M_isPlace_15 : decode b_M_isPlace 15 = .ok (.iload_n 1, 1) := by decide +kernel
theorem d_M_isPlace_16 : decode b_M_isPlace 16 = .ok (.bipush 24, 2) := by decide +kernel
theorem d_M_isPlace_18 : decode b_M_isPlace 18 = .ok (.isub, 1) := by decide +kernel
theorem d_M_isPlace_19 : decode b_M_isPlace 19 = .ok (.invokevirtual 97, 3) := by decide +kernel
theorem d_M_isPlace_22 : decode b_M_isPlace 22 = .ok (.ireturn, 1) := by decide +kernel
theorem d_M_origin_0 : decode b_M_origin 0 = .ok (.aload_n 0, 1) := by decide +kernel
theorem d_M_origin_1 : decode b_M_origin 1 = .ok (.iconst 0, 1) := by decide +kernel
theorem d_M_origin_2 : decode b_M_origin 2 = .ok (.putfield 90, 3) := by decide +kernel
theorem d_M_origin_5 : decode b_M_origin 5 = .ok (.aload_n 0, 1) := by decide +kernel
theorem d_M_origin_6 : decode b_M_origin 6 = .ok (.iload_n 1, 1) := by decide +kernel
theorem d_M_origin_7 : decode b_M_origin 7 = .ok (.iload_n 2, 1) := by decide +kernel
theorem d_M_origin_8 : decode b_M_origin 8 = .ok (.iload_n 3, 1) := by decide +kernel
theorem d_M_origin_9 : decode b_M_origin 9 = .ok (.iload 4, 2) := by decide +kernel
theorem d_M_origin_11 : decode b_M_origin 11 = .ok (.invokevirtual 175, 3) := by decide +kernel
theorem d_M_origin_14 : decode b_M_origin 14 = .ok (.ifCond .ne 6, 3) := by decide +kernel
theorem d_M_origin_17 : decode b_M_origin 17 = .ok (.ldc 89, 2) := by decide +kernel
theorem d_M_origin_19 : decode b_M_origin 19 = .ok (.ireturn, 1) := by decide +kernel
theorem d_M_origin_20 : decode b_M_origin 20 = .ok (.aload_n 0, 1) := by decide +kernel
theorem d_M_origin_21 : decode b_M_origin 21 = .ok (.getfield 14, 3) := by decide +kernel
theorem d_M_origin_24 : decode b_M_origin 24 = .ok (.sipush 4096, 3) := by decide +kernel
theorem d_M_origin_27 : decode b_M_origin 27 = .ok (.iload_n 1, 1) := by decide +kernel
theorem d_M_origin_28 : decode b_M_origin 28 = .ok (.imul, 1) := by decide +kernel
theorem d_M_origin_29 : decode b_M_origin 29 = .ok (.iload_n 2, 1) := by decide +kernel
theorem d_M_origin_30 : decode b_M_origin 30 = .ok (.iload_n 3, 1) := by decide +kernel
theorem d_M_origin_31 : decode b_M_origin 31 = .ok (.iload 4, 2) := by decide +kernel
theorem d_M_origin_33 : decode b_M_origin 33 = .ok (.invokestatic 123, 3) := by decide +kernel
theorem d_M_origin_36 : decode b_M_origin 36 = .ok (.iadd, 1) := by decide +kernel
theorem d_M_origin_37 : decode b_M_origin 37 = .ok (.iaload, 1) := by decide +kernel
theorem d_M_origin_38 : decode b_M_origin 38 = .ok (.istore 6, 2) := by decide +kernel
theorem d_M_origin_40 : decode b_M_origin 40 = .ok (.iload 6, 2) := by decide +kernel
theorem d_M_origin_42 : decode b_M_origin 42 = .ok (.ifCond .ge 6, 3) := by decide +kernel
theorem d_M_origin_45 : decode b_M_origin 45 = .ok (.ldc 89, 2) := by decide +kernel
theorem d_M_origin_47 : decode b_M_origin 47 = .ok (.ireturn, 1) := by decide +kernel
theorem d_M_origin_48 : decode b_M_origin 48 = .ok (.iload 5, 2) := by decide +kernel
theorem d_M_origin_50 : decode b_M_origin 50 = .ok (.ifCond .ne 12, 3) := by decide +kernel
theorem d_M_origin_53 : decode b_M_origin 53 = .ok (.iload 6, 2) := by decide +kernel
theorem d_M_origin_55 : decode b_M_origin 55 = .ok (.sipush 4096, 3) := by decide +kernel
theorem d_M_origin_58 : decode b_M_origin 58 = .ok (.idiv, 1) := by decide +kernel
theorem d_M_origin_59 : decode b_M_origin 59 = .ok (.goto 55, 3) := by decide +kernel
theorem d_M_origin_62 : decode b_M_origin 62 = .ok (.iload 5, 2) := by decide +kernel
theorem d_M_origin_64 : decode b_M_origin 64 = .ok (.iconst 1, 1) := by decide +kernel
theorem d_M_origin_65 : decode b_M_origin 65 = .ok (.if_icmp .ne 16, 3) := by decide +kernel
theorem d_M_origin_68 : decode b_M_origin 68 = .ok (.iload 6, 2) := by decide +kernel
theorem d_M_origin_70 : decode b_M_origin 70 = .ok (.sipush 4096, 3) := by decide +kernel
theorem d_M_origin_73 : decode b_M_origin 73 = .ok (.irem, 1) := by decide +kernel
theorem d_M_origin_74 : decode b_M_origin 74 = .ok (.sipush 1024, 3) := by decide +kernel
theorem d_M_origin_77 : decode b_M_origin 77 = .ok (.idiv, 1) := by decide +kernel
theorem d_M_origin_78 : decode b_M_origin 78 = .ok (.goto 36, 3) := by decide +kernel
theorem d_M_origin_81 : decode b_M_origin 81 = .ok (.iload 5, 2) := by decide +kernel
theorem d_M_origin_83 : decode b_M_origin 83 = .ok (.iconst 2, 1) := by decide +kernel
theorem d_M_origin_84 : decode b_M_origin 84 = .ok (.if_icmp .ne 11, 3) := by decide +kernel
theorem d_M_origin_87 : decode b_M_origin 87 = .ok (.iload 6, 2) := by decide +kernel
theorem d_M_origin_89 : decode b_M_origin 89 = .ok (.bipush 32, 2) := by decide +kernel
theorem d_M_origin_91 : decode b_M_origin 91 = .ok (.irem, 1) := by decide +kernel
theorem d_M_origin_92 : decode b_M_origin 92 = .ok (.goto 22, 3) := by decide +kernel
theorem d_M_origin_95 : decode b_M_origin 95 = .ok (.iload 5, 2) := by decide +kernel
theorem d_M_origin_97 : decode b_M_origin 97 = .ok (.iconst 3, 1) := by decide +kernel
theorem d_M_origin_98 : decode b_M_origin 98 = .ok (.if_icmp .ne 14, 3) := by decide +kernel
theorem d_M_origin_101 : decode b_M_origin 101 = .ok (.iload 6, 2) := by decide +kernel
theorem d_M_origin_103 : decode b_M_origin 103 = .ok (.bipush 32, 2) := by decide +kernel
theorem d_M_origin_105 : decode b_M_origin 105 = .ok (.idiv, 1) := by decide +kernel
theorem d_M_origin_106 : decode b_M_origin 106 = .ok (.bipush 32, 2) := by decide +kernel
theorem d_M_origin_108 : decode b_M_origin 108 = .ok (.irem, 1) := by decide +kernel
theorem d_M_origin_109 : decode b_M_origin 109 = .ok (.goto 5, 3) := by decide +kernel
theorem d_M_origin_112 : decode b_M_origin 112 = .ok (.ldc 89, 2) := by decide +kernel
theorem d_M_origin_114 : decode b_M_origin 114 = .ok (.ireturn, 1) := by decide +kernel
theorem d_M_total_0 : decode b_M_total 0 = .ok (.aload_n 0, 1) := by decide +kernel
theorem d_M_total_1 : decode b_M_total 1 = .ok (.aload_n 0, 1) := by decide +kernel
theorem d_M_total_2 : decode b_M_total 2 = .ok (.iload_n 1, 1) := by decide +kernel
theorem d_M_total_3 : decode b_M_total 3 = .ok (.invokevirtual 172, 3) := by decide +kernel
theorem d_M_total_6 : decode b_M_total 6 = .ok (.ifCond .eq 19, 3) := by decide +kernel
theorem d_M_total_9 : decode b_M_total 9 = .ok (.iload_n 2, 1) := by decide +kernel
theorem d_M_total_10 : decode b_M_total 10 = .ok (.invokestatic 102, 3) := by decide +kernel
theorem d_M_total_13 : decode b_M_total 13 = .ok (.ifCond .eq 12, 3) := by decide +kernel
theorem d_M_total_16 : decode b_M_total 16 = .ok (.iload_n 3, 1) := by decide +kernel
theorem d_M_total_17 : decode b_M_total 17 = .ok (.ifCond .lt 8, 3) := by decide +kernel
theorem d_M_total_20 : decode b_M_total 20 = .ok (.iload_n 3, 1) := by decide +kernel
theorem d_M_total_21 : decode b_M_total 21 = .ok (.iconst 3, 1) := by decide +kernel
theorem d_M_total_22 : decode b_M_total 22 = .ok (.if_icmp .le 7, 3) := by decide +kernel
theorem d_M_total_25 : decode b_M_total 25 = .ok (.iconst 1, 1) := by decide +kernel
theorem d_M_total_26 : decode b_M_total 26 = .ok (.goto 4, 3) := by decide +kernel
theorem d_M_total_29 : decode b_M_total 29 = .ok (.iconst 0, 1) := by decide +kernel
theorem d_M_total_30 : decode b_M_total 30 = .ok (.invokevirtual 119, 3) := by decide +kernel
theorem d_M_total_33 : decode b_M_total 33 = .ok (.ifCond .eq 5, 3) := by decide +kernel
theorem d_M_total_36 : decode b_M_total 36 = .ok (.iconst 0, 1) := by decide +kernel
theorem d_M_total_37 : decode b_M_total 37 = .ok (.ireturn, 1) := by decide +kernel
theorem d_M_total_38 : decode b_M_total 38 = .ok (.iconst 0, 1) := by decide +kernel
theorem d_M_total_39 : decode b_M_total 39 = .ok (.istore 4, 2) := by decide +kernel
theorem d_M_total_41 : decode b_M_total 41 = .ok (.iconst 0, 1) := by decide +kernel
theorem d_M_total_42 : decode b_M_total 42 = .ok (.istore 5, 2) := by decide +kernel
theorem d_M_total_44 : decode b_M_total 44 = .ok (.ldc 89, 2) := by decide +kernel
theorem d_M_total_46 : decode b_M_total 46 = .ok (.istore 6, 2) := by decide +kernel
theorem d_M_total_48 : decode b_M_total 48 = .ok (.ldc 89, 2) := by decide +kernel
theorem d_M_total_50 : decode b_M_total 50 = .ok (.istore 7, 2) := by decide +kernel
theorem d_M_total_52 : decode b_M_total 52 = .ok (.aload_n 0, 1) := by decide +kernel
theorem d_M_total_53 : decode b_M_total 53 = .ok (.getfield 112, 3) := by decide +kernel
theorem d_M_total_56 : decode b_M_total 56 = .ok (.istore 8, 2) := by decide +kernel
theorem d_M_total_58 : decode b_M_total 58 = .ok (.iload 8, 2) := by decide +kernel
theorem d_M_total_60 : decode b_M_total 60 = .ok (.aload_n 0, 1) := by decide +kernel
theorem d_M_total_61 : decode b_M_total 61 = .ok (.getfield 112, 3) := by decide +kernel
theorem d_M_total_64 : decode b_M_total 64 = .ok (.aload_n 0, 1) := by decide +kernel
theorem d_M_total_65 : decode b_M_total 65 = .ok (.getfield 61, 3) := by decide +kernel
theorem d_M_total_68 : decode b_M_total 68 = .ok (.iadd, 1) := by decide +kernel
theorem d_M_total_69 : decode b_M_total 69 = .ok (.if_icmp .ge 113, 3) := by decide +kernel
theorem d_M_total_72 : decode b_M_total 72 = .ok (.aload_n 0, 1) := by decide +kernel
theorem d_M_total_73 : decode b_M_total 73 = .ok (.getfield 109, 3) := by decide +kernel
theorem d_M_total_76 : decode b_M_total 76 = .ok (.istore 9, 2) := by decide +kernel
theorem d_M_total_78 : decode b_M_total 78 = .ok (.iload 9, 2) := by decide +kernel
theorem d_M_total_80 : decode b_M_total 80 = .ok (.aload_n 0, 1) := by decide +kernel
theorem d_M_total_81 : decode b_M_total 81 = .ok (.getfield 109, 3) := by decide +kernel
theorem d_M_total_84 : decode b_M_total 84 = .ok (.aload_n 0, 1) := by decide +kernel
theorem d_M_total_85 : decode b_M_total 85 = .ok (.getfield 58, 3) := by decide +kernel
theorem d_M_total_88 : decode b_M_total 88 = .ok (.iadd, 1) := by decide +kernel
theorem d_M_total_89 : decode b_M_total 89 = .ok (.if_icmp .ge 87, 3) := by decide +kernel
theorem d_M_total_92 : decode b_M_total 92 = .ok (.aload_n 0, 1) := by decide +kernel
theorem d_M_total_93 : decode b_M_total 93 = .ok (.getfield 8, 3) := by decide +kernel
theorem d_M_total_96 : decode b_M_total 96 = .ok (.sipush 4096, 3) := by decide +kernel
theorem d_M_total_99 : decode b_M_total 99 = .ok (.iload_n 1, 1) := by decide +kernel
theorem d_M_total_100 : decode b_M_total 100 = .ok (.imul, 1) := by decide +kernel
theorem d_M_total_101 : decode b_M_total 101 = .ok (.iload_n 2, 1) := by decide +kernel
theorem d_M_total_102 : decode b_M_total 102 = .ok (.iload 9, 2) := by decide +kernel
theorem d_M_total_104 : decode b_M_total 104 = .ok (.iload 8, 2) := by decide +kernel
theorem d_M_total_106 : decode b_M_total 106 = .ok (.invokestatic 123, 3) := by decide +kernel
theorem d_M_total_109 : decode b_M_total 109 = .ok (.iadd, 1) := by decide +kernel
theorem d_M_total_110 : decode b_M_total 110 = .ok (.iaload, 1) := by decide +kernel
theorem d_M_total_111 : decode b_M_total 111 = .ok (.istore 10, 2) := by decide +kernel
theorem d_M_total_113 : decode b_M_total 113 = .ok (.iload 10, 2) := by decide +kernel
theorem d_M_total_115 : decode b_M_total 115 = .ok (.ldc 89, 2) := by decide +kernel
theorem d_M_total_117 : decode b_M_total 117 = .ok (.if_icmp .ne 6, 3) := by decide +kernel
theorem d_M_total_120 : decode b_M_total 120 = .ok (.goto 50, 3) := by decide +kernel
theorem d_M_total_123 : decode b_M_total 123 = .ok (.iload 4, 2) := by decide +kernel
theorem d_M_total_125 : decode b_M_total 125 = .ok (.iload 10, 2) := by decide +kernel
theorem d_M_total_127 : decode b_M_total 127 = .ok (.iadd, 1) := by decide +kernel
theorem d_M_total_128 : decode b_M_total 128 = .ok (.istore 4, 2) := by decide +kernel
theorem d_M_total_130 : decode b_M_total 130 = .ok (.iload 5, 2) := by decide +kernel
theorem d_M_total_132 : decode b_M_total 132 = .ok (.ifCond .eq 10, 3) := by decide +kernel
theorem d_M_total_135 : decode b_M_total 135 = .ok (.iload 10, 2) := by decide +kernel
theorem d_M_total_137 : decode b_M_total 137 = .ok (.iload 6, 2) := by decide +kernel
theorem d_M_total_139 : decode b_M_total 139 = .ok (.if_icmp .ge 8, 3) := by decide +kernel
theorem d_M_total_142 : decode b_M_total 142 = .ok (.iload 10, 2) := by decide +kernel
theorem d_M_total_144 : decode b_M_total 144 = .ok (.goto 5, 3) := by decide +kernel
theorem d_M_total_147 : decode b_M_total 147 = .ok (.iload 6, 2) := by decide +kernel
theorem d_M_total_149 : decode b_M_total 149 = .ok (.istore 6, 2) := by decide +kernel
theorem d_M_total_151 : decode b_M_total 151 = .ok (.iload 10, 2) := by decide +kernel
theorem d_M_total_153 : decode b_M_total 153 = .ok (.iload 7, 2) := by decide +kernel
theorem d_M_total_155 : decode b_M_total 155 = .ok (.if_icmp .le 8, 3) := by decide +kernel
theorem d_M_total_158 : decode b_M_total 158 = .ok (.iload 10, 2) := by decide +kernel
theorem d_M_total_160 : decode b_M_total 160 = .ok (.goto 5, 3) := by decide +kernel
theorem d_M_total_163 : decode b_M_total 163 = .ok (.iload 7, 2) := by decide +kernel
theorem d_M_total_165 : decode b_M_total 165 = .ok (.istore 7, 2) := by decide +kernel
theorem d_M_total_167 : decode b_M_total 167 = .ok (.iinc 5 1, 3) := by decide +kernel
theorem d_M_total_170 : decode b_M_total 170 = .ok (.iinc 9 1, 3) := by decide +kernel
theorem d_M_total_173 : decode b_M_total 173 = .ok (.goto (-95), 3) := by decide +kernel
theorem d_M_total_176 : decode b_M_total 176 = .ok (.iinc 8 1, 3) := by decide +kernel
theorem d_M_total_179 : decode b_M_total 179 = .ok (.goto (-121), 3) := by decide +kernel
theorem d_M_total_182 : decode b_M_total 182 = .ok (.iload_n 3, 1) := by decide +kernel
theorem d_M_total_183 : decode b_M_total 183 = .ok (.ifCond .ne 8, 3) := by decide +kernel
theorem d_M_total_186 : decode b_M_total 186 = .ok (.iload 4, 2) := by decide +kernel
theorem d_M_total_188 : decode b_M_total 188 = .ok (.goto 25, 3) := by decide +kernel
theorem d_M_total_191 : decode b_M_total 191 = .ok (.iload_n 3, 1) := by decide +kernel
theorem d_M_total_192 : decode b_M_total 192 = .ok (.iconst 1, 1) := by decide +kernel
theorem d_M_total_193 : decode b_M_total 193 = .ok (.if_icmp .ne 8, 3) := by decide +kernel
theorem d_M_total_196 : decode b_M_total 196 = .ok (.iload 5, 2) := by decide +kernel
theorem d_M_total_198 : decode b_M_total 198 = .ok (.goto 15, 3) := by decide +kernel
theorem d_M_total_201 : decode b_M_total 201 = .ok (.iload_n 3, 1) := by decide +kernel
theorem d_M_total_202 : decode b_M_total 202 = .ok (.iconst 2, 1) := by decide +kernel
theorem d_M_total_203 : decode b_M_total 203 = .ok (.if_icmp .ne 8, 3) := by decide +kernel
theorem d_M_total_206 : decode b_M_total 206 = .ok (.iload 6, 2) := by decide +kernel
theorem d_M_total_208 : decode b_M_total 208 = .ok (.goto 5, 3) := by decide +kernel
theorem d_M_total_211 : decode b_M_total 211 = .ok (.iload 7, 2) := by decide +kernel
theorem d_M_total_213 : decode b_M_total 213 = .ok (.ireturn, 1) := by decide +kernel
theorem d_M_differing_0 : decode b_M_differing 0 = .ok (.aload_n 0, 1) := by decide +kernel
theorem d_M_differing_1 : decode b_M_differing 1 = .ok (.iconst 0, 1) := by decide +kernel
theorem d_M_differing_2 : decode b_M_differing 2 = .ok (.putfield 90, 3) := by decide +kernel
theorem d_M_differing_5 : decode b_M_differing 5 = .ok (.aload_n 0, 1) := by decide +kernel
theorem d_M_differing_6 : decode b_M_differing 6 = .ok (.iload_n 1, 1) := by decide +kernel
theorem d_M_differing_7 : decode b_M_differing 7 = .ok (.invokevirtual 172, 3) := by decide +kernel
theorem d_M_differing_10 : decode b_M_differing 10 = .ok (.ifCond .eq 18, 3) := by decide +kernel
theorem d_M_differing_13 : decode b_M_differing 13 = .ok (.aload_n 0, 1) := by decide +kernel
theorem d_M_differing_14 : decode b_M_differing 14 = .ok (.iload_n 2, 1) := by decide +kernel
theorem d_M_differing_15 : decode b_M_differing 15 = .ok (.invokevirtual 172, 3) := by decide +kernel
theorem d_M_differing_18 : decode b_M_differing 18 = .ok (.ifCond .eq 10, 3) := by decide +kernel
theorem d_M_differing_21 : decode b_M_differing 21 = .ok (.iload_n 3, 1) := by decide +kernel
theorem d_M_differing_22 : decode b_M_differing 22 = .ok (.invokestatic 102, 3) := by decide +kernel
theorem d_M_differing_25 : decode b_M_differing 25 = .ok (.ifCond .ne 5, 3) := by decide +kernel
theorem d_M_differing_28 : decode b_M_differing 28 = .ok (.iconst (-1), 1) := by decide +kernel
theorem d_M_differing_29 : decode b_M_differing 29 = .ok (.ireturn, 1) := by decide +kernel
theorem d_M_differing_30 : decode b_M_differing 30 = .ok (.iconst 0, 1) := by decide +kernel
theorem d_M_differing_31 : decode b_M_differing 31 = .ok (.istore 4, 2) := by decide +kernel
theorem d_M_differing_33 : decode b_M_differing 33 = .ok (.sipush 1024, 3) := by decide +kernel
theorem d_M_differing_36 : decode b_M_differing 36 = .ok (.iload_n 3, 1) := by decide +kernel
theorem d_M_differing_37 : decode b_M_differing 37 = .ok (.imul, 1) := by decide +kernel
theorem d_M_differing_38 : decode b_M_differing 38 = .ok (.istore 5, 2) := by decide +kernel
theorem d_M_differing_40 : decode b_M_differing 40 = .ok (.iload 5, 2) := by decide +kernel
theorem d_M_differing_42 : decode b_M_differing 42 = .ok (.sipush 1024, 3) := by decide +kernel
theorem d_M_differing_45 : decode b_M_differing 45 = .ok (.iload_n 3, 1) := by decide +kernel
theorem d_M_differing_46 : decode b_M_differing 46 = .ok (.imul, 1) := by decide +kernel
theorem d_M_differing_47 : decode b_M_differing 47 = .ok (.sipush 1024, 3) := by decide +kernel
theorem d_M_differing_50 : decode b_M_differing 50 = .ok (.iadd, 1) := by decide +kernel
theorem d_M_differing_51 : decode b_M_differing 51 = .ok (.if_icmp .ge 48, 3) := by decide +kernel
theorem d_M_differing_54 : decode b_M_differing 54 = .ok (.iload 4, 2) := by decide +kernel
theorem d_M_differing_56 : decode b_M_differing 56 = .ok (.aload_n 0, 1) := by decide +kernel
theorem d_M_differing_57 : decode b_M_differing 57 = .ok (.getfield 8, 3) := by decide +kernel
theorem d_M_differing_60 : decode b_M_differing 60 = .ok (.sipush 4096, 3) := by decide +kernel
theorem d_M_differing_63 : decode b_M_differing 63 = .ok (.iload_n 1, 1) := by decide +kernel
theorem d_M_differing_64 : decode b_M_differing 64 = .ok (.imul, 1) := by decide +kernel
theorem d_M_differing_65 : decode b_M_differing 65 = .ok (.iload 5, 2) := by decide +kernel
theorem d_M_differing_67 : decode b_M_differing 67 = .ok (.iadd, 1) := by decide +kernel
theorem d_M_differing_68 : decode b_M_differing 68 = .ok (.iaload, 1) := by decide +kernel
theorem d_M_differing_69 : decode b_M_differing 69 = .ok (.aload_n 0, 1) := by decide +kernel
theorem d_M_differing_70 : decode b_M_differing 70 = .ok (.getfield 8, 3) := by decide +kernel
theorem d_M_differing_73 : decode b_M_differing 73 = .ok (.sipush 4096, 3) := by decide +kernel
theorem d_M_differing_76 : decode b_M_differing 76 = .ok (.iload_n 2, 1) := by decide +kernel
theorem d_M_differing_77 : decode b_M_differing 77 = .ok (.imul, 1) := by decide +kernel
theorem d_M_differing_78 : decode b_M_differing 78 = .ok (.iload 5, 2) := by decide +kernel
theorem d_M_differing_80 : decode b_M_differing 80 = .ok (.iadd, 1) := by decide +kernel
theorem d_M_differing_81 : decode b_M_differing 81 = .ok (.iaload, 1) := by decide +kernel
theorem d_M_differing_82 : decode b_M_differing 82 = .ok (.if_icmp .eq 7, 3) := by decide +kernel
theorem d_M_differing_85 : decode b_M_differing 85 = .ok (.iconst 1, 1) := by decide +kernel
theorem d_M_differing_86 : decode b_M_differing 86 = .ok (.goto 4, 3) := by decide +kernel
theorem d_M_differing_89 : decode b_M_differing 89 = .ok (.iconst 0, 1) := by decide +kernel
theorem d_M_differing_90 : decode b_M_differing 90 = .ok (.iadd, 1) := by decide +kernel
theorem d_M_differing_91 : decode b_M_differing 91 = .ok (.istore 4, 2) := by decide +kernel
theorem d_M_differing_93 : decode b_M_differing 93 = .ok (.iinc 5 1, 3) := by decide +kernel
theorem d_M_differing_96 : decode b_M_differing 96 = .ok (.goto (-56), 3) := by decide +kernel
theorem d_M_differing_99 : decode b_M_differing 99 = .ok (.iload 4, 2) := by decide +kernel
theorem d_M_differing_101 : decode b_M_differing 101 = .ok (.ireturn, 1) := by decide +kernel
theorem d_M_differs_0 : decode b_M_differs 0 = .ok (.aload_n 0, 1) := by decide +kernel
theorem d_M_differs_1 : decode b_M_differs 1 = .ok (.iconst 0, 1) := by decide +kernel
theorem d_M_differs_2 : decode b_M_differs 2 = .ok (.putfield 90, 3) := by decide +kernel
theorem d_M_differs_5 : decode b_M_differs 5 = .ok (.aload_n 0, 1) := by decide +kernel
theorem d_M_differs_6 : decode b_M_differs 6 = .ok (.iload_n 1, 1) := by decide +kernel
theorem d_M_differs_7 : decode b_M_differs 7 = .ok (.invokevirtual 172, 3) := by decide +kernel
theorem d_M_differs_10 : decode b_M_differs 10 = .ok (.ifCond .eq 23, 3) := by decide +kernel
theorem d_M_differs_13 : decode b_M_differs 13 = .ok (.aload_n 0, 1) := by decide +kernel
theorem d_M_differs_14 : decode b_M_differs 14 = .ok (.iload_n 2, 1) := by decide +kernel
theorem d_M_differs_15 : decode b_M_differs 15 = .ok (.invokevirtual 172, 3) := by decide +kernel
theorem d_M_differs_18 : decode b_M_differs 18 = .ok (.ifCond .eq 15, 3) := by decide +kernel
theorem d_M_differs_21 : decode b_M_differs 21 = .ok (.iload_n 3, 1) := by decide +kernel
theorem d_M_differs_22 : decode b_M_differs 22 = .ok (.invokestatic 102, 3) := by decide +kernel
theorem d_M_differs_25 : decode b_M_differs 25 = .ok (.ifCond .eq 8, 3) := by decide +kernel
theorem d_M_differs_28 : decode b_M_differs 28 = .ok (.iload 4, 2) := by decide +kernel
theorem d_M_differs_30 : decode b_M_differs 30 = .ok (.ifCond .ge 5, 3) := by decide +kernel
theorem d_M_differs_33 : decode b_M_differs 33 = .ok (.iconst (-1), 1) := by decide +kernel
theorem d_M_differs_34 : decode b_M_differs 34 = .ok (.ireturn, 1) := by decide +kernel
theorem d_M_differs_35 : decode b_M_differs 35 = .ok (.iconst (-1), 1) := by decide +kernel
theorem d_M_differs_36 : decode b_M_differs 36 = .ok (.istore 5, 2) := by decide +kernel
theorem d_M_differs_38 : decode b_M_differs 38 = .ok (.iconst 0, 1) := by decide +kernel
theorem d_M_differs_39 : decode b_M_differs 39 = .ok (.istore 6, 2) := by decide +kernel
theorem d_M_differs_41 : decode b_M_differs 41 = .ok (.iload 6, 2) := by decide +kernel
theorem d_M_differs_43 : decode b_M_differs 43 = .ok (.sipush 1024, 3) := by decide +kernel
theorem d_M_differs_46 : decode b_M_differs 46 = .ok (.if_icmp .ge 63, 3) := by decide +kernel
theorem d_M_differs_49 : decode b_M_differs 49 = .ok (.aload_n 0, 1) := by decide +kernel
theorem d_M_differs_50 : decode b_M_differs 50 = .ok (.getfield 8, 3) := by decide +kernel
theorem d_M_differs_53 : decode b_M_differs 53 = .ok (.sipush 4096, 3) := by decide +kernel
theorem d_M_differs_56 : decode b_M_differs 56 = .ok (.iload_n 1, 1) := by decide +kernel
theorem d_M_differs_57 : decode b_M_differs 57 = .ok (.imul, 1) := by decide +kernel
theorem d_M_differs_58 : decode b_M_differs 58 = .ok (.sipush 1024, 3) := by decide +kernel
theorem d_M_differs_61 : decode b_M_differs 61 = .ok (.iload_n 3, 1) := by decide +kernel
theorem d_M_differs_62 : decode b_M_differs 62 = .ok (.imul, 1) := by decide +kernel
theorem d_M_differs_63 : decode b_M_differs 63 = .ok (.iadd, 1) := by decide +kernel
theorem d_M_differs_64 : decode b_M_differs 64 = .ok (.iload 6, 2) := by decide +kernel
theorem d_M_differs_66 : decode b_M_differs 66 = .ok (.iadd, 1) := by decide +kernel
theorem d_M_differs_67 : decode b_M_differs 67 = .ok (.iaload, 1) := by decide +kernel
theorem d_M_differs_68 : decode b_M_differs 68 = .ok (.aload_n 0, 1) := by decide +kernel
theorem d_M_differs_69 : decode b_M_differs 69 = .ok (.getfield 8, 3) := by decide +kernel
theorem d_M_differs_72 : decode b_M_differs 72 = .ok (.sipush 4096, 3) := by decide +kernel
theorem d_M_differs_75 : decode b_M_differs 75 = .ok (.iload_n 2, 1) := by decide +kernel
theorem d_M_differs_76 : decode b_M_differs 76 = .ok (.imul, 1) := by decide +kernel
theorem d_M_differs_77 : decode b_M_differs 77 = .ok (.sipush 1024, 3) := by decide +kernel
theorem d_M_differs_80 : decode b_M_differs 80 = .ok (.iload_n 3, 1) := by decide +kernel
theorem d_M_differs_81 : decode b_M_differs 81 = .ok (.imul, 1) := by decide +kernel
theorem d_M_differs_82 : decode b_M_differs 82 = .ok (.iadd, 1) := by decide +kernel
theorem d_M_differs_83 : decode b_M_differs 83 = .ok (.iload 6, 2) := by decide +kernel
theorem d_M_differs_85 : decode b_M_differs 85 = .ok (.iadd, 1) := by decide +kernel
theorem d_M_differs_86 : decode b_M_differs 86 = .ok (.iaload, 1) := by decide +kernel
theorem d_M_differs_87 : decode b_M_differs 87 = .ok (.if_icmp .eq 6, 3) := by decide +kernel
theorem d_M_differs_90 : decode b_M_differs 90 = .ok (.iinc 5 1, 3) := by decide +kernel
theorem d_M_differs_93 : decode b_M_differs 93 = .ok (.iload 5, 2) := by decide +kernel
theorem d_M_differs_95 : decode b_M_differs 95 = .ok (.iload 4, 2) := by decide +kernel
theorem d_M_differs_97 : decode b_M_differs 97 = .ok (.if_icmp .ne 6, 3) := by decide +kernel
theorem d_M_differs_100 : decode b_M_differs 100 = .ok (.iload 6, 2) := by decide +kernel
theorem d_M_differs_102 : decode b_M_differs 102 = .ok (.ireturn, 1) := by decide +kernel
theorem d_M_differs_103 : decode b_M_differs 103 = .ok (.iinc 6 1, 3) := by decide +kernel
theorem d_M_differs_106 : decode b_M_differs 106 = .ok (.goto (-65), 3) := by decide +kernel
theorem d_M_differs_109 : decode b_M_differs 109 = .ok (.iconst (-1), 1) := by decide +kernel
theorem d_M_differs_110 : decode b_M_differs 110 = .ok (.ireturn, 1) := by decide +kernel
theorem d_M_nearest_0 : decode b_M_nearest 0 = .ok (.aload_n 0, 1) := by decide +kernel
theorem d_M_nearest_1 : decode b_M_nearest 1 = .ok (.iconst 0, 1) := by decide +kernel
theorem d_M_nearest_2 : decode b_M_nearest 2 = .ok (.putfield 90, 3) := by decide +kernel
theorem d_M_nearest_5 : decode b_M_nearest 5 = .ok (.aload_n 0, 1) := by decide +kernel
theorem d_M_nearest_6 : decode b_M_nearest 6 = .ok (.iload_n 1, 1) := by decide +kernel
theorem d_M_nearest_7 : decode b_M_nearest 7 = .ok (.invokevirtual 93, 3) := by decide +kernel
theorem d_M_nearest_10 : decode b_M_nearest 10 = .ok (.ifCond .eq 15, 3) := by decide +kernel
theorem d_M_nearest_13 : decode b_M_nearest 13 = .ok (.aload_n 0, 1) := by decide +kernel
theorem d_M_nearest_14 : decode b_M_nearest 14 = .ok (.iload_n 2, 1) := by decide +kernel
theorem d_M_nearest_15 : decode b_M_nearest 15 = .ok (.invokevirtual 93, 3) := by decide +kernel
theorem d_M_nearest_18 : decode b_M_nearest 18 = .ok (.ifCond .eq 7, 3) := by decide +kernel
theorem d_M_nearest_21 : decode b_M_nearest 21 = .ok (.iload_n 3, 1) := by decide +kernel
theorem d_M_nearest_22 : decode b_M_nearest 22 = .ok (.ifCond .ge 5, 3) := by decide +kernel
theorem d_M_nearest_25 : decode b_M_nearest 25 = .ok (.iconst (-1), 1) := by decide +kernel
theorem d_M_nearest_26 : decode b_M_nearest 26 = .ok (.ireturn, 1) := by decide +kernel
theorem d_M_nearest_27 : decode b_M_nearest 27 = .ok (.aload_n 0, 1) := by decide +kernel
theorem d_M_nearest_28 : decode b_M_nearest 28 = .ok (.iconst 1, 1) := by decide +kernel
theorem d_M_nearest_29 : decode b_M_nearest 29 = .ok (.iload_n 1, 1) := by decide +kernel
theorem d_M_nearest_30 : decode b_M_nearest 30 = .ok (.ishl, 1) := by decide +kernel
theorem d_M_nearest_31 : decode b_M_nearest 31 = .ok (.iload_n 2, 1) := by decide +kernel
theorem d_M_nearest_32 : decode b_M_nearest 32 = .ok (.invokevirtual 145, 3) := by decide +kernel
theorem d_M_nearest_35 : decode b_M_nearest 35 = .ok (.istore 4, 2) := by decide +kernel
theorem d_M_nearest_37 : decode b_M_nearest 37 = .ok (.iconst (-1), 1) := by decide +kernel
theorem d_M_nearest_38 : decode b_M_nearest 38 = .ok (.istore 5, 2) := by decide +kernel
theorem d_M_nearest_40 : decode b_M_nearest 40 = .ok (.iconst 0, 1) := by decide +kernel
theorem d_M_nearest_41 : decode b_M_nearest 41 = .ok (.istore 6, 2) := by decide +kernel
theorem d_M_nearest_43 : decode b_M_nearest 43 = .ok (.iload 6, 2) := by decide +kernel
theorem d_M_nearest_45 : decode b_M_nearest 45 = .ok (.aload_n 0, 1) := by decide +kernel
theorem d_M_nearest_46 : decode b_M_nearest 46 = .ok (.getfield 26, 3) := by decide +kernel
theorem d_M_nearest_49 : decode b_M_nearest 49 = .ok (.if_icmp .ge 30, 3) := by decide +kernel
theorem d_M_nearest_52 : decode b_M_nearest 52 = .ok (.iload 5, 2) := by decide +kernel
theorem d_M_nearest_54 : decode b_M_nearest 54 = .ok (.iload 4, 2) := by decide +kernel
theorem d_M_nearest_56 : decode b_M_nearest 56 = .ok (.iload 6, 2) := by decide +kernel
theorem d_M_nearest_58 : decode b_M_nearest 58 = .ok (.ishr, 1) := by decide +kernel
theorem d_M_nearest_59 : decode b_M_nearest 59 = .ok (.iconst 1, 1) := by decide +kernel
theorem d_M_nearest_60 : decode b_M_nearest 60 = .ok (.iand, 1) := by decide +kernel
theorem d_M_nearest_61 : decode b_M_nearest 61 = .ok (.iadd, 1) := by decide +kernel
theorem d_M_nearest_62 : decode b_M_nearest 62 = .ok (.istore 5, 2) := by decide +kernel
theorem d_M_nearest_64 : decode b_M_nearest 64 = .ok (.iload 5, 2) := by decide +kernel
theorem d_M_nearest_66 : decode b_M_nearest 66 = .ok (.iload_n 3, 1) := by decide +kernel
theorem d_M_nearest_67 : decode b_M_nearest 67 = .ok (.if_icmp .ne 6, 3) := by decide +kernel
theorem d_M_nearest_70 : decode b_M_nearest 70 = .ok (.iload 6, 2) := by decide +kernel
theorem d_M_nearest_72 : decode b_M_nearest 72 = .ok (.ireturn, 1) := by decide +kernel
theorem d_M_nearest_73 : decode b_M_nearest 73 = .ok (.iinc 6 1, 3) := by decide +kernel
theorem d_M_nearest_76 : decode b_M_nearest 76 = .ok (.goto (-33), 3) := by decide +kernel
theorem d_M_nearest_79 : decode b_M_nearest 79 = .ok (.iconst (-1), 1) := by decide +kernel
theorem d_M_nearest_80 : decode b_M_nearest 80 = .ok (.ireturn, 1) := by decide +kernel
theorem d_M_about_0 : decode b_M_about 0 = .ok (.aload_n 0, 1) := by decide +kernel
theorem d_M_about_1 : decode b_M_about 1 = .ok (.iconst 0, 1) := by decide +kernel
theorem d_M_about_2 : decode b_M_about 2 = .ok (.putfield 90, 3) := by decide +kernel
theorem d_M_about_5 : decode b_M_about 5 = .ok (.aload_n 0, 1) := by decide +kernel
theorem d_M_about_6 : decode b_M_about 6 = .ok (.iload_n 1, 1) := by decide +kernel
theorem d_M_about_7 : decode b_M_about 7 = .ok (.invokevirtual 172, 3) := by decide +kernel
theorem d_M_about_10 : decode b_M_about 10 = .ok (.ifCond .eq 12, 3) := by decide +kernel
theorem d_M_about_13 : decode b_M_about 13 = .ok (.iload_n 2, 1) := by decide +kernel
theorem d_M_about_14 : decode b_M_about 14 = .ok (.ifCond .lt 8, 3) := by decide +kernel
theorem d_M_about_17 : decode b_M_about 17 = .ok (.iload_n 2, 1) := by decide +kernel
theorem d_M_about_18 : decode b_M_about 18 = .ok (.iconst 2, 1) := by decide +kernel
theorem d_M_about_19 : decode b_M_about 19 = .ok (.if_icmp .le 5, 3) := by decide +kernel
theorem d_M_about_22 : decode b_M_about 22 = .ok (.iconst (-1), 1) := by decide +kernel
theorem d_M_about_23 : decode b_M_about 23 = .ok (.ireturn, 1) := by decide +kernel
theorem d_M_about_24 : decode b_M_about 24 = .ok (.iload_n 1, 1) := by decide +kernel
theorem d_M_about_25 : decode b_M_about 25 = .ok (.bipush 24, 2) := by decide +kernel
theorem d_M_about_27 : decode b_M_about 27 = .ok (.if_icmp .lt 53, 3) := by decide +kernel
theorem d_M_about_30 : decode b_M_about 30 = .ok (.iload_n 2, 1) := by decide +kernel
theorem d_M_about_31 : decode b_M_about 31 = .ok (.ifCond .ne 15, 3) := by decide +kernel
theorem d_M_about_34 : decode b_M_about 34 = .ok (.aload_n 0, 1) := by decide +kernel
theorem d_M_about_35 : decode b_M_about 35 = .ok (.getfield 34, 3) := by decide +kernel
theorem d_M_about_38 : decode b_M_about 38 = .ok (.iload_n 1, 1) := by decide +kernel
theorem d_M_about_39 : decode b_M_about 39 = .ok (.bipush 24, 2) := by decide +kernel
theorem d_M_about_41 : decode b_M_about 41 = .ok (.isub, 1) := by decide +kernel
theorem d_M_about_42 : decode b_M_about 42 = .ok (.iaload, 1) := by decide +kernel
theorem d_M_about_43 : decode b_M_about 43 = .ok (.goto 36, 3) := by decide +kernel
theorem d_M_about_46 : decode b_M_about 46 = .ok (.iload_n 2, 1) := by decide +kernel
theorem d_M_about_47 : decode b_M_about 47 = .ok (.iconst 1, 1) := by decide +kernel
theorem d_M_about_48 : decode b_M_about 48 = .ok (.if_icmp .ne 15, 3) := by decide +kernel
theorem d_M_about_51 : decode b_M_about 51 = .ok (.aload_n 0, 1) := by decide +kernel
theorem d_M_about_52 : decode b_M_about 52 = .ok (.getfield 37, 3) := by decide +kernel
theorem d_M_about_55 : decode b_M_about 55 = .ok (.iload_n 1, 1) := by decide +kernel
theorem d_M_about_56 : decode b_M_about 56 = .ok (.bipush 24, 2) := by decide +kernel
theorem d_M_about_58 : decode b_M_about 58 = .ok (.isub, 1) := by decide +kernel
theorem d_M_about_59 : decode b_M_about 59 = .ok (.iaload, 1) := by decide +kernel
theorem d_M_about_60 : decode b_M_about 60 = .ok (.goto 19, 3) := by decide +kernel
theorem d_M_about_63 : decode b_M_about 63 = .ok (.aload_n 0, 1) := by decide +kernel
theorem d_M_about_64 : decode b_M_about 64 = .ok (.iload_n 1, 1) := by decide +kernel
theorem d_M_about_65 : decode b_M_about 65 = .ok (.bipush 24, 2) := by decide +kernel
theorem d_M_about_67 : decode b_M_about 67 = .ok (.isub, 1) := by decide +kernel
theorem d_M_about_68 : decode b_M_about 68 = .ok (.invokevirtual 135, 3) := by decide +kernel
theorem d_M_about_71 : decode b_M_about 71 = .ok (.ifCond .eq 7, 3) := by decide +kernel
theorem d_M_about_74 : decode b_M_about 74 = .ok (.iconst 1, 1) := by decide +kernel
theorem d_M_about_75 : decode b_M_about 75 = .ok (.goto 4, 3) := by decide +kernel
theorem d_M_about_78 : decode b_M_about 78 = .ok (.iconst 0, 1) := by decide +kernel
theorem d_M_about_79 : decode b_M_about 79 = .ok (.ireturn, 1) := by decide +kernel
theorem d_M_about_80 : decode b_M_about 80 = .ok (.iconst 0, 1) := by decide +kernel
theorem d_M_about_81 : decode b_M_about 81 = .ok (.istore_n 3, 1) := by decide +kernel
theorem d_M_about_82 : decode b_M_about 82 = .ok (.iconst 1, 1) := by decide +kernel
theorem d_M_about_83 : decode b_M_about 83 = .ok (.istore 4, 2) := by decide +kernel
theorem d_M_about_85 : decode b_M_about 85 = .ok (.iload 4, 2) := by decide +kernel
theorem d_M_about_87 : decode b_M_about 87 = .ok (.aload_n 0, 1) := by decide +kernel
theorem d_M_about_88 : decode b_M_about 88 = .ok (.getfield 26, 3) := by decide +kernel
theorem d_M_about_91 : decode b_M_about 91 = .ok (.if_icmp .ge 45, 3) := by decide +kernel
theorem d_M_about_94 : decode b_M_about 94 = .ok (.iload_n 3, 1) := by decide +kernel
theorem d_M_about_95 : decode b_M_about 95 = .ok (.aload_n 0, 1) := by decide +kernel
theorem d_M_about_96 : decode b_M_about 96 = .ok (.getfield 20, 3) := by decide +kernel
theorem d_M_about_99 : decode b_M_about 99 = .ok (.iload 4, 2) := by decide +kernel
theorem d_M_about_101 : decode b_M_about 101 = .ok (.iaload, 1) := by decide +kernel
theorem d_M_about_102 : decode b_M_about 102 = .ok (.iload_n 1, 1) := by decide +kernel
theorem d_M_about_103 : decode b_M_about 103 = .ok (.if_icmp .ne 7, 3) := by decide +kernel
theorem d_M_about_106 : decode b_M_about 106 = .ok (.iconst 1, 1) := by decide +kernel
theorem d_M_about_107 : decode b_M_about 107 = .ok (.goto 4, 3) := by decide +kernel
theorem d_M_about_110 : decode b_M_about 110 = .ok (.iconst 0, 1) := by decide +kernel
theorem d_M_about_111 : decode b_M_about 111 = .ok (.aload_n 0, 1) := by decide +kernel
theorem d_M_about_112 : decode b_M_about 112 = .ok (.getfield 23, 3) := by decide +kernel
theorem d_M_about_115 : decode b_M_about 115 = .ok (.iload 4, 2) := by decide +kernel
theorem d_M_about_117 : decode b_M_about 117 = .ok (.iaload, 1) := by decide +kernel
theorem d_M_about_118 : decode b_M_about 118 = .ok (.iload_n 1, 1) := by decide +kernel
theorem d_M_about_119 : decode b_M_about 119 = .ok (.if_icmp .ne 7, 3) := by decide +kernel
theorem d_M_about_122 : decode b_M_about 122 = .ok (.iconst 1, 1) := by decide +kernel
theorem d_M_about_123 : decode b_M_about 123 = .ok (.goto 4, 3) := by decide +kernel
theorem d_M_about_126 : decode b_M_about 126 = .ok (.iconst 0, 1) := by decide +kernel
theorem d_M_about_127 : decode b_M_about 127 = .ok (.iadd, 1) := by decide +kernel
theorem d_M_about_128 : decode b_M_about 128 = .ok (.iadd, 1) := by decide +kernel
theorem d_M_about_129 : decode b_M_about 129 = .ok (.istore_n 3, 1) := by decide +kernel
theorem d_M_about_130 : decode b_M_about 130 = .ok (.iinc 4 1, 3) := by decide +kernel
theorem d_M_about_133 : decode b_M_about 133 = .ok (.goto (-48), 3) := by decide +kernel
theorem d_M_about_136 : decode b_M_about 136 = .ok (.iload_n 2, 1) := by decide +kernel
theorem d_M_about_137 : decode b_M_about 137 = .ok (.ifCond .ne 12, 3) := by decide +kernel
theorem d_M_about_140 : decode b_M_about 140 = .ok (.aload_n 0, 1) := by decide +kernel
theorem d_M_about_141 : decode b_M_about 141 = .ok (.getfield 20, 3) := by decide +kernel
theorem d_M_about_144 : decode b_M_about 144 = .ok (.iload_n 1, 1) := by decide +kernel
theorem d_M_about_145 : decode b_M_about 145 = .ok (.iaload, 1) := by decide +kernel
theorem d_M_about_146 : decode b_M_about 146 = .ok (.goto 18, 3) := by decide +kernel
theorem d_M_about_149 : decode b_M_about 149 = .ok (.iload_n 2, 1) := by decide +kernel
theorem d_M_about_150 : decode b_M_about 150 = .ok (.iconst 1, 1) := by decide +kernel
theorem d_M_about_151 : decode b_M_about 151 = .ok (.if_icmp .ne 12, 3) := by decide +kernel
theorem d_M_about_154 : decode b_M_about 154 = .ok (.aload_n 0, 1) := by decide +kernel
theorem d_M_about_155 : decode b_M_about 155 = .ok (.getfield 23, 3) := by decide +kernel
theorem d_M_about_158 : decode b_M_about 158 = .ok (.iload_n 1, 1) := by decide +kernel
theorem d_M_about_159 : decode b_M_about 159 = .ok (.iaload, 1) := by decide +kernel
theorem d_M_about_160 : decode b_M_about 160 = .ok (.goto 4, 3) := by decide +kernel
theorem d_M_about_163 : decode b_M_about 163 = .ok (.iload_n 3, 1) := by decide +kernel
theorem d_M_about_164 : decode b_M_about 164 = .ok (.ireturn, 1) := by decide +kernel
theorem d_M_blocks_0 : decode b_M_blocks 0 = .ok (.aload_n 0, 1) := by decide +kernel
theorem d_M_blocks_1 : decode b_M_blocks 1 = .ok (.iconst 0, 1) := by decide +kernel
theorem d_M_blocks_2 : decode b_M_blocks 2 = .ok (.putfield 90, 3) := by decide +kernel
theorem d_M_blocks_5 : decode b_M_blocks 5 = .ok (.iload_n 1, 1) := by decide +kernel
theorem d_M_blocks_6 : decode b_M_blocks 6 = .ok (.invokestatic 102, 3) := by decide +kernel
theorem d_M_blocks_9 : decode b_M_blocks 9 = .ok (.ifCond .ne 5, 3) := by decide +kernel
theorem d_M_blocks_12 : decode b_M_blocks 12 = .ok (.iconst (-1), 1) := by decide +kernel
theorem d_M_blocks_13 : decode b_M_blocks 13 = .ok (.ireturn, 1) := by decide +kernel
theorem d_M_blocks_14 : decode b_M_blocks 14 = .ok (.iconst 0, 1) := by decide +kernel
theorem d_M_blocks_15 : decode b_M_blocks 15 = .ok (.istore_n 2, 1) := by decide +kernel
theorem d_M_blocks_16 : decode b_M_blocks 16 = .ok (.iload_n 2, 1) := by decide +kernel
theorem d_M_blocks_17 : decode b_M_blocks 17 = .ok (.sipush 4096, 3) := by decide +kernel
theorem d_M_blocks_20 : decode b_M_blocks 20 = .ok (.if_icmp .ge 16, 3) := by decide +kernel
theorem d_M_blocks_23 : decode b_M_blocks 23 = .ok (.aload_n 0, 1) := by decide +kernel
theorem d_M_blocks_24 : decode b_M_blocks 24 = .ok (.getfield 86, 3) := by decide +kernel
theorem d_M_blocks_27 : decode b_M_blocks 27 = .ok (.iload_n 2, 1) := by decide +kernel
theorem d_M_blocks_28 : decode b_M_blocks 28 = .ok (.iconst (-1), 1) := by decide +kernel
theorem d_M_blocks_29 : decode b_M_blocks 29 = .ok (.iastore, 1) := by decide +kernel
theorem d_M_blocks_30 : decode b_M_blocks 30 = .ok (.iinc 2 1, 3) := by decide +kernel
theorem d_M_blocks_33 : decode b_M_blocks 33 = .ok (.goto (-17), 3) := by decide +kernel
theorem d_M_blocks_36 : decode b_M_blocks 36 = .ok (.iconst 0, 1) := by decide +kernel
theorem d_M_blocks_37 : decode b_M_blocks 37 = .ok (.istore_n 2, 1) := by decide +kernel
theorem d_M_blocks_38 : decode b_M_blocks 38 = .ok (.iconst 0, 1) := by decide +kernel
theorem d_M_blocks_39 : decode b_M_blocks 39 = .ok (.istore_n 3, 1) := by decide +kernel
theorem d_M_blocks_40 : decode b_M_blocks 40 = .ok (.iload_n 3, 1) := by decide +kernel
theorem d_M_blocks_41 : decode b_M_blocks 41 = .ok (.bipush 28, 2) := by decide +kernel
theorem d_M_blocks_43 : decode b_M_blocks 43 = .ok (.if_icmp .ge 81, 3) := by decide +kernel
theorem d_M_blocks_46 : decode b_M_blocks 46 = .ok (.aload_n 0, 1) := by decide +kernel
theorem d_M_blocks_47 : decode b_M_blocks 47 = .ok (.iload_n 3, 1) := by decide +kernel
theorem d_M_blocks_48 : decode b_M_blocks 48 = .ok (.invokevirtual 172, 3) := by decide +kernel
theorem d_M_blocks_51 : decode b_M_blocks 51 = .ok (.ifCond .ne 6, 3) := by decide +kernel
theorem d_M_blocks_54 : decode b_M_blocks 54 = .ok (.goto 64, 3) := by decide +kernel
theorem d_M_blocks_57 : decode b_M_blocks 57 = .ok (.iconst 0, 1) := by decide +kernel
theorem d_M_blocks_58 : decode b_M_blocks 58 = .ok (.istore 4, 2) := by decide +kernel
theorem d_M_blocks_60 : decode b_M_blocks 60 = .ok (.iload 4, 2) := by decide +kernel
theorem d_M_blocks_62 : decode b_M_blocks 62 = .ok (.bipush 32, 2) := by decide +kernel
theorem d_M_blocks_64 : decode b_M_blocks 64 = .ok (.if_icmp .ge 54, 3) := by decide +kernel
theorem d_M_blocks_67 : decode b_M_blocks 67 = .ok (.iconst 0, 1) := by decide +kernel
theorem d_M_blocks_68 : decode b_M_blocks 68 = .ok (.istore 5, 2) := by decide +kernel
theorem d_M_blocks_70 : decode b_M_blocks 70 = .ok (.iload 5, 2) := by decide +kernel
theorem d_M_blocks_72 : decode b_M_blocks 72 = .ok (.bipush 32, 2) := by decide +kernel
theorem d_M_blocks_74 : decode b_M_blocks 74 = .ok (.if_icmp .ge 38, 3) := by decide +kernel
theorem d_M_blocks_77 : decode b_M_blocks 77 = .ok (.iload_n 2, 1) := by decide +kernel
theorem d_M_blocks_78 : decode b_M_blocks 78 = .ok (.aload_n 0, 1) := by decide +kernel
theorem d_M_blocks_79 : decode b_M_blocks 79 = .ok (.sipush 4096, 3) := by decide +kernel
theorem d_M_blocks_82 : decode b_M_blocks 82 = .ok (.iload_n 3, 1) := by decide +kernel
theorem d_M_blocks_83 : decode b_M_blocks 83 = .ok (.imul, 1) := by decide +kernel
theorem d_M_blocks_84 : decode b_M_blocks 84 = .ok (.iload_n 1, 1) := by decide +kernel
theorem d_M_blocks_85 : decode b_M_blocks 85 = .ok (.iload 5, 2) := by decide +kernel
theorem d_M_blocks_87 : decode b_M_blocks 87 = .ok (.iload 4, 2) := by decide +kernel
theorem d_M_blocks_89 : decode b_M_blocks 89 = .ok (.invokestatic 123, 3) := by decide +kernel
theorem d_M_blocks_92 : decode b_M_blocks 92 = .ok (.iadd, 1) := by decide +kernel
theorem d_M_blocks_93 : decode b_M_blocks 93 = .ok (.invokevirtual 181, 3) := by decide +kernel
theorem d_M_blocks_96 : decode b_M_blocks 96 = .ok (.ifCond .eq 7, 3) := by decide +kernel
theorem d_M_blocks_99 : decode b_M_blocks 99 = .ok (.iconst 1, 1) := by decide +kernel
theorem d_M_blocks_100 : decode b_M_blocks 100 = .ok (.goto 4, 3) := by decide +kernel
theorem d_M_blocks_103 : decode b_M_blocks 103 = .ok (.iconst 0, 1) := by decide +kernel
theorem d_M_blocks_104 : decode b_M_blocks 104 = .ok (.iadd, 1) := by decide +kernel
theorem d_M_blocks_105 : decode b_M_blocks 105 = .ok (.istore_n 2, 1) := by decide +kernel
theorem d_M_blocks_106 : decode b_M_blocks 106 = .ok (.iinc 5 4, 3) := by decide +kernel
theorem d_M_blocks_109 : decode b_M_blocks 109 = .ok (.goto (-39), 3) := by decide +kernel
theorem d_M_blocks_112 : decode b_M_blocks 112 = .ok (.iinc 4 4, 3) := by decide +kernel
theorem d_M_blocks_115 : decode b_M_blocks 115 = .ok (.goto (-55), 3) := by decide +kernel
theorem d_M_blocks_118 : decode b_M_blocks 118 = .ok (.iinc 3 1, 3) := by decide +kernel
theorem d_M_blocks_121 : decode b_M_blocks 121 = .ok (.goto (-81), 3) := by decide +kernel
theorem d_M_blocks_124 : decode b_M_blocks 124 = .ok (.iload_n 2, 1) := by decide +kernel
theorem d_M_blocks_125 : decode b_M_blocks 125 = .ok (.ireturn, 1) := by decide +kernel
theorem d_M_isNew_0 : decode b_M_isNew 0 = .ok (.iconst 0, 1) := by decide +kernel
theorem d_M_isNew_1 : decode b_M_isNew 1 = .ok (.istore_n 2, 1) := by decide +kernel
theorem d_M_isNew_2 : decode b_M_isNew 2 = .ok (.iconst 0, 1) := by decide +kernel
theorem d_M_isNew_3 : decode b_M_isNew 3 = .ok (.istore_n 3, 1) := by decide +kernel
theorem d_M_isNew_4 : decode b_M_isNew 4 = .ok (.iconst 0, 1) := by decide +kernel
theorem d_M_isNew_5 : decode b_M_isNew 5 = .ok (.istore 4, 2) := by decide +kernel
theorem d_M_isNew_7 : decode b_M_isNew 7 = .ok (.iload 4, 2) := by decide +kernel
theorem d_M_isNew_9 : decode b_M_isNew 9 = .ok (.bipush 16, 2) := by decide +kernel
theorem d_M_isNew_11 : decode b_M_isNew 11 = .ok (.if_icmp .ge 55, 3) := by decide +kernel
theorem d_M_isNew_14 : decode b_M_isNew 14 = .ok (.aload_n 0, 1) := by decide +kernel
theorem d_M_isNew_15 : decode b_M_isNew 15 = .ok (.getfield 8, 3) := by decide +kernel
theorem d_M_isNew_18 : decode b_M_isNew 18 = .ok (.iload_n 1, 1) := by decide +kernel
theorem d_M_isNew_19 : decode b_M_isNew 19 = .ok (.iload 4, 2) := by decide +kernel
theorem d_M_isNew_21 : decode b_M_isNew 21 = .ok (.iconst 4, 1) := by decide +kernel
theorem d_M_isNew_22 : decode b_M_isNew 22 = .ok (.idiv, 1) := by decide +kernel
theorem d_M_isNew_23 : decode b_M_isNew 23 = .ok (.bipush 32, 2) := by decide +kernel
theorem d_M_isNew_25 : decode b_M_isNew 25 = .ok (.imul, 1) := by decide +kernel
theorem d_M_isNew_26 : decode b_M_isNew 26 = .ok (.iadd, 1) := by decide +kernel
theorem d_M_isNew_27 : decode b_M_isNew 27 = .ok (.iload 4, 2) := by decide +kernel
theorem d_M_isNew_29 : decode b_M_isNew 29 = .ok (.iconst 4, 1) := by decide +kernel
theorem d_M_isNew_30 : decode b_M_isNew 30 = .ok (.irem, 1) := by decide +kernel
theorem d_M_isNew_31 : decode b_M_isNew 31 = .ok (.iadd, 1) := by decide +kernel
theorem d_M_isNew_32 : decode b_M_isNew 32 = .ok (.iaload, 1) := by decide +kernel
theorem d_M_isNew_33 : decode b_M_isNew 33 = .ok (.istore 5, 2) := by decide +kernel
theorem d_M_isNew_35 : decode b_M_isNew 35 = .ok (.iload_n 3, 1) := by decide +kernel
theorem d_M_isNew_36 : decode b_M_isNew 36 = .ok (.ifCond .ne 10, 3) := by decide +kernel
theorem d_M_isNew_39 : decode b_M_isNew 39 = .ok (.iload 5, 2) := by decide +kernel
theorem d_M_isNew_41 : decode b_M_isNew 41 = .ok (.ldc 89, 2) := by decide +kernel
theorem d_M_isNew_43 : decode b_M_isNew 43 = .ok (.if_icmp .eq 7, 3) := by decide +kernel
theorem d_M_isNew_46 : decode b_M_isNew 46 = .ok (.iconst 1, 1) := by decide +kernel
theorem d_M_isNew_47 : decode b_M_isNew 47 = .ok (.goto 4, 3) := by decide +kernel
theorem d_M_isNew_50 : decode b_M_isNew 50 = .ok (.iconst 0, 1) := by decide +kernel
theorem d_M_isNew_51 : decode b_M_isNew 51 = .ok (.istore_n 3, 1) := by decide +kernel
theorem d_M_isNew_52 : decode b_M_isNew 52 = .ok (.bipush 31, 2) := by decide +kernel
theorem d_M_isNew_54 : decode b_M_isNew 54 = .ok (.iload_n 2, 1) := by decide +kernel
theorem d_M_isNew_55 : decode b_M_isNew 55 = .ok (.imul, 1) := by decide +kernel
theorem d_M_isNew_56 : decode b_M_isNew 56 = .ok (.iload 5, 2) := by decide +kernel
theorem d_M_isNew_58 : decode b_M_isNew 58 = .ok (.iadd, 1) := by decide +kernel
theorem d_M_isNew_59 : decode b_M_isNew 59 = .ok (.istore_n 2, 1) := by decide +kernel
theorem d_M_isNew_60 : decode b_M_isNew 60 = .ok (.iinc 4 1, 3) := by decide +kernel
theorem d_M_isNew_63 : decode b_M_isNew 63 = .ok (.goto (-56), 3) := by decide +kernel
theorem d_M_isNew_66 : decode b_M_isNew 66 = .ok (.iload_n 3, 1) := by decide +kernel
theorem d_M_isNew_67 : decode b_M_isNew 67 = .ok (.ifCond .ne 5, 3) := by decide +kernel
theorem d_M_isNew_70 : decode b_M_isNew 70 = .ok (.iconst 0, 1) := by decide +kernel
theorem d_M_isNew_71 : decode b_M_isNew 71 = .ok (.ireturn, 1) := by decide +kernel
theorem d_M_isNew_72 : decode b_M_isNew 72 = .ok (.iload_n 2, 1) := by decide +kernel
theorem d_M_isNew_73 : decode b_M_isNew 73 = .ok (.iload_n 2, 1) := by decide +kernel
theorem d_M_isNew_74 : decode b_M_isNew 74 = .ok (.bipush 12, 2) := by decide +kernel
theorem d_M_isNew_76 : decode b_M_isNew 76 = .ok (.iushr, 1) := by decide +kernel
theorem d_M_isNew_77 : decode b_M_isNew 77 = .ok (.ixor, 1) := by decide +kernel
theorem d_M_isNew_78 : decode b_M_isNew 78 = .ok (.iload_n 2, 1) := by decide +kernel
theorem d_M_isNew_79 : decode b_M_isNew 79 = .ok (.bipush 20, 2) := by decide +kernel
theorem d_M_isNew_81 : decode b_M_isNew 81 = .ok (.iushr, 1) := by decide +kernel
theorem d_M_isNew_82 : decode b_M_isNew 82 = .ok (.ixor, 1) := by decide +kernel
theorem d_M_isNew_83 : decode b_M_isNew 83 = .ok (.sipush 4095, 3) := by decide +kernel
theorem d_M_isNew_86 : decode b_M_isNew 86 = .ok (.iand, 1) := by decide +kernel
theorem d_M_isNew_87 : decode b_M_isNew 87 = .ok (.istore 4, 2) := by decide +kernel
theorem d_M_isNew_89 : decode b_M_isNew 89 = .ok (.aload_n 0, 1) := by decide +kernel
theorem d_M_isNew_90 : decode b_M_isNew 90 = .ok (.getfield 86, 3) := by decide +kernel
theorem d_M_isNew_93 : decode b_M_isNew 93 = .ok (.iload 4, 2) := by decide +kernel
theorem d_M_isNew_95 : decode b_M_isNew 95 = .ok (.iaload, 1) := by decide +kernel
theorem d_M_isNew_96 : decode b_M_isNew 96 = .ok (.ifCond .lt 31, 3) := by decide +kernel
theorem d_M_isNew_99 : decode b_M_isNew 99 = .ok (.aload_n 0, 1) := by decide +kernel
theorem d_M_isNew_100 : decode b_M_isNew 100 = .ok (.aload_n 0, 1) := by decide +kernel
theorem d_M_isNew_101 : decode b_M_isNew 101 = .ok (.getfield 86, 3) := by decide +kernel
theorem d_M_isNew_104 : decode b_M_isNew 104 = .ok (.iload 4, 2) := by decide +kernel
theorem d_M_isNew_106 : decode b_M_isNew 106 = .ok (.iaload, 1) := by decide +kernel
theorem d_M_isNew_107 : decode b_M_isNew 107 = .ok (.iload_n 1, 1) := by decide +kernel
theorem d_M_isNew_108 : decode b_M_isNew 108 = .ok (.invokevirtual 178, 3) := by decide +kernel
theorem d_M_isNew_111 : decode b_M_isNew 111 = .ok (.ifCond .ne 16, 3) := by decide +kernel
theorem d_M_isNew_114 : decode b_M_isNew 114 = .ok (.iload 4, 2) := by decide +kernel
theorem d_M_isNew_116 : decode b_M_isNew 116 = .ok (.iconst 1, 1) := by decide +kernel
theorem d_M_isNew_117 : decode b_M_isNew 117 = .ok (.iadd, 1) := by decide +kernel
theorem d_M_isNew_118 : decode b_M_isNew 118 = .ok (.sipush 4095, 3) := by decide +kernel
theorem d_M_isNew_121 : decode b_M_isNew 121 = .ok (.iand, 1) := by decide +kernel
theorem d_M_isNew_122 : decode b_M_isNew 122 = .ok (.istore 4, 2) := by decide +kernel
theorem d_M_isNew_124 : decode b_M_isNew 124 = .ok (.goto (-35), 3) := by decide +kernel
theorem d_M_isNew_127 : decode b_M_isNew 127 = .ok (.aload_n 0, 1) := by decide +kernel
theorem d_M_isNew_128 : decode b_M_isNew 128 = .ok (.getfield 86, 3) := by decide +kernel
theorem d_M_isNew_131 : decode b_M_isNew 131 = .ok (.iload 4, 2) := by decide +kernel
theorem d_M_isNew_133 : decode b_M_isNew 133 = .ok (.iaload, 1) := by decide +kernel
theorem d_M_isNew_134 : decode b_M_isNew 134 = .ok (.ifCond .lt 5, 3) := by decide +kernel
theorem d_M_isNew_137 : decode b_M_isNew 137 = .ok (.iconst 0, 1) := by decide +kernel
theorem d_M_isNew_138 : decode b_M_isNew 138 = .ok (.ireturn, 1) := by decide +kernel
theorem d_M_isNew_139 : decode b_M_isNew 139 = .ok (.aload_n 0, 1) := by decide +kernel
theorem d_M_isNew_140 : decode b_M_isNew 140 = .ok (.getfield 86, 3) := by decide +kernel
theorem d_M_isNew_143 : decode b_M_isNew 143 = .ok (.iload 4, 2) := by decide +kernel
theorem d_M_isNew_145 : decode b_M_isNew 145 = .ok (.iload_n 1, 1) := by decide +kernel
theorem d_M_isNew_146 : decode b_M_isNew 146 = .ok (.iastore, 1) := by decide +kernel
theorem d_M_isNew_147 : decode b_M_isNew 147 = .ok (.iconst 1, 1) := by decide +kernel
theorem d_M_isNew_148 : decode b_M_isNew 148 = .ok (.ireturn, 1) := by decide +kernel
theorem d_M_sameBlock_0 : decode b_M_sameBlock 0 = .ok (.iconst 1, 1) := by decide +kernel
theorem d_M_sameBlock_1 : decode b_M_sameBlock 1 = .ok (.istore_n 3, 1) := by decide +kernel
theorem d_M_sameBlock_2 : decode b_M_sameBlock 2 = .ok (.iconst 0, 1) := by decide +kernel
theorem d_M_sameBlock_3 : decode b_M_sameBlock 3 = .ok (.istore 4, 2) := by decide +kernel
theorem d_M_sameBlock_5 : decode b_M_sameBlock 5 = .ok (.iload 4, 2) := by decide +kernel
theorem d_M_sameBlock_7 : decode b_M_sameBlock 7 = .ok (.bipush 16, 2) := by decide +kernel
theorem d_M_sameBlock_9 : decode b_M_sameBlock 9 = .ok (.if_icmp .ge 60, 3) := by decide +kernel
theorem d_M_sameBlock_12 : decode b_M_sameBlock 12 = .ok (.iload_n 3, 1) := by decide +kernel
theorem d_M_sameBlock_13 : decode b_M_sameBlock 13 = .ok (.ifCond .eq 56, 3) := by decide +kernel
theorem d_M_sameBlock_16 : decode b_M_sameBlock 16 = .ok (.aload_n 0, 1) := by decide +kernel
theorem d_M_sameBlock_17 : decode b_M_sameBlock 17 = .ok (.getfield 8, 3) := by decide +kernel
theorem d_M_sameBlock_20 : decode b_M_sameBlock 20 = .ok (.iload_n 1, 1) := by decide +kernel
theorem d_M_sameBlock_21 : decode b_M_sameBlock 21 = .ok (.iload 4, 2) := by decide +kernel
theorem d_M_sameBlock_23 : decode b_M_sameBlock 23 = .ok (.iconst 4, 1) := by decide +kernel
theorem d_M_sameBlock_24 : decode b_M_sameBlock 24 = .ok (.idiv, 1) := by decide +kernel
theorem d_M_sameBlock_25 : decode b_M_sameBlock 25 = .ok (.bipush 32, 2) := by decide +kernel
theorem d_M_sameBlock_27 : decode b_M_sameBlock 27 = .ok (.imul, 1) := by decide +kernel
theorem d_M_sameBlock_28 : decode b_M_sameBlock 28 = .ok (.iadd, 1) := by decide +kernel
theorem d_M_sameBlock_29 : decode b_M_sameBlock 29 = .ok (.iload 4, 2) := by decide +kernel
theorem d_M_sameBlock_31 : decode b_M_sameBlock 31 = .ok (.iconst 4, 1) := by decide +kernel
theorem d_M_sameBlock_32 : decode b_M_sameBlock 32 = .ok (.irem, 1) := by decide +kernel
theorem d_M_sameBlock_33 : decode b_M_sameBlock 33 = .ok (.iadd, 1) := by decide +kernel
theorem d_M_sameBlock_34 : decode b_M_sameBlock 34 = .ok (.iaload, 1) := by decide +kernel
theorem d_M_sameBlock_35 : decode b_M_sameBlock 35 = .ok (.aload_n 0, 1) := by decide +kernel
theorem d_M_sameBlock_36 : decode b_M_sameBlock 36 = .ok (.getfield 8, 3) := by decide +kernel
theorem d_M_sameBlock_39 : decode b_M_sameBlock 39 = .ok (.iload_n 2, 1) := by decide +kernel
theorem d_M_sameBlock_40 : decode b_M_sameBlock 40 = .ok (.iload 4, 2) := by decide +kernel
theorem d_M_sameBlock_42 : decode b_M_sameBlock 42 = .ok (.iconst 4, 1) := by decide +kernel
theorem d_M_sameBlock_43 : decode b_M_sameBlock 43 = .ok (.idiv, 1) := by decide +kernel
theorem d_M_sameBlock_44 : decode b_M_sameBlock 44 = .ok (.bipush 32, 2) := by decide +kernel
theorem d_M_sameBlock_46 : decode b_M_sameBlock 46 = .ok (.imul, 1) := by decide +kernel
theorem d_M_sameBlock_47 : decode b_M_sameBlock 47 = .ok (.iadd, 1) := by decide +kernel
theorem d_M_sameBlock_48 : decode b_M_sameBlock 48 = .ok (.iload 4, 2) := by decide +kernel
theorem d_M_sameBlock_50 : decode b_M_sameBlock 50 = .ok (.iconst 4, 1) := by decide +kernel
theorem d_M_sameBlock_51 : decode b_M_sameBlock 51 = .ok (.irem, 1) := by decide +kernel
theorem d_M_sameBlock_52 : decode b_M_sameBlock 52 = .ok (.iadd, 1) := by decide +kernel
theorem d_M_sameBlock_53 : decode b_M_sameBlock 53 = .ok (.iaload, 1) := by decide +kernel
theorem d_M_sameBlock_54 : decode b_M_sameBlock 54 = .ok (.if_icmp .ne 7, 3) := by decide +kernel
theorem d_M_sameBlock_57 : decode b_M_sameBlock 57 = .ok (.iconst 1, 1) := by decide +kernel
theorem d_M_sameBlock_58 : decode b_M_sameBlock 58 = .ok (.goto 4, 3) := by decide +kernel
theorem d_M_sameBlock_61 : decode b_M_sameBlock 61 = .ok (.iconst 0, 1) := by decide +kernel
theorem d_M_sameBlock_62 : decode b_M_sameBlock 62 = .ok (.istore_n 3, 1) := by decide +kernel
theorem d_M_sameBlock_63 : decode b_M_sameBlock 63 = .ok (.iinc 4 1, 3) := by decide +kernel
theorem d_M_sameBlock_66 : decode b_M_sameBlock 66 = .ok (.goto (-61), 3) := by decide +kernel
theorem d_M_sameBlock_69 : decode b_M_sameBlock 69 = .ok (.iload_n 3, 1) := by decide +kernel
theorem d_M_sameBlock_70 : decode b_M_sameBlock 70 = .ok (.ireturn, 1) := by decide +kernel

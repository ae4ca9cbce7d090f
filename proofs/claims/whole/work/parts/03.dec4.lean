theorem dX9_init_120 : decode cX9_init 120 = .ok (.aload_n 0, 1) := by decide +kernel
theorem dX9_init_121 : decode cX9_init 121 = .ok (.iconst 4, 1) := by decide +kernel
theorem dX9_init_122 : decode cX9_init 122 = .ok (.newarray .int, 2) := by decide +kernel
theorem dX9_init_124 : decode cX9_init 124 = .ok (.putfield 59, 3) := by decide +kernel
theorem dX9_init_127 : decode cX9_init 127 = .ok (.aload_n 0, 1) := by decide +kernel
theorem dX9_init_128 : decode cX9_init 128 = .ok (.iconst 4, 1) := by decide +kernel
theorem dX9_init_129 : decode cX9_init 129 = .ok (.newarray .int, 2) := by decide +kernel
theorem dX9_init_131 : decode cX9_init 131 = .ok (.putfield 62, 3) := by decide +kernel
theorem dX9_init_134 : decode cX9_init 134 = .ok (.aload_n 0, 1) := by decide +kernel
theorem dX9_init_135 : decode cX9_init 135 = .ok (.iconst 3, 1) := by decide +kernel
theorem dX9_init_136 : decode cX9_init 136 = .ok (.newarray .int, 2) := by decide +kernel
theorem dX9_init_138 : decode cX9_init 138 = .ok (.putfield 65, 3) := by decide +kernel
theorem dX9_init_141 : decode cX9_init 141 = .ok (.aload_n 0, 1) := by decide +kernel
theorem dX9_init_142 : decode cX9_init 142 = .ok (.iconst 3, 1) := by decide +kernel
theorem dX9_init_143 : decode cX9_init 143 = .ok (.newarray .int, 2) := by decide +kernel
theorem dX9_init_145 : decode cX9_init 145 = .ok (.putfield 68, 3) := by decide +kernel
theorem dX9_init_148 : decode cX9_init 148 = .ok (.aload_n 0, 1) := by decide +kernel
theorem dX9_init_149 : decode cX9_init 149 = .ok (.iconst 4, 1) := by decide +kernel
theorem dX9_init_150 : decode cX9_init 150 = .ok (.newarray .long, 2) := by decide +kernel
theorem dX9_init_152 : decode cX9_init 152 = .ok (.putfield 71, 3) := by decide +kernel
theorem dX9_init_155 : decode cX9_init 155 = .ok (.aload_n 0, 1) := by decide +kernel
theorem dX9_init_156 : decode cX9_init 156 = .ok (.iconst 4, 1) := by decide +kernel
theorem dX9_init_157 : decode cX9_init 157 = .ok (.newarray .long, 2) := by decide +kernel
theorem dX9_init_159 : decode cX9_init 159 = .ok (.putfield 75, 3) := by decide +kernel
theorem dX9_init_162 : decode cX9_init 162 = .ok (.aload_n 0, 1) := by decide +kernel
theorem dX9_init_163 : decode cX9_init 163 = .ok (.iconst 4, 1) := by decide +kernel
theorem dX9_init_164 : decode cX9_init 164 = .ok (.newarray .long, 2) := by decide +kernel
theorem dX9_init_166 : decode cX9_init 166 = .ok (.putfield 78, 3) := by decide +kernel
theorem dX9_init_169 : decode cX9_init 169 = .ok (.aload_n 0, 1) := by decide +kernel
theorem dX9_init_170 : decode cX9_init 170 = .ok (.iconst 4, 1) := by decide +kernel
theorem dX9_init_171 : decode cX9_init 171 = .ok (.newarray .boolean, 2) := by decide +kernel
theorem dX9_init_173 : decode cX9_init 173 = .ok (.putfield 81, 3) := by decide +kernel
theorem dX9_init_176 : decode cX9_init 176 = .ok (.aload_n 0, 1) := by decide +kernel
theorem dX9_init_177 : decode cX9_init 177 = .ok (.iconst 4, 1) := by decide +kernel
theorem dX9_init_178 : decode cX9_init 178 = .ok (.newarray .int, 2) := by decide +kernel
theorem dX9_init_180 : decode cX9_init 180 = .ok (.putfield 85, 3) := by decide +kernel
theorem dX9_init_183 : decode cX9_init 183 = .ok (.aload_n 0, 1) := by decide +kernel
theorem dX9_init_184 : decode cX9_init 184 = .ok (.bipush 7, 2) := by decide +kernel
theorem dX9_init_186 : decode cX9_init 186 = .ok (.newarray .int, 2) := by decide +kernel
theorem dX9_init_188 : decode cX9_init 188 = .ok (.putfield 88, 3) := by decide +kernel
theorem dX9_init_191 : decode cX9_init 191 = .ok (.aload_n 0, 1) := by decide +kernel
theorem dX9_init_192 : decode cX9_init 192 = .ok (.bipush 6, 2) := by decide +kernel
theorem dX9_init_194 : decode cX9_init 194 = .ok (.newarray .int, 2) := by decide +kernel
theorem dX9_init_196 : decode cX9_init 196 = .ok (.putfield 91, 3) := by decide +kernel
theorem dX9_init_199 : decode cX9_init 199 = .ok (.aload_n 0, 1) := by decide +kernel
theorem dX9_init_200 : decode cX9_init 200 = .ok (.bipush 30, 2) := by decide +kernel
theorem dX9_init_202 : decode cX9_init 202 = .ok (.newarray .int, 2) := by decide +kernel
theorem dX9_init_204 : decode cX9_init 204 = .ok (.putfield 94, 3) := by decide +kernel
theorem dX9_init_207 : decode cX9_init 207 = .ok (.aload_n 0, 1) := by decide +kernel
theorem dX9_init_208 : decode cX9_init 208 = .ok (.bipush 10, 2) := by decide +kernel
theorem dX9_init_210 : decode cX9_init 210 = .ok (.newarray .int, 2) := by decide +kernel
theorem dX9_init_212 : decode cX9_init 212 = .ok (.putfield 97, 3) := by decide +kernel
theorem dX9_init_215 : decode cX9_init 215 = .ok (.aload_n 0, 1) := by decide +kernel
theorem dX9_init_216 : decode cX9_init 216 = .ok (.bipush 10, 2) := by decide +kernel
theorem dX9_init_218 : decode cX9_init 218 = .ok (.newarray .int, 2) := by decide +kernel
theorem dX9_init_220 : decode cX9_init 220 = .ok (.putfield 100, 3) := by decide +kernel
theorem dX9_init_223 : decode cX9_init 223 = .ok (.aload_n 0, 1) := by decide +kernel
theorem dX9_init_224 : decode cX9_init 224 = .ok (.bipush 36, 2) := by decide +kernel
theorem dX9_init_226 : decode cX9_init 226 = .ok (.newarray .int, 2) := by decide +kernel
theorem dX9_init_228 : decode cX9_init 228 = .ok (.putfield 103, 3) := by decide +kernel
theorem dX9_init_231 : decode cX9_init 231 = .ok (.iconst 0, 1) := by decide +kernel
theorem dX9_init_232 : decode cX9_init 232 = .ok (.istore_n 1, 1) := by decide +kernel
theorem dX9_init_233 : decode cX9_init 233 = .ok (.iload_n 1, 1) := by decide +kernel
theorem dX9_init_234 : decode cX9_init 234 = .ok (.bipush 10, 2) := by decide +kernel
theorem dX9_init_236 : decode cX9_init 236 = .ok (.if_icmp .ge 22, 3) := by decide +kernel
theorem dX9_init_239 : decode cX9_init 239 = .ok (.aload_n 0, 1) := by decide +kernel
theorem dX9_init_240 : decode cX9_init 240 = .ok (.getfield 40, 3) := by decide +kernel
theorem dX9_init_243 : decode cX9_init 243 = .ok (.iload_n 1, 1) := by decide +kernel
theorem dX9_init_244 : decode cX9_init 244 = .ok (.bipush 100, 2) := by decide +kernel
theorem dX9_init_246 : decode cX9_init 246 = .ok (.bipush 10, 2) := by decide +kernel
theorem dX9_init_248 : decode cX9_init 248 = .ok (.iload_n 1, 1) := by decide +kernel
theorem dX9_init_249 : decode cX9_init 249 = .ok (.imul, 1) := by decide +kernel
theorem dX9_init_250 : decode cX9_init 250 = .ok (.isub, 1) := by decide +kernel
theorem dX9_init_251 : decode cX9_init 251 = .ok (.iastore, 1) := by decide +kernel
theorem dX9_init_252 : decode cX9_init 252 = .ok (.iinc 1 1, 3) := by decide +kernel
theorem dX9_init_255 : decode cX9_init 255 = .ok (.goto (-22), 3) := by decide +kernel
theorem dX9_init_258 : decode cX9_init 258 = .ok (.aload_n 0, 1) := by decide +kernel
theorem dX9_init_259 : decode cX9_init 259 = .ok (.getfield 43, 3) := by decide +kernel
theorem dX9_init_262 : decode cX9_init 262 = .ok (.iconst 0, 1) := by decide +kernel
theorem dX9_init_263 : decode cX9_init 263 = .ok (.ldc 106, 2) := by decide +kernel
theorem dX9_init_265 : decode cX9_init 265 = .ok (.iastore, 1) := by decide +kernel
theorem dX9_init_266 : decode cX9_init 266 = .ok (.return_, 1) := by decide +kernel
theorem dX9_isIn_0 : decode cX9_isIn 0 = .ok (.lload_n 0, 1) := by decide +kernel
theorem dX9_isIn_1 : decode cX9_isIn 1 = .ok (.lload_n 2, 1) := by decide +kernel
theorem dX9_isIn_2 : decode cX9_isIn 2 = .ok (.lcmp, 1) := by decide +kernel
theorem dX9_isIn_3 : decode cX9_isIn 3 = .ok (.ifCond .lt 14, 3) := by decide +kernel
theorem dX9_isIn_6 : decode cX9_isIn 6 = .ok (.lload_n 0, 1) := by decide +kernel
theorem dX9_isIn_7 : decode cX9_isIn 7 = .ok (.lload 4, 2) := by decide +kernel
theorem dX9_isIn_9 : decode cX9_isIn 9 = .ok (.lcmp, 1) := by decide +kernel
theorem dX9_isIn_10 : decode cX9_isIn 10 = .ok (.ifCond .gt 7, 3) := by decide +kernel
theorem dX9_isIn_13 : decode cX9_isIn 13 = .ok (.iconst 1, 1) := by decide +kernel
theorem dX9_isIn_14 : decode cX9_isIn 14 = .ok (.goto 4, 3) := by decide +kernel
theorem dX9_isIn_17 : decode cX9_isIn 17 = .ok (.iconst 0, 1) := by decide +kernel
theorem dX9_isIn_18 : decode cX9_isIn 18 = .ok (.ireturn, 1) := by decide +kernel
theorem dX9_isEngine_0 : decode cX9_isEngine 0 = .ok (.iload_n 1, 1) := by decide +kernel
theorem dX9_isEngine_1 : decode cX9_isEngine 1 = .ok (.ifCond .lt 15, 3) := by decide +kernel
theorem dX9_isEngine_4 : decode cX9_isEngine 4 = .ok (.iload_n 1, 1) := by decide +kernel
theorem dX9_isEngine_5 : decode cX9_isEngine 5 = .ok (.aload_n 0, 1) := by decide +kernel
theorem dX9_isEngine_6 : decode cX9_isEngine 6 = .ok (.getfield 107, 3) := by decide +kernel
theorem dX9_isEngine_9 : decode cX9_isEngine 9 = .ok (.if_icmp .ge 7, 3) := by decide +kernel
theorem dX9_isEngine_12 : decode cX9_isEngine 12 = .ok (.iconst 1, 1) := by decide +kernel
theorem dX9_isEngine_13 : decode cX9_isEngine 13 = .ok (.goto 4, 3) := by decide +kernel
theorem dX9_isEngine_16 : decode cX9_isEngine 16 = .ok (.iconst 0, 1) := by decide +kernel
theorem dX9_isEngine_17 : decode cX9_isEngine 17 = .ok (.ireturn, 1) := by decide +kernel
theorem dX9_isStage_0 : decode cX9_isStage 0 = .ok (.iload_n 1, 1) := by decide +kernel
theorem dX9_isStage_1 : decode cX9_isStage 1 = .ok (.ifCond .lt 15, 3) := by decide +kernel
theorem dX9_isStage_4 : decode cX9_isStage 4 = .ok (.iload_n 1, 1) := by decide +kernel
theorem dX9_isStage_5 : decode cX9_isStage 5 = .ok (.aload_n 0, 1) := by decide +kernel
theorem dX9_isStage_6 : decode cX9_isStage 6 = .ok (.getfield 110, 3) := by decide +kernel
theorem dX9_isStage_9 : decode cX9_isStage 9 = .ok (.if_icmp .ge 7, 3) := by decide +kernel
theorem dX9_isStage_12 : decode cX9_isStage 12 = .ok (.iconst 1, 1) := by decide +kernel
theorem dX9_isStage_13 : decode cX9_isStage 13 = .ok (.goto 4, 3) := by decide +kernel
theorem dX9_isStage_16 : decode cX9_isStage 16 = .ok (.iconst 0, 1) := by decide +kernel
theorem dX9_isStage_17 : decode cX9_isStage 17 = .ok (.ireturn, 1) := by decide +kernel
theorem dX9_engine_0 : decode cX9_engine 0 = .ok (.iload_n 1, 1) := by decide +kernel
theorem dX9_engine_1 : decode cX9_engine 1 = .ok (.i2l, 1) := by decide +kernel
theorem dX9_engine_2 : decode cX9_engine 2 = .ok (.lconst 1, 1) := by decide +kernel
theorem dX9_engine_3 : decode cX9_engine 3 = .ok (.ldc2_w 113, 3) := by decide +kernel
theorem dX9_engine_6 : decode cX9_engine 6 = .ok (.invokestatic 115, 3) := by decide +kernel
theorem dX9_engine_9 : decode cX9_engine 9 = .ok (.ifCond .eq 40, 3) := by decide +kernel
theorem dX9_engine_12 : decode cX9_engine 12 = .ok (.iload_n 2, 1) := by decide +kernel
theorem dX9_engine_13 : decode cX9_engine 13 = .ok (.i2l, 1) := by decide +kernel
theorem dX9_engine_14 : decode cX9_engine 14 = .ok (.lconst 1, 1) := by decide +kernel
theorem dX9_engine_15 : decode cX9_engine 15 = .ok (.ldc2_w 113, 3) := by decide +kernel
theorem dX9_engine_18 : decode cX9_engine 18 = .ok (.invokestatic 115, 3) := by decide +kernel
theorem dX9_engine_21 : decode cX9_engine 21 = .ok (.ifCond .eq 28, 3) := by decide +kernel
theorem dX9_engine_24 : decode cX9_engine 24 = .ok (.iload_n 3, 1) := by decide +kernel
theorem dX9_engine_25 : decode cX9_engine 25 = .ok (.i2l, 1) := by decide +kernel
theorem dX9_engine_26 : decode cX9_engine 26 = .ok (.lconst 1, 1) := by decide +kernel
theorem dX9_engine_27 : decode cX9_engine 27 = .ok (.ldc2_w 119, 3) := by decide +kernel
theorem dX9_engine_30 : decode cX9_engine 30 = .ok (.invokestatic 115, 3) := by decide +kernel
theorem dX9_engine_33 : decode cX9_engine 33 = .ok (.ifCond .eq 16, 3) := by decide +kernel
theorem dX9_engine_36 : decode cX9_engine 36 = .ok (.iload 4, 2) := by decide +kernel
theorem dX9_engine_38 : decode cX9_engine 38 = .ok (.i2l, 1) := by decide +kernel
theorem dX9_engine_39 : decode cX9_engine 39 = .ok (.lconst 1, 1) := by decide +kernel
theorem dX9_engine_40 : decode cX9_engine 40 = .ok (.ldc2_w 121, 3) := by decide +kernel
theorem dX9_engine_43 : decode cX9_engine 43 = .ok (.invokestatic 115, 3) := by decide +kernel
theorem dX9_engine_46 : decode cX9_engine 46 = .ok (.ifCond .ne 6, 3) := by decide +kernel
theorem dX9_engine_49 : decode cX9_engine 49 = .ok (.bipush (-2), 2) := by decide +kernel
theorem dX9_engine_51 : decode cX9_engine 51 = .ok (.ireturn, 1) := by decide +kernel
theorem dX9_engine_52 : decode cX9_engine 52 = .ok (.aload_n 0, 1) := by decide +kernel
theorem dX9_engine_53 : decode cX9_engine 53 = .ok (.getfield 107, 3) := by decide +kernel
theorem dX9_engine_56 : decode cX9_engine 56 = .ok (.bipush 6, 2) := by decide +kernel
theorem dX9_engine_58 : decode cX9_engine 58 = .ok (.if_icmp .ne 6, 3) := by decide +kernel
theorem dX9_engine_61 : decode cX9_engine 61 = .ok (.bipush (-4), 2) := by decide +kernel
theorem dX9_engine_63 : decode cX9_engine 63 = .ok (.ireturn, 1) := by decide +kernel
theorem dX9_engine_64 : decode cX9_engine 64 = .ok (.aload_n 0, 1) := by decide +kernel
theorem dX9_engine_65 : decode cX9_engine 65 = .ok (.getfield 7, 3) := by decide +kernel
theorem dX9_engine_68 : decode cX9_engine 68 = .ok (.aload_n 0, 1) := by decide +kernel
theorem dX9_engine_69 : decode cX9_engine 69 = .ok (.getfield 107, 3) := by decide +kernel
theorem dX9_engine_72 : decode cX9_engine 72 = .ok (.iload_n 1, 1) := by decide +kernel
theorem dX9_engine_73 : decode cX9_engine 73 = .ok (.iastore, 1) := by decide +kernel
theorem dX9_engine_74 : decode cX9_engine 74 = .ok (.aload_n 0, 1) := by decide +kernel
theorem dX9_engine_75 : decode cX9_engine 75 = .ok (.getfield 13, 3) := by decide +kernel
theorem dX9_engine_78 : decode cX9_engine 78 = .ok (.aload_n 0, 1) := by decide +kernel
theorem dX9_engine_79 : decode cX9_engine 79 = .ok (.getfield 107, 3) := by decide +kernel
theorem dX9_engine_82 : decode cX9_engine 82 = .ok (.iload_n 2, 1) := by decide +kernel
theorem dX9_engine_83 : decode cX9_engine 83 = .ok (.iastore, 1) := by decide +kernel
theorem dX9_engine_84 : decode cX9_engine 84 = .ok (.aload_n 0, 1) := by decide +kernel
theorem dX9_engine_85 : decode cX9_engine 85 = .ok (.getfield 16, 3) := by decide +kernel
theorem dX9_engine_88 : decode cX9_engine 88 = .ok (.aload_n 0, 1) := by decide +kernel
theorem dX9_engine_89 : decode cX9_engine 89 = .ok (.getfield 107, 3) := by decide +kernel
theorem dX9_engine_92 : decode cX9_engine 92 = .ok (.iload_n 3, 1) := by decide +kernel
theorem dX9_engine_93 : decode cX9_engine 93 = .ok (.iastore, 1) := by decide +kernel
theorem dX9_engine_94 : decode cX9_engine 94 = .ok (.aload_n 0, 1) := by decide +kernel
theorem dX9_engine_95 : decode cX9_engine 95 = .ok (.getfield 19, 3) := by decide +kernel
theorem dX9_engine_98 : decode cX9_engine 98 = .ok (.aload_n 0, 1) := by decide +kernel
theorem dX9_engine_99 : decode cX9_engine 99 = .ok (.getfield 107, 3) := by decide +kernel
theorem dX9_engine_102 : decode cX9_engine 102 = .ok (.iload 4, 2) := by decide +kernel
theorem dX9_engine_104 : decode cX9_engine 104 = .ok (.iastore, 1) := by decide +kernel
theorem dX9_engine_105 : decode cX9_engine 105 = .ok (.aload_n 0, 1) := by decide +kernel
theorem dX9_engine_106 : decode cX9_engine 106 = .ok (.dup, 1) := by decide +kernel
theorem dX9_engine_107 : decode cX9_engine 107 = .ok (.getfield 107, 3) := by decide +kernel
theorem dX9_engine_110 : decode cX9_engine 110 = .ok (.iconst 1, 1) := by decide +kernel
theorem dX9_engine_111 : decode cX9_engine 111 = .ok (.iadd, 1) := by decide +kernel
theorem dX9_engine_112 : decode cX9_engine 112 = .ok (.putfield 107, 3) := by decide +kernel
theorem dX9_engine_115 : decode cX9_engine 115 = .ok (.aload_n 0, 1) := by decide +kernel
theorem dX9_engine_116 : decode cX9_engine 116 = .ok (.getfield 107, 3) := by decide +kernel
theorem dX9_engine_119 : decode cX9_engine 119 = .ok (.iconst 1, 1) := by decide +kernel
theorem dX9_engine_120 : decode cX9_engine 120 = .ok (.isub, 1) := by decide +kernel
theorem dX9_engine_121 : decode cX9_engine 121 = .ok (.ireturn, 1) := by decide +kernel
theorem dX9_store_0 : decode cX9_store 0 = .ok (.aload_n 0, 1) := by decide +kernel
theorem dX9_store_1 : decode cX9_store 1 = .ok (.iload_n 1, 1) := by decide +kernel
theorem dX9_store_2 : decode cX9_store 2 = .ok (.invokevirtual 123, 3) := by decide +kernel
theorem dX9_store_5 : decode cX9_store 5 = .ok (.ifCond .ne 5, 3) := by decide +kernel
theorem dX9_store_8 : decode cX9_store 8 = .ok (.iconst (-1), 1) := by decide +kernel
theorem dX9_store_9 : decode cX9_store 9 = .ok (.ireturn, 1) := by decide +kernel
theorem dX9_store_10 : decode cX9_store 10 = .ok (.iload_n 2, 1) := by decide +kernel
theorem dX9_store_11 : decode cX9_store 11 = .ok (.i2l, 1) := by decide +kernel
theorem dX9_store_12 : decode cX9_store 12 = .ok (.lconst 1, 1) := by decide +kernel
theorem dX9_store_13 : decode cX9_store 13 = .ok (.ldc2_w 119, 3) := by decide +kernel
theorem dX9_store_16 : decode cX9_store 16 = .ok (.invokestatic 115, 3) := by decide +kernel
theorem dX9_store_19 : decode cX9_store 19 = .ok (.ifCond .ne 6, 3) := by decide +kernel
theorem dX9_store_22 : decode cX9_store 22 = .ok (.bipush (-2), 2) := by decide +kernel
theorem dX9_store_24 : decode cX9_store 24 = .ok (.ireturn, 1) := by decide +kernel
theorem dX9_store_25 : decode cX9_store 25 = .ok (.aload_n 0, 1) := by decide +kernel
theorem dX9_store_26 : decode cX9_store 26 = .ok (.getfield 22, 3) := by decide +kernel
theorem dX9_store_29 : decode cX9_store 29 = .ok (.iload_n 1, 1) := by decide +kernel
theorem dX9_store_30 : decode cX9_store 30 = .ok (.iaload, 1) := by decide +kernel
theorem dX9_store_31 : decode cX9_store 31 = .ok (.iload_n 2, 1) := by decide +kernel
theorem dX9_store_32 : decode cX9_store 32 = .ok (.iadd, 1) := by decide +kernel
theorem dX9_store_33 : decode cX9_store 33 = .ok (.bipush 99, 2) := by decide +kernel
theorem dX9_store_35 : decode cX9_store 35 = .ok (.if_icmp .le 6, 3) := by decide +kernel
theorem dX9_store_38 : decode cX9_store 38 = .ok (.bipush (-4), 2) := by decide +kernel
theorem dX9_store_40 : decode cX9_store 40 = .ok (.ireturn, 1) := by decide +kernel
theorem dX9_store_41 : decode cX9_store 41 = .ok (.aload_n 0, 1) := by decide +kernel
theorem dX9_store_42 : decode cX9_store 42 = .ok (.getfield 22, 3) := by decide +kernel
theorem dX9_store_45 : decode cX9_store 45 = .ok (.iload_n 1, 1) := by decide +kernel
theorem dX9_store_46 : decode cX9_store 46 = .ok (.dup2, 1) := by decide +kernel
theorem dX9_store_47 : decode cX9_store 47 = .ok (.iaload, 1) := by decide +kernel
theorem dX9_store_48 : decode cX9_store 48 = .ok (.iload_n 2, 1) := by decide +kernel
theorem dX9_store_49 : decode cX9_store 49 = .ok (.iadd, 1) := by decide +kernel
theorem dX9_store_50 : decode cX9_store 50 = .ok (.iastore, 1) := by decide +kernel
theorem dX9_store_51 : decode cX9_store 51 = .ok (.aload_n 0, 1) := by decide +kernel
theorem dX9_store_52 : decode cX9_store 52 = .ok (.getfield 22, 3) := by decide +kernel
theorem dX9_store_55 : decode cX9_store 55 = .ok (.iload_n 1, 1) := by decide +kernel
theorem dX9_store_56 : decode cX9_store 56 = .ok (.iaload, 1) := by decide +kernel
theorem dX9_store_57 : decode cX9_store 57 = .ok (.ireturn, 1) := by decide +kernel
theorem dX9_stage_0 : decode cX9_stage 0 = .ok (.aload_n 0, 1) := by decide +kernel
theorem dX9_stage_1 : decode cX9_stage 1 = .ok (.iload_n 1, 1) := by decide +kernel
theorem dX9_stage_2 : decode cX9_stage 2 = .ok (.invokevirtual 123, 3) := by decide +kernel
theorem dX9_stage_5 : decode cX9_stage 5 = .ok (.ifCond .ne 5, 3) := by decide +kernel
theorem dX9_stage_8 : decode cX9_stage 8 = .ok (.iconst (-1), 1) := by decide +kernel
theorem dX9_stage_9 : decode cX9_stage 9 = .ok (.ireturn, 1) := by decide +kernel
theorem dX9_stage_10 : decode cX9_stage 10 = .ok (.iload_n 2, 1) := by decide +kernel
theorem dX9_stage_11 : decode cX9_stage 11 = .ok (.i2l, 1) := by decide +kernel
theorem dX9_stage_12 : decode cX9_stage 12 = .ok (.lconst 1, 1) := by decide +kernel
theorem dX9_stage_13 : decode cX9_stage 13 = .ok (.ldc2_w 127, 3) := by decide +kernel
theorem dX9_stage_16 : decode cX9_stage 16 = .ok (.invokestatic 115, 3) := by decide +kernel
theorem dX9_stage_19 : decode cX9_stage 19 = .ok (.ifCond .eq 28, 3) := by decide +kernel
theorem dX9_stage_22 : decode cX9_stage 22 = .ok (.iload_n 3, 1) := by decide +kernel
theorem dX9_stage_23 : decode cX9_stage 23 = .ok (.i2l, 1) := by decide +kernel
theorem dX9_stage_24 : decode cX9_stage 24 = .ok (.lconst 0, 1) := by decide +kernel
theorem dX9_stage_25 : decode cX9_stage 25 = .ok (.ldc2_w 129, 3) := by decide +kernel
theorem dX9_stage_28 : decode cX9_stage 28 = .ok (.invokestatic 115, 3) := by decide +kernel
theorem dX9_stage_31 : decode cX9_stage 31 = .ok (.ifCond .eq 16, 3) := by decide +kernel
theorem dX9_stage_34 : decode cX9_stage 34 = .ok (.iload 4, 2) := by decide +kernel
theorem dX9_stage_36 : decode cX9_stage 36 = .ok (.i2l, 1) := by decide +kernel
theorem dX9_stage_37 : decode cX9_stage 37 = .ok (.lconst 0, 1) := by decide +kernel
theorem dX9_stage_38 : decode cX9_stage 38 = .ok (.ldc2_w 119, 3) := by decide +kernel
theorem dX9_stage_41 : decode cX9_stage 41 = .ok (.invokestatic 115, 3) := by decide +kernel
theorem dX9_stage_44 : decode cX9_stage 44 = .ok (.ifCond .ne 6, 3) := by decide +kernel
theorem dX9_stage_47 : decode cX9_stage 47 = .ok (.bipush (-2), 2) := by decide +kernel
theorem dX9_stage_49 : decode cX9_stage 49 = .ok (.ireturn, 1) := by decide +kernel
theorem dX9_stage_50 : decode cX9_stage 50 = .ok (.aload_n 0, 1) := by decide +kernel
theorem dX9_stage_51 : decode cX9_stage 51 = .ok (.getfield 110, 3) := by decide +kernel
theorem dX9_stage_54 : decode cX9_stage 54 = .ok (.iconst 4, 1) := by decide +kernel
theorem dX9_stage_55 : decode cX9_stage 55 = .ok (.if_icmp .ne 6, 3) := by decide +kernel
theorem dX9_stage_58 : decode cX9_stage 58 = .ok (.bipush (-4), 2) := by decide +kernel
theorem dX9_stage_60 : decode cX9_stage 60 = .ok (.ireturn, 1) := by decide +kernel
theorem dX9_stage_61 : decode cX9_stage 61 = .ok (.aload_n 0, 1) := by decide +kernel
theorem dX9_stage_62 : decode cX9_stage 62 = .ok (.getfield 28, 3) := by decide +kernel
theorem dX9_stage_65 : decode cX9_stage 65 = .ok (.aload_n 0, 1) := by decide +kernel
theorem dX9_stage_66 : decode cX9_stage 66 = .ok (.getfield 110, 3) := by decide +kernel
theorem dX9_stage_69 : decode cX9_stage 69 = .ok (.iload_n 1, 1) := by decide +kernel
theorem dX9_stage_70 : decode cX9_stage 70 = .ok (.iastore, 1) := by decide +kernel
theorem dX9_stage_71 : decode cX9_stage 71 = .ok (.aload_n 0, 1) := by decide +kernel
theorem dX9_stage_72 : decode cX9_stage 72 = .ok (.getfield 31, 3) := by decide +kernel
theorem dX9_stage_75 : decode cX9_stage 75 = .ok (.aload_n 0, 1) := by decide +kernel
theorem dX9_stage_76 : decode cX9_stage 76 = .ok (.getfield 110, 3) := by decide +kernel
theorem dX9_stage_79 : decode cX9_stage 79 = .ok (.iload_n 2, 1) := by decide +kernel
theorem dX9_stage_80 : decode cX9_stage 80 = .ok (.iastore, 1) := by decide +kernel
theorem dX9_stage_81 : decode cX9_stage 81 = .ok (.aload_n 0, 1) := by decide +kernel
theorem dX9_stage_82 : decode cX9_stage 82 = .ok (.getfield 34, 3) := by decide +kernel
theorem dX9_stage_85 : decode cX9_stage 85 = .ok (.aload_n 0, 1) := by decide +kernel
theorem dX9_stage_86 : decode cX9_stage 86 = .ok (.getfield 110, 3) := by decide +kernel
theorem dX9_stage_89 : decode cX9_stage 89 = .ok (.iload_n 3, 1) := by decide +kernel
theorem dX9_stage_90 : decode cX9_stage 90 = .ok (.iastore, 1) := by decide +kernel
theorem dX9_stage_91 : decode cX9_stage 91 = .ok (.aload_n 0, 1) := by decide +kernel
theorem dX9_stage_92 : decode cX9_stage 92 = .ok (.getfield 37, 3) := by decide +kernel
theorem dX9_stage_95 : decode cX9_stage 95 = .ok (.aload_n 0, 1) := by decide +kernel
theorem dX9_stage_96 : decode cX9_stage 96 = .ok (.getfield 110, 3) := by decide +kernel
theorem dX9_stage_99 : decode cX9_stage 99 = .ok (.iload 4, 2) := by decide +kernel
theorem dX9_stage_101 : decode cX9_stage 101 = .ok (.iastore, 1) := by decide +kernel
theorem dX9_stage_102 : decode cX9_stage 102 = .ok (.aload_n 0, 1) := by decide +kernel
theorem dX9_stage_103 : decode cX9_stage 103 = .ok (.dup, 1) := by decide +kernel
theorem dX9_stage_104 : decode cX9_stage 104 = .ok (.getfield 110, 3) := by decide +kernel
theorem dX9_stage_107 : decode cX9_stage 107 = .ok (.iconst 1, 1) := by decide +kernel
theorem dX9_stage_108 : decode cX9_stage 108 = .ok (.iadd, 1) := by decide +kernel
theorem dX9_stage_109 : decode cX9_stage 109 = .ok (.putfield 110, 3) := by decide +kernel
theorem dX9_stage_112 : decode cX9_stage 112 = .ok (.aload_n 0, 1) := by decide +kernel
theorem dX9_stage_113 : decode cX9_stage 113 = .ok (.getfield 110, 3) := by decide +kernel
theorem dX9_stage_116 : decode cX9_stage 116 = .ok (.ireturn, 1) := by decide +kernel
theorem dX9_undo_0 : decode cX9_undo 0 = .ok (.aload_n 0, 1) := by decide +kernel
theorem dX9_undo_1 : decode cX9_undo 1 = .ok (.getfield 110, 3) := by decide +kernel
theorem dX9_undo_4 : decode cX9_undo 4 = .ok (.ifCond .ne 6, 3) := by decide +kernel
theorem dX9_undo_7 : decode cX9_undo 7 = .ok (.bipush (-3), 2) := by decide +kernel
theorem dX9_undo_9 : decode cX9_undo 9 = .ok (.ireturn, 1) := by decide +kernel
theorem dX9_undo_10 : decode cX9_undo 10 = .ok (.aload_n 0, 1) := by decide +kernel
theorem dX9_undo_11 : decode cX9_undo 11 = .ok (.dup, 1) := by decide +kernel
theorem dX9_undo_12 : decode cX9_undo 12 = .ok (.getfield 110, 3) := by decide +kernel
theorem dX9_undo_15 : decode cX9_undo 15 = .ok (.iconst 1, 1) := by decide +kernel
theorem dX9_undo_16 : decode cX9_undo 16 = .ok (.isub, 1) := by decide +kernel
theorem dX9_undo_17 : decode cX9_undo 17 = .ok (.putfield 110, 3) := by decide +kernel
theorem dX9_undo_20 : decode cX9_undo 20 = .ok (.aload_n 0, 1) := by decide +kernel
theorem dX9_undo_21 : decode cX9_undo 21 = .ok (.getfield 110, 3) := by decide +kernel
theorem dX9_undo_24 : decode cX9_undo 24 = .ok (.ireturn, 1) := by decide +kernel
theorem dX9_stuff_0 : decode cX9_stuff 0 = .ok (.aload_n 0, 1) := by decide +kernel
theorem dX9_stuff_1 : decode cX9_stuff 1 = .ok (.iload_n 1, 1) := by decide +kernel
theorem dX9_stuff_2 : decode cX9_stuff 2 = .ok (.invokevirtual 131, 3) := by decide +kernel
theorem dX9_stuff_5 : decode cX9_stuff 5 = .ok (.ifCond .ne 5, 3) := by decide +kernel
theorem dX9_stuff_8 : decode cX9_stuff 8 = .ok (.iconst (-1), 1) := by decide +kernel
theorem dX9_stuff_9 : decode cX9_stuff 9 = .ok (.ireturn, 1) := by decide +kernel
theorem dX9_stuff_10 : decode cX9_stuff 10 = .ok (.iload_n 2, 1) := by decide +kernel
theorem dX9_stuff_11 : decode cX9_stuff 11 = .ok (.i2l, 1) := by decide +kernel
theorem dX9_stuff_12 : decode cX9_stuff 12 = .ok (.lconst 0, 1) := by decide +kernel
theorem dX9_stuff_13 : decode cX9_stuff 13 = .ok (.ldc2_w 129, 3) := by decide +kernel
theorem dX9_stuff_16 : decode cX9_stuff 16 = .ok (.invokestatic 115, 3) := by decide +kernel
theorem dX9_stuff_19 : decode cX9_stuff 19 = .ok (.ifCond .ne 6, 3) := by decide +kernel
theorem dX9_stuff_22 : decode cX9_stuff 22 = .ok (.bipush (-2), 2) := by decide +kernel
theorem dX9_stuff_24 : decode cX9_stuff 24 = .ok (.ireturn, 1) := by decide +kernel
theorem dX9_stuff_25 : decode cX9_stuff 25 = .ok (.aload_n 0, 1) := by decide +kernel
theorem dX9_stuff_26 : decode cX9_stuff 26 = .ok (.getfield 34, 3) := by decide +kernel
theorem dX9_stuff_29 : decode cX9_stuff 29 = .ok (.iload_n 1, 1) := by decide +kernel
theorem dX9_stuff_30 : decode cX9_stuff 30 = .ok (.iaload, 1) := by decide +kernel
theorem dX9_stuff_31 : decode cX9_stuff 31 = .ok (.istore_n 3, 1) := by decide +kernel
theorem dX9_stuff_32 : decode cX9_stuff 32 = .ok (.aload_n 0, 1) := by decide +kernel
theorem dX9_stuff_33 : decode cX9_stuff 33 = .ok (.getfield 34, 3) := by decide +kernel
theorem dX9_stuff_36 : decode cX9_stuff 36 = .ok (.iload_n 1, 1) := by decide +kernel
theorem dX9_stuff_37 : decode cX9_stuff 37 = .ok (.iload_n 2, 1) := by decide +kernel
theorem dX9_stuff_38 : decode cX9_stuff 38 = .ok (.iastore, 1) := by decide +kernel
theorem dX9_stuff_39 : decode cX9_stuff 39 = .ok (.iload_n 3, 1) := by decide +kernel
theorem dX9_stuff_40 : decode cX9_stuff 40 = .ok (.ireturn, 1) := by decide +kernel
theorem dX9_set_0 : decode cX9_set 0 = .ok (.iload_n 1, 1) := by decide +kernel
theorem dX9_set_1 : decode cX9_set 1 = .ok (.i2l, 1) := by decide +kernel
theorem dX9_set_2 : decode cX9_set 2 = .ok (.lconst 0, 1) := by decide +kernel
theorem dX9_set_3 : decode cX9_set 3 = .ok (.ldc2_w 134, 3) := by decide +kernel
theorem dX9_set_6 : decode cX9_set 6 = .ok (.invokestatic 115, 3) := by decide +kernel
theorem dX9_set_9 : decode cX9_set 9 = .ok (.ifCond .ne 5, 3) := by decide +kernel
theorem dX9_set_12 : decode cX9_set 12 = .ok (.iconst (-1), 1) := by decide +kernel
theorem dX9_set_13 : decode cX9_set 13 = .ok (.ireturn, 1) := by decide +kernel
theorem dX9_set_14 : decode cX9_set 14 = .ok (.iload_n 1, 1) := by decide +kernel
theorem dX9_set_15 : decode cX9_set 15 = .ok (.ifCond .ne 18, 3) := by decide +kernel
theorem dX9_set_18 : decode cX9_set 18 = .ok (.iload_n 2, 1) := by decide +kernel
theorem dX9_set_19 : decode cX9_set 19 = .ok (.i2l, 1) := by decide +kernel
theorem dX9_set_20 : decode cX9_set 20 = .ok (.lconst 0, 1) := by decide +kernel
theorem dX9_set_21 : decode cX9_set 21 = .ok (.ldc2_w 113, 3) := by decide +kernel
theorem dX9_set_24 : decode cX9_set 24 = .ok (.invokestatic 115, 3) := by decide +kernel
theorem dX9_set_27 : decode cX9_set 27 = .ok (.ifCond .ne 43, 3) := by decide +kernel
theorem dX9_set_30 : decode cX9_set 30 = .ok (.goto 37, 3) := by decide +kernel
theorem dX9_set_33 : decode cX9_set 33 = .ok (.iload_n 1, 1) := by decide +kernel
theorem dX9_set_34 : decode cX9_set 34 = .ok (.iconst 1, 1) := by decide +kernel
theorem dX9_set_35 : decode cX9_set 35 = .ok (.if_icmp .ne 18, 3) := by decide +kernel
theorem dX9_set_38 : decode cX9_set 38 = .ok (.iload_n 2, 1) := by decide +kernel
theorem dX9_set_39 : decode cX9_set 39 = .ok (.i2l, 1) := by decide +kernel
theorem dX9_set_40 : decode cX9_set 40 = .ok (.lconst 1, 1) := by decide +kernel
theorem dX9_set_41 : decode cX9_set 41 = .ok (.ldc2_w 136, 3) := by decide +kernel
theorem dX9_set_44 : decode cX9_set 44 = .ok (.invokestatic 115, 3) := by decide +kernel
theorem dX9_set_47 : decode cX9_set 47 = .ok (.ifCond .ne 23, 3) := by decide +kernel
theorem dX9_set_50 : decode cX9_set 50 = .ok (.goto 17, 3) := by decide +kernel
theorem dX9_set_53 : decode cX9_set 53 = .ok (.iload_n 2, 1) := by decide +kernel
theorem dX9_set_54 : decode cX9_set 54 = .ok (.i2l, 1) := by decide +kernel
theorem dX9_set_55 : decode cX9_set 55 = .ok (.ldc2_w 136, 3) := by decide +kernel
theorem dX9_set_58 : decode cX9_set 58 = .ok (.ldc2_w 138, 3) := by decide +kernel
theorem dX9_set_61 : decode cX9_set 61 = .ok (.invokestatic 115, 3) := by decide +kernel
theorem dX9_set_64 : decode cX9_set 64 = .ok (.ifCond .ne 6, 3) := by decide +kernel
theorem dX9_set_67 : decode cX9_set 67 = .ok (.bipush (-2), 2) := by decide +kernel
theorem dX9_set_69 : decode cX9_set 69 = .ok (.ireturn, 1) := by decide +kernel
theorem dX9_set_70 : decode cX9_set 70 = .ok (.iload_n 1, 1) := by decide +kernel
theorem dX9_set_71 : decode cX9_set 71 = .ok (.ifCond .ne 10, 3) := by decide +kernel
theorem dX9_set_74 : decode cX9_set 74 = .ok (.aload_n 0, 1) := by decide +kernel
theorem dX9_set_75 : decode cX9_set 75 = .ok (.getfield 46, 3) := by decide +kernel
theorem dX9_set_78 : decode cX9_set 78 = .ok (.goto 19, 3) := by decide +kernel
theorem dX9_set_81 : decode cX9_set 81 = .ok (.iload_n 1, 1) := by decide +kernel
theorem dX9_set_82 : decode cX9_set 82 = .ok (.iconst 1, 1) := by decide +kernel
theorem dX9_set_83 : decode cX9_set 83 = .ok (.if_icmp .ne 10, 3) := by decide +kernel
theorem dX9_set_86 : decode cX9_set 86 = .ok (.aload_n 0, 1) := by decide +kernel
theorem dX9_set_87 : decode cX9_set 87 = .ok (.getfield 50, 3) := by decide +kernel
theorem dX9_set_90 : decode cX9_set 90 = .ok (.goto 7, 3) := by decide +kernel
theorem dX9_set_93 : decode cX9_set 93 = .ok (.aload_n 0, 1) := by decide +kernel
theorem dX9_set_94 : decode cX9_set 94 = .ok (.getfield 53, 3) := by decide +kernel
theorem dX9_set_97 : decode cX9_set 97 = .ok (.istore_n 3, 1) := by decide +kernel
theorem dX9_set_98 : decode cX9_set 98 = .ok (.iload_n 1, 1) := by decide +kernel
theorem dX9_set_99 : decode cX9_set 99 = .ok (.ifCond .ne 11, 3) := by decide +kernel
theorem dX9_set_102 : decode cX9_set 102 = .ok (.aload_n 0, 1) := by decide +kernel
theorem dX9_set_103 : decode cX9_set 103 = .ok (.iload_n 2, 1) := by decide +kernel
theorem dX9_set_104 : decode cX9_set 104 = .ok (.putfield 46, 3) := by decide +kernel
theorem dX9_set_107 : decode cX9_set 107 = .ok (.goto 21, 3) := by decide +kernel
theorem dX9_set_110 : decode cX9_set 110 = .ok (.iload_n 1, 1) := by decide +kernel
theorem dX9_set_111 : decode cX9_set 111 = .ok (.iconst 1, 1) := by decide +kernel
theorem dX9_set_112 : decode cX9_set 112 = .ok (.if_icmp .ne 11, 3) := by decide +kernel
theorem dX9_set_115 : decode cX9_set 115 = .ok (.aload_n 0, 1) := by decide +kernel
theorem dX9_set_116 : decode cX9_set 116 = .ok (.iload_n 2, 1) := by decide +kernel
theorem dX9_set_117 : decode cX9_set 117 = .ok (.putfield 50, 3) := by decide +kernel
theorem dX9_set_120 : decode cX9_set 120 = .ok (.goto 8, 3) := by decide +kernel
theorem dX9_set_123 : decode cX9_set 123 = .ok (.aload_n 0, 1) := by decide +kernel
theorem dX9_set_124 : decode cX9_set 124 = .ok (.iload_n 2, 1) := by decide +kernel
theorem dX9_set_125 : decode cX9_set 125 = .ok (.putfield 53, 3) := by decide +kernel
theorem dX9_set_128 : decode cX9_set 128 = .ok (.iload_n 3, 1) := by decide +kernel
theorem dX9_set_129 : decode cX9_set 129 = .ok (.ireturn, 1) := by decide +kernel
theorem dX9_tank_0 : decode cX9_tank 0 = .ok (.iload_n 1, 1) := by decide +kernel
theorem dX9_tank_1 : decode cX9_tank 1 = .ok (.aload_n 0, 1) := by decide +kernel
theorem dX9_tank_2 : decode cX9_tank 2 = .ok (.getfield 50, 3) := by decide +kernel
theorem dX9_tank_5 : decode cX9_tank 5 = .ok (.imul, 1) := by decide +kernel
theorem dX9_tank_6 : decode cX9_tank 6 = .ok (.bipush 99, 2) := by decide +kernel
theorem dX9_tank_8 : decode cX9_tank 8 = .ok (.iadd, 1) := by decide +kernel
theorem dX9_tank_9 : decode cX9_tank 9 = .ok (.bipush 100, 2) := by decide +kernel
theorem dX9_tank_11 : decode cX9_tank 11 = .ok (.idiv, 1) := by decide +kernel
theorem dX9_tank_12 : decode cX9_tank 12 = .ok (.ireturn, 1) := by decide +kernel
theorem dX9_dry_0 : decode cX9_dry 0 = .ok (.aload_n 0, 1) := by decide +kernel
theorem dX9_dry_1 : decode cX9_dry 1 = .ok (.getfield 16, 3) := by decide +kernel
theorem dX9_dry_4 : decode cX9_dry 4 = .ok (.aload_n 0, 1) := by decide +kernel
theorem dX9_dry_5 : decode cX9_dry 5 = .ok (.getfield 28, 3) := by decide +kernel
theorem dX9_dry_8 : decode cX9_dry 8 = .ok (.iload_n 1, 1) := by decide +kernel
theorem dX9_dry_9 : decode cX9_dry 9 = .ok (.iaload, 1) := by decide +kernel
theorem dX9_dry_10 : decode cX9_dry 10 = .ok (.iaload, 1) := by decide +kernel
theorem dX9_dry_11 : decode cX9_dry 11 = .ok (.aload_n 0, 1) := by decide +kernel
theorem dX9_dry_12 : decode cX9_dry 12 = .ok (.getfield 31, 3) := by decide +kernel
theorem dX9_dry_15 : decode cX9_dry 15 = .ok (.iload_n 1, 1) := by decide +kernel
theorem dX9_dry_16 : decode cX9_dry 16 = .ok (.iaload, 1) := by decide +kernel
theorem dX9_dry_17 : decode cX9_dry 17 = .ok (.imul, 1) := by decide +kernel
theorem dX9_dry_18 : decode cX9_dry 18 = .ok (.aload_n 0, 1) := by decide +kernel
theorem dX9_dry_19 : decode cX9_dry 19 = .ok (.aload_n 0, 1) := by decide +kernel
theorem dX9_dry_20 : decode cX9_dry 20 = .ok (.getfield 34, 3) := by decide +kernel
theorem dX9_dry_23 : decode cX9_dry 23 = .ok (.iload_n 1, 1) := by decide +kernel
theorem dX9_dry_24 : decode cX9_dry 24 = .ok (.iaload, 1) := by decide +kernel
theorem dX9_dry_25 : decode cX9_dry 25 = .ok (.invokevirtual 140, 3) := by decide +kernel
theorem dX9_dry_28 : decode cX9_dry 28 = .ok (.iadd, 1) := by decide +kernel
theorem dX9_dry_29 : decode cX9_dry 29 = .ok (.aload_n 0, 1) := by decide +kernel
theorem dX9_dry_30 : decode cX9_dry 30 = .ok (.getfield 37, 3) := by decide +kernel
theorem dX9_dry_33 : decode cX9_dry 33 = .ok (.iload_n 1, 1) := by decide +kernel
theorem dX9_dry_34 : decode cX9_dry 34 = .ok (.iaload, 1) := by decide +kernel
theorem dX9_dry_35 : decode cX9_dry 35 = .ok (.iadd, 1) := by decide +kernel
theorem dX9_dry_36 : decode cX9_dry 36 = .ok (.ireturn, 1) := by decide +kernel
theorem dX9_above_0 : decode cX9_above 0 = .ok (.aload_n 0, 1) := by decide +kernel
theorem dX9_above_1 : decode cX9_above 1 = .ok (.getfield 46, 3) := by decide +kernel
theorem dX9_above_4 : decode cX9_above 4 = .ok (.istore_n 2, 1) := by decide +kernel
theorem dX9_above_5 : decode cX9_above 5 = .ok (.iload_n 1, 1) := by decide +kernel
theorem dX9_above_6 : decode cX9_above 6 = .ok (.iconst 1, 1) := by decide +kernel
theorem dX9_above_7 : decode cX9_above 7 = .ok (.iadd, 1) := by decide +kernel
theorem dX9_above_8 : decode cX9_above 8 = .ok (.istore_n 3, 1) := by decide +kernel
theorem dX9_above_9 : decode cX9_above 9 = .ok (.iload_n 3, 1) := by decide +kernel
theorem dX9_above_10 : decode cX9_above 10 = .ok (.aload_n 0, 1) := by decide +kernel
theorem dX9_above_11 : decode cX9_above 11 = .ok (.getfield 110, 3) := by decide +kernel
theorem dX9_above_14 : decode cX9_above 14 = .ok (.if_icmp .ge 24, 3) := by decide +kernel
theorem dX9_above_17 : decode cX9_above 17 = .ok (.iload_n 2, 1) := by decide +kernel
theorem dX9_above_18 : decode cX9_above 18 = .ok (.aload_n 0, 1) := by decide +kernel
theorem dX9_above_19 : decode cX9_above 19 = .ok (.iload_n 3, 1) := by decide +kernel
theorem dX9_above_20 : decode cX9_above 20 = .ok (.invokevirtual 144, 3) := by decide +kernel
theorem dX9_above_23 : decode cX9_above 23 = .ok (.aload_n 0, 1) := by decide +kernel
theorem dX9_above_24 : decode cX9_above 24 = .ok (.getfield 34, 3) := by decide +kernel
theorem dX9_above_27 : decode cX9_above 27 = .ok (.iload_n 3, 1) := by decide +kernel
theorem dX9_above_28 : decode cX9_above 28 = .ok (.iaload, 1) := by decide +kernel
theorem dX9_above_29 : decode cX9_above 29 = .ok (.iadd, 1) := by decide +kernel
theorem dX9_above_30 : decode cX9_above 30 = .ok (.iadd, 1) := by decide +kernel
theorem dX9_above_31 : decode cX9_above 31 = .ok (.istore_n 2, 1) := by decide +kernel
theorem dX9_above_32 : decode cX9_above 32 = .ok (.iinc 3 1, 3) := by decide +kernel
theorem dX9_above_35 : decode cX9_above 35 = .ok (.goto (-26), 3) := by decide +kernel
theorem dX9_above_38 : decode cX9_above 38 = .ok (.iload_n 2, 1) := by decide +kernel
theorem dX9_above_39 : decode cX9_above 39 = .ok (.ireturn, 1) := by decide +kernel
theorem dX9_low_0 : decode cX9_low 0 = .ok (.lconst 0, 1) := by decide +kernel
theorem dX9_low_1 : decode cX9_low 1 = .ok (.lstore_n 3, 1) := by decide +kernel
theorem dX9_low_2 : decode cX9_low 2 = .ok (.iconst 0, 1) := by decide +kernel
theorem dX9_low_3 : decode cX9_low 3 = .ok (.istore 5, 2) := by decide +kernel
theorem dX9_low_5 : decode cX9_low 5 = .ok (.iload 5, 2) := by decide +kernel
theorem dX9_low_7 : decode cX9_low 7 = .ok (.iload_n 2, 1) := by decide +kernel
theorem dX9_low_8 : decode cX9_low 8 = .ok (.if_icmp .ge 23, 3) := by decide +kernel
theorem dX9_low_11 : decode cX9_low 11 = .ok (.lload_n 3, 1) := by decide +kernel
theorem dX9_low_12 : decode cX9_low 12 = .ok (.iload_n 0, 1) := by decide +kernel
theorem dX9_low_13 : decode cX9_low 13 = .ok (.sipush 1000, 3) := by decide +kernel
theorem dX9_low_16 : decode cX9_low 16 = .ok (.imul, 1) := by decide +kernel
theorem dX9_low_17 : decode cX9_low 17 = .ok (.iload_n 1, 1) := by decide +kernel
theorem dX9_low_18 : decode cX9_low 18 = .ok (.iload 5, 2) := by decide +kernel
theorem dX9_low_20 : decode cX9_low 20 = .ok (.isub, 1) := by decide +kernel
theorem dX9_low_21 : decode cX9_low 21 = .ok (.idiv, 1) := by decide +kernel
theorem dX9_low_22 : decode cX9_low 22 = .ok (.i2l, 1) := by decide +kernel
theorem dX9_low_23 : decode cX9_low 23 = .ok (.ladd, 1) := by decide +kernel
theorem dX9_low_24 : decode cX9_low 24 = .ok (.lstore_n 3, 1) := by decide +kernel
theorem dX9_low_25 : decode cX9_low 25 = .ok (.iinc 5 1, 3) := by decide +kernel
theorem dX9_low_28 : decode cX9_low 28 = .ok (.goto (-23), 3) := by decide +kernel
theorem dX9_low_31 : decode cX9_low 31 = .ok (.lload_n 3, 1) := by decide +kernel
theorem dX9_low_32 : decode cX9_low 32 = .ok (.lreturn, 1) := by decide +kernel
theorem dX9_high_0 : decode cX9_high 0 = .ok (.lconst 0, 1) := by decide +kernel
theorem dX9_high_1 : decode cX9_high 1 = .ok (.lstore_n 3, 1) := by decide +kernel
theorem dX9_high_2 : decode cX9_high 2 = .ok (.iconst 0, 1) := by decide +kernel
theorem dX9_high_3 : decode cX9_high 3 = .ok (.istore 5, 2) := by decide +kernel
theorem dX9_high_5 : decode cX9_high 5 = .ok (.iload 5, 2) := by decide +kernel
theorem dX9_high_7 : decode cX9_high 7 = .ok (.iload_n 2, 1) := by decide +kernel
theorem dX9_high_8 : decode cX9_high 8 = .ok (.if_icmp .ge 32, 3) := by decide +kernel
theorem dX9_high_11 : decode cX9_high 11 = .ok (.lload_n 3, 1) := by decide +kernel
theorem dX9_high_12 : decode cX9_high 12 = .ok (.iload_n 0, 1) := by decide +kernel
theorem dX9_high_13 : decode cX9_high 13 = .ok (.sipush 1000, 3) := by decide +kernel
theorem dX9_high_16 : decode cX9_high 16 = .ok (.imul, 1) := by decide +kernel
theorem dX9_high_17 : decode cX9_high 17 = .ok (.iload_n 1, 1) := by decide +kernel
theorem dX9_high_18 : decode cX9_high 18 = .ok (.iadd, 1) := by decide +kernel
theorem dX9_high_19 : decode cX9_high 19 = .ok (.iload 5, 2) := by decide +kernel
theorem dX9_high_21 : decode cX9_high 21 = .ok (.isub, 1) := by decide +kernel
theorem dX9_high_22 : decode cX9_high 22 = .ok (.iconst 2, 1) := by decide +kernel
theorem dX9_high_23 : decode cX9_high 23 = .ok (.isub, 1) := by decide +kernel
theorem dX9_high_24 : decode cX9_high 24 = .ok (.iload_n 1, 1) := by decide +kernel
theorem dX9_high_25 : decode cX9_high 25 = .ok (.iload 5, 2) := by decide +kernel
theorem dX9_high_27 : decode cX9_high 27 = .ok (.isub, 1) := by decide +kernel
theorem dX9_high_28 : decode cX9_high 28 = .ok (.iconst 1, 1) := by decide +kernel
theorem dX9_high_29 : decode cX9_high 29 = .ok (.isub, 1) := by decide +kernel
theorem dX9_high_30 : decode cX9_high 30 = .ok (.idiv, 1) := by decide +kernel
theorem dX9_high_31 : decode cX9_high 31 = .ok (.i2l, 1) := by decide +kernel
theorem dX9_high_32 : decode cX9_high 32 = .ok (.ladd, 1) := by decide +kernel
theorem dX9_high_33 : decode cX9_high 33 = .ok (.lstore_n 3, 1) := by decide +kernel
theorem dX9_high_34 : decode cX9_high 34 = .ok (.iinc 5 1, 3) := by decide +kernel
theorem dX9_high_37 : decode cX9_high 37 = .ok (.goto (-32), 3) := by decide +kernel
theorem dX9_high_40 : decode cX9_high 40 = .ok (.lload_n 3, 1) := by decide +kernel
theorem dX9_high_41 : decode cX9_high 41 = .ok (.lreturn, 1) := by decide +kernel
theorem dX9_ahead_0 : decode cX9_ahead 0 = .ok (.aload_n 0, 1) := by decide +kernel
theorem dX9_ahead_1 : decode cX9_ahead 1 = .ok (.iload_n 1, 1) := by decide +kernel
theorem dX9_ahead_2 : decode cX9_ahead 2 = .ok (.invokevirtual 147, 3) := by decide +kernel
theorem dX9_ahead_5 : decode cX9_ahead 5 = .ok (.aload_n 0, 1) := by decide +kernel
theorem dX9_ahead_6 : decode cX9_ahead 6 = .ok (.iload_n 1, 1) := by decide +kernel
theorem dX9_ahead_7 : decode cX9_ahead 7 = .ok (.invokevirtual 144, 3) := by decide +kernel
theorem dX9_ahead_10 : decode cX9_ahead 10 = .ok (.iadd, 1) := by decide +kernel
theorem dX9_ahead_11 : decode cX9_ahead 11 = .ok (.aload_n 0, 1) := by decide +kernel
theorem dX9_ahead_12 : decode cX9_ahead 12 = .ok (.getfield 34, 3) := by decide +kernel
theorem dX9_ahead_15 : decode cX9_ahead 15 = .ok (.iload_n 1, 1) := by decide +kernel
theorem dX9_ahead_16 : decode cX9_ahead 16 = .ok (.iaload, 1) := by decide +kernel
theorem dX9_ahead_17 : decode cX9_ahead 17 = .ok (.iadd, 1) := by decide +kernel
theorem dX9_ahead_18 : decode cX9_ahead 18 = .ok (.ireturn, 1) := by decide +kernel
theorem dX9_speedOf_0 : decode cX9_speedOf 0 = .ok (.iload_n 2, 1) := by decide +kernel
theorem dX9_speedOf_1 : decode cX9_speedOf 1 = .ok (.ifCond .ne 31, 3) := by decide +kernel
theorem dX9_speedOf_4 : decode cX9_speedOf 4 = .ok (.aload_n 0, 1) := by decide +kernel
theorem dX9_speedOf_5 : decode cX9_speedOf 5 = .ok (.getfield 13, 3) := by decide +kernel
theorem dX9_speedOf_8 : decode cX9_speedOf 8 = .ok (.aload_n 0, 1) := by decide +kernel
theorem dX9_speedOf_9 : decode cX9_speedOf 9 = .ok (.getfield 28, 3) := by decide +kernel
theorem dX9_speedOf_12 : decode cX9_speedOf 12 = .ok (.iload_n 1, 1) := by decide +kernel
theorem dX9_speedOf_13 : decode cX9_speedOf 13 = .ok (.iaload, 1) := by decide +kernel
theorem dX9_speedOf_14 : decode cX9_speedOf 14 = .ok (.iaload, 1) := by decide +kernel
theorem dX9_speedOf_15 : decode cX9_speedOf 15 = .ok (.aload_n 0, 1) := by decide +kernel
theorem dX9_speedOf_16 : decode cX9_speedOf 16 = .ok (.iload_n 1, 1) := by decide +kernel
theorem dX9_speedOf_17 : decode cX9_speedOf 17 = .ok (.invokevirtual 150, 3) := by decide +kernel
theorem dX9_speedOf_20 : decode cX9_speedOf 20 = .ok (.aload_n 0, 1) := by decide +kernel
theorem dX9_speedOf_21 : decode cX9_speedOf 21 = .ok (.getfield 34, 3) := by decide +kernel
theorem dX9_speedOf_24 : decode cX9_speedOf 24 = .ok (.iload_n 1, 1) := by decide +kernel
theorem dX9_speedOf_25 : decode cX9_speedOf 25 = .ok (.iaload, 1) := by decide +kernel
theorem dX9_speedOf_26 : decode cX9_speedOf 26 = .ok (.invokestatic 153, 3) := by decide +kernel
theorem dX9_speedOf_29 : decode cX9_speedOf 29 = .ok (.goto 28, 3) := by decide +kernel
theorem dX9_speedOf_32 : decode cX9_speedOf 32 = .ok (.aload_n 0, 1) := by decide +kernel
theorem dX9_speedOf_33 : decode cX9_speedOf 33 = .ok (.getfield 13, 3) := by decide +kernel
theorem dX9_speedOf_36 : decode cX9_speedOf 36 = .ok (.aload_n 0, 1) := by decide +kernel
theorem dX9_speedOf_37 : decode cX9_speedOf 37 = .ok (.getfield 28, 3) := by decide +kernel
theorem dX9_speedOf_40 : decode cX9_speedOf 40 = .ok (.iload_n 1, 1) := by decide +kernel
theorem dX9_speedOf_41 : decode cX9_speedOf 41 = .ok (.iaload, 1) := by decide +kernel
theorem dX9_speedOf_42 : decode cX9_speedOf 42 = .ok (.iaload, 1) := by decide +kernel
theorem dX9_speedOf_43 : decode cX9_speedOf 43 = .ok (.aload_n 0, 1) := by decide +kernel
theorem dX9_speedOf_44 : decode cX9_speedOf 44 = .ok (.iload_n 1, 1) := by decide +kernel
theorem dX9_speedOf_45 : decode cX9_speedOf 45 = .ok (.invokevirtual 150, 3) := by decide +kernel
theorem dX9_speedOf_48 : decode cX9_speedOf 48 = .ok (.aload_n 0, 1) := by decide +kernel
theorem dX9_speedOf_49 : decode cX9_speedOf 49 = .ok (.getfield 34, 3) := by decide +kernel
theorem dX9_speedOf_52 : decode cX9_speedOf 52 = .ok (.iload_n 1, 1) := by decide +kernel
theorem dX9_speedOf_53 : decode cX9_speedOf 53 = .ok (.iaload, 1) := by decide +kernel
theorem dX9_speedOf_54 : decode cX9_speedOf 54 = .ok (.invokestatic 157, 3) := by decide +kernel
theorem dX9_speedOf_57 : decode cX9_speedOf 57 = .ok (.lreturn, 1) := by decide +kernel
theorem dX9_about_0 : decode cX9_about 0 = .ok (.aload_n 0, 1) := by decide +kernel
theorem dX9_about_1 : decode cX9_about 1 = .ok (.iload_n 1, 1) := by decide +kernel
theorem dX9_about_2 : decode cX9_about 2 = .ok (.invokevirtual 131, 3) := by decide +kernel
theorem dX9_about_5 : decode cX9_about 5 = .ok (.ifCond .ne 5, 3) := by decide +kernel
theorem dX9_about_8 : decode cX9_about 8 = .ok (.iconst (-1), 1) := by decide +kernel
theorem dX9_about_9 : decode cX9_about 9 = .ok (.ireturn, 1) := by decide +kernel
theorem dX9_about_10 : decode cX9_about 10 = .ok (.iload_n 2, 1) := by decide +kernel
theorem dX9_about_11 : decode cX9_about 11 = .ok (.tableswitch 133 0 8 #[49, 56, 63, 70, 77, 83, 89, 97, 105], 49) := by decide +kernel
theorem dX9_about_60 : decode cX9_about 60 = .ok (.aload_n 0, 1) := by decide +kernel
theorem dX9_about_61 : decode cX9_about 61 = .ok (.getfield 28, 3) := by decide +kernel
theorem dX9_about_64 : decode cX9_about 64 = .ok (.iload_n 1, 1) := by decide +kernel
theorem dX9_about_65 : decode cX9_about 65 = .ok (.iaload, 1) := by decide +kernel
theorem dX9_about_66 : decode cX9_about 66 = .ok (.ireturn, 1) := by decide +kernel
theorem dX9_about_67 : decode cX9_about 67 = .ok (.aload_n 0, 1) := by decide +kernel
theorem dX9_about_68 : decode cX9_about 68 = .ok (.getfield 31, 3) := by decide +kernel
theorem dX9_about_71 : decode cX9_about 71 = .ok (.iload_n 1, 1) := by decide +kernel
theorem dX9_about_72 : decode cX9_about 72 = .ok (.iaload, 1) := by decide +kernel
theorem dX9_about_73 : decode cX9_about 73 = .ok (.ireturn, 1) := by decide +kernel
theorem dX9_about_74 : decode cX9_about 74 = .ok (.aload_n 0, 1) := by decide +kernel
theorem dX9_about_75 : decode cX9_about 75 = .ok (.getfield 34, 3) := by decide +kernel
theorem dX9_about_78 : decode cX9_about 78 = .ok (.iload_n 1, 1) := by decide +kernel
theorem dX9_about_79 : decode cX9_about 79 = .ok (.iaload, 1) := by decide +kernel
theorem dX9_about_80 : decode cX9_about 80 = .ok (.ireturn, 1) := by decide +kernel
theorem dX9_about_81 : decode cX9_about 81 = .ok (.aload_n 0, 1) := by decide +kernel
theorem dX9_about_82 : decode cX9_about 82 = .ok (.getfield 37, 3) := by decide +kernel
theorem dX9_about_85 : decode cX9_about 85 = .ok (.iload_n 1, 1) := by decide +kernel
theorem dX9_about_86 : decode cX9_about 86 = .ok (.iaload, 1) := by decide +kernel
theorem dX9_about_87 : decode cX9_about 87 = .ok (.ireturn, 1) := by decide +kernel
theorem dX9_about_88 : decode cX9_about 88 = .ok (.aload_n 0, 1) := by decide +kernel
theorem dX9_about_89 : decode cX9_about 89 = .ok (.iload_n 1, 1) := by decide +kernel
theorem dX9_about_90 : decode cX9_about 90 = .ok (.invokevirtual 144, 3) := by decide +kernel
theorem dX9_about_93 : decode cX9_about 93 = .ok (.ireturn, 1) := by decide +kernel
theorem dX9_about_94 : decode cX9_about 94 = .ok (.aload_n 0, 1) := by decide +kernel
theorem dX9_about_95 : decode cX9_about 95 = .ok (.iload_n 1, 1) := by decide +kernel
theorem dX9_about_96 : decode cX9_about 96 = .ok (.invokevirtual 150, 3) := by decide +kernel
theorem dX9_about_99 : decode cX9_about 99 = .ok (.ireturn, 1) := by decide +kernel
theorem dX9_about_100 : decode cX9_about 100 = .ok (.aload_n 0, 1) := by decide +kernel
theorem dX9_about_101 : decode cX9_about 101 = .ok (.iload_n 1, 1) := by decide +kernel
theorem dX9_about_102 : decode cX9_about 102 = .ok (.iconst 0, 1) := by decide +kernel
theorem dX9_about_103 : decode cX9_about 103 = .ok (.invokevirtual 160, 3) := by decide +kernel
theorem dX9_about_106 : decode cX9_about 106 = .ok (.l2i, 1) := by decide +kernel
theorem dX9_about_107 : decode cX9_about 107 = .ok (.ireturn, 1) := by decide +kernel
theorem dX9_about_108 : decode cX9_about 108 = .ok (.aload_n 0, 1) := by decide +kernel
theorem dX9_about_109 : decode cX9_about 109 = .ok (.iload_n 1, 1) := by decide +kernel
theorem dX9_about_110 : decode cX9_about 110 = .ok (.iconst 1, 1) := by decide +kernel
theorem dX9_about_111 : decode cX9_about 111 = .ok (.invokevirtual 160, 3) := by decide +kernel
theorem dX9_about_114 : decode cX9_about 114 = .ok (.l2i, 1) := by decide +kernel
theorem dX9_about_115 : decode cX9_about 115 = .ok (.ireturn, 1) := by decide +kernel
theorem dX9_about_116 : decode cX9_about 116 = .ok (.bipush 100, 2) := by decide +kernel
theorem dX9_about_118 : decode cX9_about 118 = .ok (.aload_n 0, 1) := by decide +kernel
theorem dX9_about_119 : decode cX9_about 119 = .ok (.getfield 7, 3) := by decide +kernel
theorem dX9_about_122 : decode cX9_about 122 = .ok (.aload_n 0, 1) := by decide +kernel
theorem dX9_about_123 : decode cX9_about 123 = .ok (.getfield 28, 3) := by decide +kernel
theorem dX9_about_126 : decode cX9_about 126 = .ok (.iload_n 1, 1) := by decide +kernel
theorem dX9_about_127 : decode cX9_about 127 = .ok (.iaload, 1) := by decide +kernel
theorem dX9_about_128 : decode cX9_about 128 = .ok (.iaload, 1) := by decide +kernel
theorem dX9_about_129 : decode cX9_about 129 = .ok (.imul, 1) := by decide +kernel
theorem dX9_about_130 : decode cX9_about 130 = .ok (.aload_n 0, 1) := by decide +kernel
theorem dX9_about_131 : decode cX9_about 131 = .ok (.getfield 31, 3) := by decide +kernel
theorem dX9_about_134 : decode cX9_about 134 = .ok (.iload_n 1, 1) := by decide +kernel
theorem dX9_about_135 : decode cX9_about 135 = .ok (.iaload, 1) := by decide +kernel
theorem dX9_about_136 : decode cX9_about 136 = .ok (.imul, 1) := by decide +kernel
theorem dX9_about_137 : decode cX9_about 137 = .ok (.aload_n 0, 1) := by decide +kernel
theorem dX9_about_138 : decode cX9_about 138 = .ok (.iload_n 1, 1) := by decide +kernel
theorem dX9_about_139 : decode cX9_about 139 = .ok (.invokevirtual 150, 3) := by decide +kernel
theorem dX9_about_142 : decode cX9_about 142 = .ok (.idiv, 1) := by decide +kernel
theorem dX9_about_143 : decode cX9_about 143 = .ok (.ireturn, 1) := by decide +kernel
theorem dX9_about_144 : decode cX9_about 144 = .ok (.iconst (-1), 1) := by decide +kernel
theorem dX9_about_145 : decode cX9_about 145 = .ok (.ireturn, 1) := by decide +kernel
theorem dX9_speedOfAll_0 : decode cX9_speedOfAll 0 = .ok (.lconst 0, 1) := by decide +kernel
theorem dX9_speedOfAll_1 : decode cX9_speedOfAll 1 = .ok (.lstore_n 2, 1) := by decide +kernel
theorem dX9_speedOfAll_2 : decode cX9_speedOfAll 2 = .ok (.iconst 0, 1) := by decide +kernel
theorem dX9_speedOfAll_3 : decode cX9_speedOfAll 3 = .ok (.istore 4, 2) := by decide +kernel
theorem dX9_speedOfAll_5 : decode cX9_speedOfAll 5 = .ok (.iload 4, 2) := by decide +kernel
theorem dX9_speedOfAll_7 : decode cX9_speedOfAll 7 = .ok (.aload_n 0, 1) := by decide +kernel
theorem dX9_speedOfAll_8 : decode cX9_speedOfAll 8 = .ok (.getfield 110, 3) := by decide +kernel
theorem dX9_speedOfAll_11 : decode cX9_speedOfAll 11 = .ok (.if_icmp .ge 19, 3) := by decide +kernel
theorem dX9_speedOfAll_14 : decode cX9_speedOfAll 14 = .ok (.lload_n 2, 1) := by decide +kernel
theorem dX9_speedOfAll_15 : decode cX9_speedOfAll 15 = .ok (.aload_n 0, 1) := by decide +kernel
theorem dX9_speedOfAll_16 : decode cX9_speedOfAll 16 = .ok (.iload 4, 2) := by decide +kernel
theorem dX9_speedOfAll_18 : decode cX9_speedOfAll 18 = .ok (.iload_n 1, 1) := by decide +kernel
theorem dX9_speedOfAll_19 : decode cX9_speedOfAll 19 = .ok (.invokevirtual 160, 3) := by decide +kernel
theorem dX9_speedOfAll_22 : decode cX9_speedOfAll 22 = .ok (.ladd, 1) := by decide +kernel
theorem dX9_speedOfAll_23 : decode cX9_speedOfAll 23 = .ok (.lstore_n 2, 1) := by decide +kernel
theorem dX9_speedOfAll_24 : decode cX9_speedOfAll 24 = .ok (.iinc 4 1, 3) := by decide +kernel
theorem dX9_speedOfAll_27 : decode cX9_speedOfAll 27 = .ok (.goto (-22), 3) := by decide +kernel
theorem dX9_speedOfAll_30 : decode cX9_speedOfAll 30 = .ok (.lload_n 2, 1) := by decide +kernel
theorem dX9_speedOfAll_31 : decode cX9_speedOfAll 31 = .ok (.lreturn, 1) := by decide +kernel
theorem dX9_speed_0 : decode cX9_speed 0 = .ok (.iload_n 1, 1) := by decide +kernel
theorem dX9_speed_1 : decode cX9_speed 1 = .ok (.i2l, 1) := by decide +kernel
theorem dX9_speed_2 : decode cX9_speed 2 = .ok (.lconst 0, 1) := by decide +kernel
theorem dX9_speed_3 : decode cX9_speed 3 = .ok (.lconst 1, 1) := by decide +kernel
theorem dX9_speed_4 : decode cX9_speed 4 = .ok (.invokestatic 115, 3) := by decide +kernel
theorem dX9_speed_7 : decode cX9_speed 7 = .ok (.ifCond .eq 12, 3) := by decide +kernel
theorem dX9_speed_10 : decode cX9_speed 10 = .ok (.aload_n 0, 1) := by decide +kernel
theorem dX9_speed_11 : decode cX9_speed 11 = .ok (.iload_n 1, 1) := by decide +kernel
theorem dX9_speed_12 : decode cX9_speed 12 = .ok (.invokevirtual 164, 3) := by decide +kernel
theorem dX9_speed_15 : decode cX9_speed 15 = .ok (.l2i, 1) := by decide +kernel
theorem dX9_speed_16 : decode cX9_speed 16 = .ok (.goto 4, 3) := by decide +kernel
theorem dX9_speed_19 : decode cX9_speed 19 = .ok (.iconst (-1), 1) := by decide +kernel
theorem dX9_speed_20 : decode cX9_speed 20 = .ok (.ireturn, 1) := by decide +kernel
theorem dX9_next_0 : decode cX9_next 0 = .ok (.aload_n 0, 1) := by decide +kernel
theorem dX9_next_1 : decode cX9_next 1 = .ok (.getfield 110, 3) := by decide +kernel
theorem dX9_next_4 : decode cX9_next 4 = .ok (.iconst 1, 1) := by decide +kernel
theorem dX9_next_5 : decode cX9_next 5 = .ok (.isub, 1) := by decide +kernel
theorem dX9_next_6 : decode cX9_next 6 = .ok (.istore_n 2, 1) := by decide +kernel
theorem dX9_next_7 : decode cX9_next 7 = .ok (.iload_n 2, 1) := by decide +kernel
theorem dX9_next_8 : decode cX9_next 8 = .ok (.iconst 1, 1) := by decide +kernel
theorem dX9_next_9 : decode cX9_next 9 = .ok (.isub, 1) := by decide +kernel
theorem dX9_next_10 : decode cX9_next 10 = .ok (.istore_n 3, 1) := by decide +kernel
theorem dX9_next_11 : decode cX9_next 11 = .ok (.iload_n 3, 1) := by decide +kernel
theorem dX9_next_12 : decode cX9_next 12 = .ok (.ifCond .lt 37, 3) := by decide +kernel
theorem dX9_next_15 : decode cX9_next 15 = .ok (.aload_n 0, 1) := by decide +kernel
theorem dX9_next_16 : decode cX9_next 16 = .ok (.getfield 59, 3) := by decide +kernel
theorem dX9_next_19 : decode cX9_next 19 = .ok (.iload_n 2, 1) := by decide +kernel
theorem dX9_next_20 : decode cX9_next 20 = .ok (.iaload, 1) := by decide +kernel
theorem dX9_next_21 : decode cX9_next 21 = .ok (.ifCond .ne 28, 3) := by decide +kernel
theorem dX9_next_24 : decode cX9_next 24 = .ok (.aload_n 0, 1) := by decide +kernel
theorem dX9_next_25 : decode cX9_next 25 = .ok (.getfield 59, 3) := by decide +kernel
theorem dX9_next_28 : decode cX9_next 28 = .ok (.iload_n 2, 1) := by decide +kernel
theorem dX9_next_29 : decode cX9_next 29 = .ok (.aload_n 0, 1) := by decide +kernel
theorem dX9_next_30 : decode cX9_next 30 = .ok (.getfield 59, 3) := by decide +kernel
theorem dX9_next_33 : decode cX9_next 33 = .ok (.iload_n 3, 1) := by decide +kernel
theorem dX9_next_34 : decode cX9_next 34 = .ok (.iaload, 1) := by decide +kernel
theorem dX9_next_35 : decode cX9_next 35 = .ok (.iastore, 1) := by decide +kernel
theorem dX9_next_36 : decode cX9_next 36 = .ok (.aload_n 0, 1) := by decide +kernel
theorem dX9_next_37 : decode cX9_next 37 = .ok (.getfield 59, 3) := by decide +kernel
theorem dX9_next_40 : decode cX9_next 40 = .ok (.iload_n 3, 1) := by decide +kernel
theorem dX9_next_41 : decode cX9_next 41 = .ok (.iconst 0, 1) := by decide +kernel
theorem dX9_next_42 : decode cX9_next 42 = .ok (.iastore, 1) := by decide +kernel
theorem dX9_next_43 : decode cX9_next 43 = .ok (.iinc 3 (-1), 3) := by decide +kernel
theorem dX9_next_46 : decode cX9_next 46 = .ok (.goto (-35), 3) := by decide +kernel
theorem dX9_next_49 : decode cX9_next 49 = .ok (.iload_n 3, 1) := by decide +kernel
theorem dX9_next_50 : decode cX9_next 50 = .ok (.ifCond .ge 5, 3) := by decide +kernel
theorem dX9_next_53 : decode cX9_next 53 = .ok (.iconst 0, 1) := by decide +kernel
theorem dX9_next_54 : decode cX9_next 54 = .ok (.ireturn, 1) := by decide +kernel
theorem dX9_next_55 : decode cX9_next 55 = .ok (.aload_n 0, 1) := by decide +kernel
theorem dX9_next_56 : decode cX9_next 56 = .ok (.getfield 59, 3) := by decide +kernel
theorem dX9_next_59 : decode cX9_next 59 = .ok (.iload_n 3, 1) := by decide +kernel
theorem dX9_next_60 : decode cX9_next 60 = .ok (.dup2, 1) := by decide +kernel
theorem dX9_next_61 : decode cX9_next 61 = .ok (.iaload, 1) := by decide +kernel
theorem dX9_next_62 : decode cX9_next 62 = .ok (.iconst 1, 1) := by decide +kernel
theorem dX9_next_63 : decode cX9_next 63 = .ok (.iadd, 1) := by decide +kernel
theorem dX9_next_64 : decode cX9_next 64 = .ok (.iastore, 1) := by decide +kernel
theorem dX9_next_65 : decode cX9_next 65 = .ok (.aload_n 0, 1) := by decide +kernel
theorem dX9_next_66 : decode cX9_next 66 = .ok (.getfield 59, 3) := by decide +kernel
theorem dX9_next_69 : decode cX9_next 69 = .ok (.iload_n 2, 1) := by decide +kernel
theorem dX9_next_70 : decode cX9_next 70 = .ok (.dup2, 1) := by decide +kernel
theorem dX9_next_71 : decode cX9_next 71 = .ok (.iaload, 1) := by decide +kernel
theorem dX9_next_72 : decode cX9_next 72 = .ok (.iconst 1, 1) := by decide +kernel
theorem dX9_next_73 : decode cX9_next 73 = .ok (.isub, 1) := by decide +kernel
theorem dX9_next_74 : decode cX9_next 74 = .ok (.iastore, 1) := by decide +kernel
theorem dX9_next_75 : decode cX9_next 75 = .ok (.iconst 1, 1) := by decide +kernel
theorem dX9_next_76 : decode cX9_next 76 = .ok (.ireturn, 1) := by decide +kernel
theorem dX9_split_0 : decode cX9_split 0 = .ok (.iload_n 1, 1) := by decide +kernel
theorem dX9_split_1 : decode cX9_split 1 = .ok (.i2l, 1) := by decide +kernel
theorem dX9_split_2 : decode cX9_split 2 = .ok (.lconst 0, 1) := by decide +kernel
theorem dX9_split_3 : decode cX9_split 3 = .ok (.ldc2_w 168, 3) := by decide +kernel
theorem dX9_split_6 : decode cX9_split 6 = .ok (.invokestatic 115, 3) := by decide +kernel
theorem dX9_split_9 : decode cX9_split 9 = .ok (.ifCond .eq 15, 3) := by decide +kernel
theorem dX9_split_12 : decode cX9_split 12 = .ok (.iload_n 2, 1) := by decide +kernel
theorem dX9_split_13 : decode cX9_split 13 = .ok (.i2l, 1) := by decide +kernel
theorem dX9_split_14 : decode cX9_split 14 = .ok (.lconst 1, 1) := by decide +kernel
theorem dX9_split_15 : decode cX9_split 15 = .ok (.ldc2_w 170, 3) := by decide +kernel
theorem dX9_split_18 : decode cX9_split 18 = .ok (.invokestatic 115, 3) := by decide +kernel
theorem dX9_split_21 : decode cX9_split 21 = .ok (.ifCond .ne 6, 3) := by decide +kernel
theorem dX9_split_24 : decode cX9_split 24 = .ok (.bipush (-2), 2) := by decide +kernel
theorem dX9_split_26 : decode cX9_split 26 = .ok (.ireturn, 1) := by decide +kernel
theorem dX9_split_27 : decode cX9_split 27 = .ok (.aload_n 0, 1) := by decide +kernel
theorem dX9_split_28 : decode cX9_split 28 = .ok (.getfield 110, 3) := by decide +kernel
theorem dX9_split_31 : decode cX9_split 31 = .ok (.ifCond .ne 6, 3) := by decide +kernel
theorem dX9_split_34 : decode cX9_split 34 = .ok (.bipush (-3), 2) := by decide +kernel
theorem dX9_split_36 : decode cX9_split 36 = .ok (.ireturn, 1) := by decide +kernel
theorem dX9_split_37 : decode cX9_split 37 = .ok (.iconst 0, 1) := by decide +kernel
theorem dX9_split_38 : decode cX9_split 38 = .ok (.istore_n 3, 1) := by decide +kernel
theorem dX9_split_39 : decode cX9_split 39 = .ok (.iload_n 3, 1) := by decide +kernel
theorem dX9_split_40 : decode cX9_split 40 = .ok (.aload_n 0, 1) := by decide +kernel
theorem dX9_split_41 : decode cX9_split 41 = .ok (.getfield 110, 3) := by decide +kernel
theorem dX9_split_44 : decode cX9_split 44 = .ok (.if_icmp .ge 42, 3) := by decide +kernel
theorem dX9_split_47 : decode cX9_split 47 = .ok (.aload_n 0, 1) := by decide +kernel
theorem dX9_split_48 : decode cX9_split 48 = .ok (.getfield 56, 3) := by decide +kernel
theorem dX9_split_51 : decode cX9_split 51 = .ok (.iload_n 3, 1) := by decide +kernel
theorem dX9_split_52 : decode cX9_split 52 = .ok (.aload_n 0, 1) := by decide +kernel
theorem dX9_split_53 : decode cX9_split 53 = .ok (.getfield 34, 3) := by decide +kernel
theorem dX9_split_56 : decode cX9_split 56 = .ok (.iload_n 3, 1) := by decide +kernel
theorem dX9_split_57 : decode cX9_split 57 = .ok (.iaload, 1) := by decide +kernel
theorem dX9_split_58 : decode cX9_split 58 = .ok (.iastore, 1) := by decide +kernel
theorem dX9_split_59 : decode cX9_split 59 = .ok (.aload_n 0, 1) := by decide +kernel
theorem dX9_split_60 : decode cX9_split 60 = .ok (.getfield 59, 3) := by decide +kernel
theorem dX9_split_63 : decode cX9_split 63 = .ok (.iload_n 3, 1) := by decide +kernel
theorem dX9_split_64 : decode cX9_split 64 = .ok (.iload_n 3, 1) := by decide +kernel
theorem dX9_split_65 : decode cX9_split 65 = .ok (.aload_n 0, 1) := by decide +kernel
theorem dX9_split_66 : decode cX9_split 66 = .ok (.getfield 110, 3) := by decide +kernel
theorem dX9_split_69 : decode cX9_split 69 = .ok (.iconst 1, 1) := by decide +kernel
theorem dX9_split_70 : decode cX9_split 70 = .ok (.isub, 1) := by decide +kernel
theorem dX9_split_71 : decode cX9_split 71 = .ok (.if_icmp .ne 7, 3) := by decide +kernel
theorem dX9_split_74 : decode cX9_split 74 = .ok (.iload_n 1, 1) := by decide +kernel
theorem dX9_split_75 : decode cX9_split 75 = .ok (.goto 4, 3) := by decide +kernel
theorem dX9_split_78 : decode cX9_split 78 = .ok (.iconst 0, 1) := by decide +kernel
theorem dX9_split_79 : decode cX9_split 79 = .ok (.iastore, 1) := by decide +kernel
theorem dX9_split_80 : decode cX9_split 80 = .ok (.iinc 3 1, 3) := by decide +kernel
theorem dX9_split_83 : decode cX9_split 83 = .ok (.goto (-44), 3) := by decide +kernel
theorem dX9_split_86 : decode cX9_split 86 = .ok (.ldc2_w 172, 3) := by decide +kernel
theorem dX9_split_89 : decode cX9_split 89 = .ok (.lstore_n 3, 1) := by decide +kernel
theorem dX9_split_90 : decode cX9_split 90 = .ok (.iconst 1, 1) := by decide +kernel
theorem dX9_split_91 : decode cX9_split 91 = .ok (.istore 5, 2) := by decide +kernel
theorem dX9_split_93 : decode cX9_split 93 = .ok (.iload 5, 2) := by decide +kernel
theorem dX9_split_95 : decode cX9_split 95 = .ok (.ifCond .eq 96, 3) := by decide +kernel
theorem dX9_split_98 : decode cX9_split 98 = .ok (.iconst 0, 1) := by decide +kernel
theorem dX9_split_99 : decode cX9_split 99 = .ok (.istore 6, 2) := by decide +kernel
theorem dX9_split_101 : decode cX9_split 101 = .ok (.iload 6, 2) := by decide +kernel
theorem dX9_split_103 : decode cX9_split 103 = .ok (.aload_n 0, 1) := by decide +kernel
theorem dX9_split_104 : decode cX9_split 104 = .ok (.getfield 110, 3) := by decide +kernel
theorem dX9_split_107 : decode cX9_split 107 = .ok (.if_icmp .ge 25, 3) := by decide +kernel
theorem dX9_split_110 : decode cX9_split 110 = .ok (.aload_n 0, 1) := by decide +kernel
theorem dX9_split_111 : decode cX9_split 111 = .ok (.getfield 34, 3) := by decide +kernel
theorem dX9_split_114 : decode cX9_split 114 = .ok (.iload 6, 2) := by decide +kernel
theorem dX9_split_116 : decode cX9_split 116 = .ok (.aload_n 0, 1) := by decide +kernel
theorem dX9_split_117 : decode cX9_split 117 = .ok (.getfield 59, 3) := by decide +kernel
theorem dX9_split_120 : decode cX9_split 120 = .ok (.iload 6, 2) := by decide +kernel
theorem dX9_split_122 : decode cX9_split 122 = .ok (.iaload, 1) := by decide +kernel
theorem dX9_split_123 : decode cX9_split 123 = .ok (.iload_n 2, 1) := by decide +kernel
theorem dX9_split_124 : decode cX9_split 124 = .ok (.imul, 1) := by decide +kernel
theorem dX9_split_125 : decode cX9_split 125 = .ok (.iastore, 1) := by decide +kernel
theorem dX9_split_126 : decode cX9_split 126 = .ok (.iinc 6 1, 3) := by decide +kernel
theorem dX9_split_129 : decode cX9_split 129 = .ok (.goto (-28), 3) := by decide +kernel
theorem dX9_split_132 : decode cX9_split 132 = .ok (.aload_n 0, 1) := by decide +kernel
theorem dX9_split_133 : decode cX9_split 133 = .ok (.iconst 0, 1) := by decide +kernel
theorem dX9_split_134 : decode cX9_split 134 = .ok (.invokevirtual 164, 3) := by decide +kernel
theorem dX9_split_137 : decode cX9_split 137 = .ok (.lstore 6, 2) := by decide +kernel
theorem dX9_split_139 : decode cX9_split 139 = .ok (.lload 6, 2) := by decide +kernel
theorem dX9_split_141 : decode cX9_split 141 = .ok (.lload_n 3, 1) := by decide +kernel
theorem dX9_split_142 : decode cX9_split 142 = .ok (.lcmp, 1) := by decide +kernel
theorem dX9_split_143 : decode cX9_split 143 = .ok (.ifCond .le 38, 3) := by decide +kernel
theorem dX9_split_146 : decode cX9_split 146 = .ok (.lload 6, 2) := by decide +kernel
theorem dX9_split_148 : decode cX9_split 148 = .ok (.lstore_n 3, 1) := by decide +kernel
theorem dX9_split_149 : decode cX9_split 149 = .ok (.iconst 0, 1) := by decide +kernel
theorem dX9_split_150 : decode cX9_split 150 = .ok (.istore 8, 2) := by decide +kernel
theorem dX9_split_152 : decode cX9_split 152 = .ok (.iload 8, 2) := by decide +kernel
theorem dX9_split_154 : decode cX9_split 154 = .ok (.aload_n 0, 1) := by decide +kernel
theorem dX9_split_155 : decode cX9_split 155 = .ok (.getfield 110, 3) := by decide +kernel
theorem dX9_split_158 : decode cX9_split 158 = .ok (.if_icmp .ge 23, 3) := by decide +kernel
theorem dX9_split_161 : decode cX9_split 161 = .ok (.aload_n 0, 1) := by decide +kernel
theorem dX9_split_162 : decode cX9_split 162 = .ok (.getfield 62, 3) := by decide +kernel
theorem dX9_split_165 : decode cX9_split 165 = .ok (.iload 8, 2) := by decide +kernel
theorem dX9_split_167 : decode cX9_split 167 = .ok (.aload_n 0, 1) := by decide +kernel
theorem dX9_split_168 : decode cX9_split 168 = .ok (.getfield 59, 3) := by decide +kernel
theorem dX9_split_171 : decode cX9_split 171 = .ok (.iload 8, 2) := by decide +kernel
theorem dX9_split_173 : decode cX9_split 173 = .ok (.iaload, 1) := by decide +kernel
theorem dX9_split_174 : decode cX9_split 174 = .ok (.iastore, 1) := by decide +kernel
theorem dX9_split_175 : decode cX9_split 175 = .ok (.iinc 8 1, 3) := by decide +kernel
theorem dX9_split_178 : decode cX9_split 178 = .ok (.goto (-26), 3) := by decide +kernel
theorem dX9_split_181 : decode cX9_split 181 = .ok (.aload_n 0, 1) := by decide +kernel
theorem dX9_split_182 : decode cX9_split 182 = .ok (.iload_n 1, 1) := by decide +kernel
theorem dX9_split_183 : decode cX9_split 183 = .ok (.invokevirtual 174, 3) := by decide +kernel
theorem dX9_split_186 : decode cX9_split 186 = .ok (.istore 5, 2) := by decide +kernel
theorem dX9_split_188 : decode cX9_split 188 = .ok (.goto (-95), 3) := by decide +kernel
theorem dX9_split_191 : decode cX9_split 191 = .ok (.iconst 0, 1) := by decide +kernel
theorem dX9_split_192 : decode cX9_split 192 = .ok (.istore 6, 2) := by decide +kernel
theorem dX9_split_194 : decode cX9_split 194 = .ok (.iload 6, 2) := by decide +kernel
theorem dX9_split_196 : decode cX9_split 196 = .ok (.aload_n 0, 1) := by decide +kernel
theorem dX9_split_197 : decode cX9_split 197 = .ok (.getfield 110, 3) := by decide +kernel
theorem dX9_split_200 : decode cX9_split 200 = .ok (.if_icmp .ge 23, 3) := by decide +kernel
theorem dX9_split_203 : decode cX9_split 203 = .ok (.aload_n 0, 1) := by decide +kernel
theorem dX9_split_204 : decode cX9_split 204 = .ok (.getfield 34, 3) := by decide +kernel
theorem dX9_split_207 : decode cX9_split 207 = .ok (.iload 6, 2) := by decide +kernel
theorem dX9_split_209 : decode cX9_split 209 = .ok (.aload_n 0, 1) := by decide +kernel
theorem dX9_split_210 : decode cX9_split 210 = .ok (.getfield 56, 3) := by decide +kernel
theorem dX9_split_213 : decode cX9_split 213 = .ok (.iload 6, 2) := by decide +kernel
theorem dX9_split_215 : decode cX9_split 215 = .ok (.iaload, 1) := by decide +kernel
theorem dX9_split_216 : decode cX9_split 216 = .ok (.iastore, 1) := by decide +kernel
theorem dX9_split_217 : decode cX9_split 217 = .ok (.iinc 6 1, 3) := by decide +kernel
theorem dX9_split_220 : decode cX9_split 220 = .ok (.goto (-26), 3) := by decide +kernel
theorem dX9_split_223 : decode cX9_split 223 = .ok (.aload_n 0, 1) := by decide +kernel
theorem dX9_split_224 : decode cX9_split 224 = .ok (.aload_n 0, 1) := by decide +kernel
theorem dX9_split_225 : decode cX9_split 225 = .ok (.getfield 110, 3) := by decide +kernel
theorem dX9_split_228 : decode cX9_split 228 = .ok (.putfield 177, 3) := by decide +kernel
theorem dX9_split_231 : decode cX9_split 231 = .ok (.lload_n 3, 1) := by decide +kernel
theorem dX9_split_232 : decode cX9_split 232 = .ok (.l2i, 1) := by decide +kernel
theorem dX9_split_233 : decode cX9_split 233 = .ok (.ireturn, 1) := by decide +kernel
theorem dX9_lots_0 : decode cX9_lots 0 = .ok (.iload_n 1, 1) := by decide +kernel
theorem dX9_lots_1 : decode cX9_lots 1 = .ok (.i2l, 1) := by decide +kernel
theorem dX9_lots_2 : decode cX9_lots 2 = .ok (.lconst 0, 1) := by decide +kernel
theorem dX9_lots_3 : decode cX9_lots 3 = .ok (.aload_n 0, 1) := by decide +kernel
theorem dX9_lots_4 : decode cX9_lots 4 = .ok (.getfield 177, 3) := by decide +kernel
theorem dX9_lots_7 : decode cX9_lots 7 = .ok (.iconst 1, 1) := by decide +kernel
theorem dX9_lots_8 : decode cX9_lots 8 = .ok (.isub, 1) := by decide +kernel
theorem dX9_lots_9 : decode cX9_lots 9 = .ok (.i2l, 1) := by decide +kernel
theorem dX9_lots_10 : decode cX9_lots 10 = .ok (.invokestatic 115, 3) := by decide +kernel
theorem dX9_lots_13 : decode cX9_lots 13 = .ok (.ifCond .eq 12, 3) := by decide +kernel
theorem dX9_lots_16 : decode cX9_lots 16 = .ok (.aload_n 0, 1) := by decide +kernel
theorem dX9_lots_17 : decode cX9_lots 17 = .ok (.getfield 62, 3) := by decide +kernel
theorem dX9_lots_20 : decode cX9_lots 20 = .ok (.iload_n 1, 1) := by decide +kernel
theorem dX9_lots_21 : decode cX9_lots 21 = .ok (.iaload, 1) := by decide +kernel
theorem dX9_lots_22 : decode cX9_lots 22 = .ok (.goto 4, 3) := by decide +kernel
theorem dX9_lots_25 : decode cX9_lots 25 = .ok (.iconst (-1), 1) := by decide +kernel
theorem dX9_lots_26 : decode cX9_lots 26 = .ok (.ireturn, 1) := by decide +kernel
theorem dX9_puts_0 : decode cX9_puts 0 = .ok (.aload_n 0, 1) := by decide +kernel
theorem dX9_puts_1 : decode cX9_puts 1 = .ok (.getfield 68, 3) := by decide +kernel
theorem dX9_puts_4 : decode cX9_puts 4 = .ok (.iload_n 1, 1) := by decide +kernel
theorem dX9_puts_5 : decode cX9_puts 5 = .ok (.iaload, 1) := by decide +kernel
theorem dX9_puts_6 : decode cX9_puts 6 = .ok (.iconst 3, 1) := by decide +kernel
theorem dX9_puts_7 : decode cX9_puts 7 = .ok (.idiv, 1) := by decide +kernel
theorem dX9_puts_8 : decode cX9_puts 8 = .ok (.istore_n 3, 1) := by decide +kernel
theorem dX9_puts_9 : decode cX9_puts 9 = .ok (.aload_n 0, 1) := by decide +kernel
theorem dX9_puts_10 : decode cX9_puts 10 = .ok (.getfield 68, 3) := by decide +kernel
theorem dX9_puts_13 : decode cX9_puts 13 = .ok (.iload_n 1, 1) := by decide +kernel
theorem dX9_puts_14 : decode cX9_puts 14 = .ok (.iaload, 1) := by decide +kernel
theorem dX9_puts_15 : decode cX9_puts 15 = .ok (.iconst 3, 1) := by decide +kernel
theorem dX9_puts_16 : decode cX9_puts 16 = .ok (.irem, 1) := by decide +kernel
theorem dX9_puts_17 : decode cX9_puts 17 = .ok (.iconst 1, 1) := by decide +kernel
theorem dX9_puts_18 : decode cX9_puts 18 = .ok (.iadd, 1) := by decide +kernel
theorem dX9_puts_19 : decode cX9_puts 19 = .ok (.istore 4, 2) := by decide +kernel
theorem dX9_puts_21 : decode cX9_puts 21 = .ok (.aload_n 0, 1) := by decide +kernel
theorem dX9_puts_22 : decode cX9_puts 22 = .ok (.getfield 75, 3) := by decide +kernel
theorem dX9_puts_25 : decode cX9_puts 25 = .ok (.iload_n 1, 1) := by decide +kernel
theorem dX9_puts_26 : decode cX9_puts 26 = .ok (.iconst 1, 1) := by decide +kernel
theorem dX9_puts_27 : decode cX9_puts 27 = .ok (.iadd, 1) := by decide +kernel
theorem dX9_puts_28 : decode cX9_puts 28 = .ok (.laload, 1) := by decide +kernel
theorem dX9_puts_29 : decode cX9_puts 29 = .ok (.l2i, 1) := by decide +kernel
theorem dX9_puts_30 : decode cX9_puts 30 = .ok (.aload_n 0, 1) := by decide +kernel
theorem dX9_puts_31 : decode cX9_puts 31 = .ok (.getfield 16, 3) := by decide +kernel
theorem dX9_puts_34 : decode cX9_puts 34 = .ok (.iload_n 3, 1) := by decide +kernel
theorem dX9_puts_35 : decode cX9_puts 35 = .ok (.iaload, 1) := by decide +kernel
theorem dX9_puts_36 : decode cX9_puts 36 = .ok (.iload 4, 2) := by decide +kernel
theorem dX9_puts_38 : decode cX9_puts 38 = .ok (.imul, 1) := by decide +kernel
theorem dX9_puts_39 : decode cX9_puts 39 = .ok (.iadd, 1) := by decide +kernel
theorem dX9_puts_40 : decode cX9_puts 40 = .ok (.aload_n 0, 1) := by decide +kernel
theorem dX9_puts_41 : decode cX9_puts 41 = .ok (.aload_n 0, 1) := by decide +kernel
theorem dX9_puts_42 : decode cX9_puts 42 = .ok (.getfield 34, 3) := by decide +kernel
theorem dX9_puts_45 : decode cX9_puts 45 = .ok (.iload_n 1, 1) := by decide +kernel
theorem dX9_puts_46 : decode cX9_puts 46 = .ok (.iaload, 1) := by decide +kernel
theorem dX9_puts_47 : decode cX9_puts 47 = .ok (.invokevirtual 140, 3) := by decide +kernel
theorem dX9_puts_50 : decode cX9_puts 50 = .ok (.iadd, 1) := by decide +kernel
theorem dX9_puts_51 : decode cX9_puts 51 = .ok (.aload_n 0, 1) := by decide +kernel
theorem dX9_puts_52 : decode cX9_puts 52 = .ok (.getfield 37, 3) := by decide +kernel
theorem dX9_puts_55 : decode cX9_puts 55 = .ok (.iload_n 1, 1) := by decide +kernel
theorem dX9_puts_56 : decode cX9_puts 56 = .ok (.iaload, 1) := by decide +kernel
theorem dX9_puts_57 : decode cX9_puts 57 = .ok (.iadd, 1) := by decide +kernel
theorem dX9_puts_58 : decode cX9_puts 58 = .ok (.aload_n 0, 1) := by decide +kernel
theorem dX9_puts_59 : decode cX9_puts 59 = .ok (.getfield 34, 3) := by decide +kernel
theorem dX9_puts_62 : decode cX9_puts 62 = .ok (.iload_n 1, 1) := by decide +kernel
theorem dX9_puts_63 : decode cX9_puts 63 = .ok (.iaload, 1) := by decide +kernel
theorem dX9_puts_64 : decode cX9_puts 64 = .ok (.iadd, 1) := by decide +kernel
theorem dX9_puts_65 : decode cX9_puts 65 = .ok (.istore 5, 2) := by decide +kernel
theorem dX9_puts_67 : decode cX9_puts 67 = .ok (.aload_n 0, 1) := by decide +kernel
theorem dX9_puts_68 : decode cX9_puts 68 = .ok (.getfield 75, 3) := by decide +kernel
theorem dX9_puts_71 : decode cX9_puts 71 = .ok (.iload_n 1, 1) := by decide +kernel
theorem dX9_puts_72 : decode cX9_puts 72 = .ok (.iload 5, 2) := by decide +kernel
theorem dX9_puts_74 : decode cX9_puts 74 = .ok (.i2l, 1) := by decide +kernel
theorem dX9_puts_75 : decode cX9_puts 75 = .ok (.lastore, 1) := by decide +kernel
theorem dX9_puts_76 : decode cX9_puts 76 = .ok (.aload_n 0, 1) := by decide +kernel
theorem dX9_puts_77 : decode cX9_puts 77 = .ok (.getfield 71, 3) := by decide +kernel
theorem dX9_puts_80 : decode cX9_puts 80 = .ok (.iload_n 1, 1) := by decide +kernel
theorem dX9_puts_81 : decode cX9_puts 81 = .ok (.aload_n 0, 1) := by decide +kernel
theorem dX9_puts_82 : decode cX9_puts 82 = .ok (.getfield 71, 3) := by decide +kernel
theorem dX9_puts_85 : decode cX9_puts 85 = .ok (.iload_n 1, 1) := by decide +kernel
theorem dX9_puts_86 : decode cX9_puts 86 = .ok (.iconst 1, 1) := by decide +kernel
theorem dX9_puts_87 : decode cX9_puts 87 = .ok (.iadd, 1) := by decide +kernel
theorem dX9_puts_88 : decode cX9_puts 88 = .ok (.laload, 1) := by decide +kernel
theorem dX9_puts_89 : decode cX9_puts 89 = .ok (.aload_n 0, 1) := by decide +kernel
theorem dX9_puts_90 : decode cX9_puts 90 = .ok (.getfield 13, 3) := by decide +kernel
theorem dX9_puts_93 : decode cX9_puts 93 = .ok (.iload_n 3, 1) := by decide +kernel
theorem dX9_puts_94 : decode cX9_puts 94 = .ok (.iaload, 1) := by decide +kernel
theorem dX9_puts_95 : decode cX9_puts 95 = .ok (.iload 5, 2) := by decide +kernel
theorem dX9_puts_97 : decode cX9_puts 97 = .ok (.aload_n 0, 1) := by decide +kernel
theorem dX9_puts_98 : decode cX9_puts 98 = .ok (.getfield 34, 3) := by decide +kernel
theorem dX9_puts_101 : decode cX9_puts 101 = .ok (.iload_n 1, 1) := by decide +kernel
theorem dX9_puts_102 : decode cX9_puts 102 = .ok (.iaload, 1) := by decide +kernel
theorem dX9_puts_103 : decode cX9_puts 103 = .ok (.invokestatic 153, 3) := by decide +kernel
theorem dX9_puts_106 : decode cX9_puts 106 = .ok (.ladd, 1) := by decide +kernel
theorem dX9_puts_107 : decode cX9_puts 107 = .ok (.lastore, 1) := by decide +kernel
theorem dX9_puts_108 : decode cX9_puts 108 = .ok (.aload_n 0, 1) := by decide +kernel
theorem dX9_puts_109 : decode cX9_puts 109 = .ok (.getfield 78, 3) := by decide +kernel
theorem dX9_puts_112 : decode cX9_puts 112 = .ok (.iload_n 1, 1) := by decide +kernel
theorem dX9_puts_113 : decode cX9_puts 113 = .ok (.aload_n 0, 1) := by decide +kernel
theorem dX9_puts_114 : decode cX9_puts 114 = .ok (.getfield 78, 3) := by decide +kernel
theorem dX9_puts_117 : decode cX9_puts 117 = .ok (.iload_n 1, 1) := by decide +kernel
theorem dX9_puts_118 : decode cX9_puts 118 = .ok (.iconst 1, 1) := by decide +kernel
theorem dX9_puts_119 : decode cX9_puts 119 = .ok (.iadd, 1) := by decide +kernel
theorem dX9_puts_120 : decode cX9_puts 120 = .ok (.laload, 1) := by decide +kernel
theorem dX9_puts_121 : decode cX9_puts 121 = .ok (.aload_n 0, 1) := by decide +kernel
theorem dX9_puts_122 : decode cX9_puts 122 = .ok (.getfield 19, 3) := by decide +kernel
theorem dX9_puts_125 : decode cX9_puts 125 = .ok (.iload_n 3, 1) := by decide +kernel
theorem dX9_puts_126 : decode cX9_puts 126 = .ok (.iaload, 1) := by decide +kernel
theorem dX9_puts_127 : decode cX9_puts 127 = .ok (.iload 4, 2) := by decide +kernel
theorem dX9_puts_129 : decode cX9_puts 129 = .ok (.imul, 1) := by decide +kernel
theorem dX9_puts_130 : decode cX9_puts 130 = .ok (.i2l, 1) := by decide +kernel
theorem dX9_puts_131 : decode cX9_puts 131 = .ok (.ladd, 1) := by decide +kernel
theorem dX9_puts_132 : decode cX9_puts 132 = .ok (.lastore, 1) := by decide +kernel
theorem dX9_puts_133 : decode cX9_puts 133 = .ok (.aload_n 0, 1) := by decide +kernel
theorem dX9_puts_134 : decode cX9_puts 134 = .ok (.getfield 81, 3) := by decide +kernel
theorem dX9_puts_137 : decode cX9_puts 137 = .ok (.iload_n 1, 1) := by decide +kernel
theorem dX9_puts_138 : decode cX9_puts 138 = .ok (.aload_n 0, 1) := by decide +kernel
theorem dX9_puts_139 : decode cX9_puts 139 = .ok (.getfield 81, 3) := by decide +kernel
theorem dX9_puts_142 : decode cX9_puts 142 = .ok (.iload_n 1, 1) := by decide +kernel
theorem dX9_puts_143 : decode cX9_puts 143 = .ok (.iconst 1, 1) := by decide +kernel
theorem dX9_puts_144 : decode cX9_puts 144 = .ok (.iadd, 1) := by decide +kernel
theorem dX9_puts_145 : decode cX9_puts 145 = .ok (.baload, 1) := by decide +kernel
theorem dX9_puts_146 : decode cX9_puts 146 = .ok (.ifCond .eq 26, 3) := by decide +kernel
theorem dX9_puts_149 : decode cX9_puts 149 = .ok (.bipush 100, 2) := by decide +kernel
theorem dX9_puts_151 : decode cX9_puts 151 = .ok (.aload_n 0, 1) := by decide +kernel
theorem dX9_puts_152 : decode cX9_puts 152 = .ok (.getfield 7, 3) := by decide +kernel
theorem dX9_puts_155 : decode cX9_puts 155 = .ok (.iload_n 3, 1) := by decide +kernel
theorem dX9_puts_156 : decode cX9_puts 156 = .ok (.iaload, 1) := by decide +kernel
theorem dX9_puts_157 : decode cX9_puts 157 = .ok (.imul, 1) := by decide +kernel
theorem dX9_puts_158 : decode cX9_puts 158 = .ok (.iload 4, 2) := by decide +kernel
theorem dX9_puts_160 : decode cX9_puts 160 = .ok (.imul, 1) := by decide +kernel
theorem dX9_puts_161 : decode cX9_puts 161 = .ok (.iload 5, 2) := by decide +kernel
theorem dX9_puts_163 : decode cX9_puts 163 = .ok (.idiv, 1) := by decide +kernel
theorem dX9_puts_164 : decode cX9_puts 164 = .ok (.iload_n 2, 1) := by decide +kernel
theorem dX9_puts_165 : decode cX9_puts 165 = .ok (.if_icmp .lt 7, 3) := by decide +kernel
theorem dX9_puts_168 : decode cX9_puts 168 = .ok (.iconst 1, 1) := by decide +kernel
theorem dX9_puts_169 : decode cX9_puts 169 = .ok (.goto 4, 3) := by decide +kernel
theorem dX9_puts_172 : decode cX9_puts 172 = .ok (.iconst 0, 1) := by decide +kernel
theorem dX9_puts_173 : decode cX9_puts 173 = .ok (.bastore, 1) := by decide +kernel
theorem dX9_puts_174 : decode cX9_puts 174 = .ok (.return_, 1) := by decide +kernel
theorem dX9_cheapest_0 : decode cX9_cheapest 0 = .ok (.iload_n 1, 1) := by decide +kernel
theorem dX9_cheapest_1 : decode cX9_cheapest 1 = .ok (.i2l, 1) := by decide +kernel
theorem dX9_cheapest_2 : decode cX9_cheapest 2 = .ok (.lconst 0, 1) := by decide +kernel
theorem dX9_cheapest_3 : decode cX9_cheapest 3 = .ok (.ldc2_w 180, 3) := by decide +kernel
theorem dX9_cheapest_6 : decode cX9_cheapest 6 = .ok (.invokestatic 115, 3) := by decide +kernel
theorem dX9_cheapest_9 : decode cX9_cheapest 9 = .ok (.ifCond .eq 15, 3) := by decide +kernel
theorem dX9_cheapest_12 : decode cX9_cheapest 12 = .ok (.iload_n 2, 1) := by decide +kernel
theorem dX9_cheapest_13 : decode cX9_cheapest 13 = .ok (.i2l, 1) := by decide +kernel
theorem dX9_cheapest_14 : decode cX9_cheapest 14 = .ok (.lconst 0, 1) := by decide +kernel
theorem dX9_cheapest_15 : decode cX9_cheapest 15 = .ok (.ldc2_w 182, 3) := by decide +kernel
theorem dX9_cheapest_18 : decode cX9_cheapest 18 = .ok (.invokestatic 115, 3) := by decide +kernel
theorem dX9_cheapest_21 : decode cX9_cheapest 21 = .ok (.ifCond .ne 6, 3) := by decide +kernel
theorem dX9_cheapest_24 : decode cX9_cheapest 24 = .ok (.bipush (-2), 2) := by decide +kernel
theorem dX9_cheapest_26 : decode cX9_cheapest 26 = .ok (.ireturn, 1) := by decide +kernel
theorem dX9_cheapest_27 : decode cX9_cheapest 27 = .ok (.aload_n 0, 1) := by decide +kernel
theorem dX9_cheapest_28 : decode cX9_cheapest 28 = .ok (.getfield 110, 3) := by decide +kernel
theorem dX9_cheapest_31 : decode cX9_cheapest 31 = .ok (.ifCond .eq 18, 3) := by decide +kernel
theorem dX9_cheapest_34 : decode cX9_cheapest 34 = .ok (.aload_n 0, 1) := by decide +kernel
theorem dX9_cheapest_35 : decode cX9_cheapest 35 = .ok (.getfield 107, 3) := by decide +kernel
theorem dX9_cheapest_38 : decode cX9_cheapest 38 = .ok (.ifCond .eq 11, 3) := by decide +kernel
theorem dX9_cheapest_41 : decode cX9_cheapest 41 = .ok (.aload_n 0, 1) := by decide +kernel
theorem dX9_cheapest_42 : decode cX9_cheapest 42 = .ok (.getfield 110, 3) := by decide +kernel
theorem dX9_cheapest_45 : decode cX9_cheapest 45 = .ok (.iconst 4, 1) := by decide +kernel
theorem dX9_cheapest_46 : decode cX9_cheapest 46 = .ok (.if_icmp .ne 6, 3) := by decide +kernel
theorem dX9_cheapest_49 : decode cX9_cheapest 49 = .ok (.bipush (-3), 2) := by decide +kernel
theorem dX9_cheapest_51 : decode cX9_cheapest 51 = .ok (.ireturn, 1) := by decide +kernel
theorem dX9_cheapest_52 : decode cX9_cheapest 52 = .ok (.iconst 3, 1) := by decide +kernel
theorem dX9_cheapest_53 : decode cX9_cheapest 53 = .ok (.aload_n 0, 1) := by decide +kernel
theorem dX9_cheapest_54 : decode cX9_cheapest 54 = .ok (.getfield 107, 3) := by decide +kernel
theorem dX9_cheapest_57 : decode cX9_cheapest 57 = .ok (.imul, 1) := by decide +kernel
theorem dX9_cheapest_58 : decode cX9_cheapest 58 = .ok (.istore_n 3, 1) := by decide +kernel
theorem dX9_cheapest_59 : decode cX9_cheapest 59 = .ok (.aload_n 0, 1) := by decide +kernel
theorem dX9_cheapest_60 : decode cX9_cheapest 60 = .ok (.getfield 75, 3) := by decide +kernel
theorem dX9_cheapest_63 : decode cX9_cheapest 63 = .ok (.aload_n 0, 1) := by decide +kernel
theorem dX9_cheapest_64 : decode cX9_cheapest 64 = .ok (.getfield 110, 3) := by decide +kernel
theorem dX9_cheapest_67 : decode cX9_cheapest 67 = .ok (.aload_n 0, 1) := by decide +kernel
theorem dX9_cheapest_68 : decode cX9_cheapest 68 = .ok (.getfield 46, 3) := by decide +kernel
theorem dX9_cheapest_71 : decode cX9_cheapest 71 = .ok (.i2l, 1) := by decide +kernel
theorem dX9_cheapest_72 : decode cX9_cheapest 72 = .ok (.lastore, 1) := by decide +kernel
theorem dX9_cheapest_73 : decode cX9_cheapest 73 = .ok (.aload_n 0, 1) := by decide +kernel
theorem dX9_cheapest_74 : decode cX9_cheapest 74 = .ok (.getfield 71, 3) := by decide +kernel
theorem dX9_cheapest_77 : decode cX9_cheapest 77 = .ok (.aload_n 0, 1) := by decide +kernel
theorem dX9_cheapest_78 : decode cX9_cheapest 78 = .ok (.getfield 110, 3) := by decide +kernel
theorem dX9_cheapest_81 : decode cX9_cheapest 81 = .ok (.lconst 0, 1) := by decide +kernel
theorem dX9_cheapest_82 : decode cX9_cheapest 82 = .ok (.lastore, 1) := by decide +kernel
theorem dX9_cheapest_83 : decode cX9_cheapest 83 = .ok (.aload_n 0, 1) := by decide +kernel
theorem dX9_cheapest_84 : decode cX9_cheapest 84 = .ok (.getfield 78, 3) := by decide +kernel
theorem dX9_cheapest_87 : decode cX9_cheapest 87 = .ok (.aload_n 0, 1) := by decide +kernel
theorem dX9_cheapest_88 : decode cX9_cheapest 88 = .ok (.getfield 110, 3) := by decide +kernel
theorem dX9_cheapest_91 : decode cX9_cheapest 91 = .ok (.lconst 0, 1) := by decide +kernel
theorem dX9_cheapest_92 : decode cX9_cheapest 92 = .ok (.lastore, 1) := by decide +kernel
theorem dX9_cheapest_93 : decode cX9_cheapest 93 = .ok (.aload_n 0, 1) := by decide +kernel
theorem dX9_cheapest_94 : decode cX9_cheapest 94 = .ok (.getfield 81, 3) := by decide +kernel
theorem dX9_cheapest_97 : decode cX9_cheapest 97 = .ok (.aload_n 0, 1) := by decide +kernel
theorem dX9_cheapest_98 : decode cX9_cheapest 98 = .ok (.getfield 110, 3) := by decide +kernel
theorem dX9_cheapest_101 : decode cX9_cheapest 101 = .ok (.iconst 1, 1) := by decide +kernel
theorem dX9_cheapest_102 : decode cX9_cheapest 102 = .ok (.bastore, 1) := by decide +kernel
theorem dX9_cheapest_103 : decode cX9_cheapest 103 = .ok (.iconst 0, 1) := by decide +kernel
theorem dX9_cheapest_104 : decode cX9_cheapest 104 = .ok (.istore 4, 2) := by decide +kernel
theorem dX9_cheapest_106 : decode cX9_cheapest 106 = .ok (.iload 4, 2) := by decide +kernel
theorem dX9_cheapest_108 : decode cX9_cheapest 108 = .ok (.aload_n 0, 1) := by decide +kernel
theorem dX9_cheapest_109 : decode cX9_cheapest 109 = .ok (.getfield 110, 3) := by decide +kernel
theorem dX9_cheapest_112 : decode cX9_cheapest 112 = .ok (.if_icmp .ge 17, 3) := by decide +kernel
theorem dX9_cheapest_115 : decode cX9_cheapest 115 = .ok (.aload_n 0, 1) := by decide +kernel
theorem dX9_cheapest_116 : decode cX9_cheapest 116 = .ok (.getfield 68, 3) := by decide +kernel
theorem dX9_cheapest_119 : decode cX9_cheapest 119 = .ok (.iload 4, 2) := by decide +kernel
theorem dX9_cheapest_121 : decode cX9_cheapest 121 = .ok (.iconst 0, 1) := by decide +kernel
theorem dX9_cheapest_122 : decode cX9_cheapest 122 = .ok (.iastore, 1) := by decide +kernel
theorem dX9_cheapest_123 : decode cX9_cheapest 123 = .ok (.iinc 4 1, 3) := by decide +kernel
theorem dX9_cheapest_126 : decode cX9_cheapest 126 = .ok (.goto (-20), 3) := by decide +kernel
theorem dX9_cheapest_129 : decode cX9_cheapest 129 = .ok (.aload_n 0, 1) := by decide +kernel
theorem dX9_cheapest_130 : decode cX9_cheapest 130 = .ok (.getfield 110, 3) := by decide +kernel
theorem dX9_cheapest_133 : decode cX9_cheapest 133 = .ok (.iconst 1, 1) := by decide +kernel
theorem dX9_cheapest_134 : decode cX9_cheapest 134 = .ok (.isub, 1) := by decide +kernel
theorem dX9_cheapest_135 : decode cX9_cheapest 135 = .ok (.istore 4, 2) := by decide +kernel
theorem dX9_cheapest_137 : decode cX9_cheapest 137 = .ok (.iload 4, 2) := by decide +kernel
theorem dX9_cheapest_139 : decode cX9_cheapest 139 = .ok (.ifCond .lt 16, 3) := by decide +kernel
theorem dX9_cheapest_142 : decode cX9_cheapest 142 = .ok (.aload_n 0, 1) := by decide +kernel
theorem dX9_cheapest_143 : decode cX9_cheapest 143 = .ok (.iload 4, 2) := by decide +kernel
theorem dX9_cheapest_145 : decode cX9_cheapest 145 = .ok (.iload_n 2, 1) := by decide +kernel
theorem dX9_cheapest_146 : decode cX9_cheapest 146 = .ok (.invokevirtual 184, 3) := by decide +kernel
theorem dX9_cheapest_149 : decode cX9_cheapest 149 = .ok (.iinc 4 (-1), 3) := by decide +kernel
theorem dX9_cheapest_152 : decode cX9_cheapest 152 = .ok (.goto (-15), 3) := by decide +kernel
theorem dX9_cheapest_155 : decode cX9_cheapest 155 = .ok (.ldc2_w 172, 3) := by decide +kernel
theorem dX9_cheapest_158 : decode cX9_cheapest 158 = .ok (.lstore 4, 2) := by decide +kernel
theorem dX9_cheapest_160 : decode cX9_cheapest 160 = .ok (.iconst 0, 1) := by decide +kernel
theorem dX9_cheapest_161 : decode cX9_cheapest 161 = .ok (.istore 6, 2) := by decide +kernel
theorem dX9_cheapest_163 : decode cX9_cheapest 163 = .ok (.iconst 0, 1) := by decide +kernel
theorem dX9_cheapest_164 : decode cX9_cheapest 164 = .ok (.istore 7, 2) := by decide +kernel
theorem dX9_cheapest_166 : decode cX9_cheapest 166 = .ok (.iload 7, 2) := by decide +kernel
theorem dX9_cheapest_168 : decode cX9_cheapest 168 = .ok (.aload_n 0, 1) := by decide +kernel
theorem dX9_cheapest_169 : decode cX9_cheapest 169 = .ok (.getfield 110, 3) := by decide +kernel
theorem dX9_cheapest_172 : decode cX9_cheapest 172 = .ok (.if_icmp .ge 224, 3) := by decide +kernel
theorem dX9_cheapest_175 : decode cX9_cheapest 175 = .ok (.iconst 0, 1) := by decide +kernel
theorem dX9_cheapest_176 : decode cX9_cheapest 176 = .ok (.istore 8, 2) := by decide +kernel
theorem dX9_cheapest_178 : decode cX9_cheapest 178 = .ok (.iconst 0, 1) := by decide +kernel
theorem dX9_cheapest_179 : decode cX9_cheapest 179 = .ok (.istore 9, 2) := by decide +kernel
theorem dX9_cheapest_181 : decode cX9_cheapest 181 = .ok (.iload 9, 2) := by decide +kernel
theorem dX9_cheapest_183 : decode cX9_cheapest 183 = .ok (.aload_n 0, 1) := by decide +kernel
theorem dX9_cheapest_184 : decode cX9_cheapest 184 = .ok (.getfield 110, 3) := by decide +kernel
theorem dX9_cheapest_187 : decode cX9_cheapest 187 = .ok (.if_icmp .ge 24, 3) := by decide +kernel
theorem dX9_cheapest_190 : decode cX9_cheapest 190 = .ok (.bipush 18, 2) := by decide +kernel
theorem dX9_cheapest_192 : decode cX9_cheapest 192 = .ok (.iload 8, 2) := by decide +kernel
theorem dX9_cheapest_194 : decode cX9_cheapest 194 = .ok (.imul, 1) := by decide +kernel
theorem dX9_cheapest_195 : decode cX9_cheapest 195 = .ok (.aload_n 0, 1) := by decide +kernel
theorem dX9_cheapest_196 : decode cX9_cheapest 196 = .ok (.getfield 68, 3) := by decide +kernel
theorem dX9_cheapest_199 : decode cX9_cheapest 199 = .ok (.iload 9, 2) := by decide +kernel
theorem dX9_cheapest_201 : decode cX9_cheapest 201 = .ok (.iaload, 1) := by decide +kernel
theorem dX9_cheapest_202 : decode cX9_cheapest 202 = .ok (.iadd, 1) := by decide +kernel
theorem dX9_cheapest_203 : decode cX9_cheapest 203 = .ok (.istore 8, 2) := by decide +kernel
theorem dX9_cheapest_205 : decode cX9_cheapest 205 = .ok (.iinc 9 1, 3) := by decide +kernel
theorem dX9_cheapest_208 : decode cX9_cheapest 208 = .ok (.goto (-27), 3) := by decide +kernel
theorem dX9_cheapest_211 : decode cX9_cheapest 211 = .ok (.aload_n 0, 1) := by decide +kernel
theorem dX9_cheapest_212 : decode cX9_cheapest 212 = .ok (.getfield 81, 3) := by decide +kernel
theorem dX9_cheapest_215 : decode cX9_cheapest 215 = .ok (.iconst 0, 1) := by decide +kernel
theorem dX9_cheapest_216 : decode cX9_cheapest 216 = .ok (.baload, 1) := by decide +kernel
theorem dX9_cheapest_217 : decode cX9_cheapest 217 = .ok (.ifCond .eq 19, 3) := by decide +kernel
theorem dX9_cheapest_220 : decode cX9_cheapest 220 = .ok (.aload_n 0, 1) := by decide +kernel
theorem dX9_cheapest_221 : decode cX9_cheapest 221 = .ok (.getfield 71, 3) := by decide +kernel
theorem dX9_cheapest_224 : decode cX9_cheapest 224 = .ok (.iconst 0, 1) := by decide +kernel
theorem dX9_cheapest_225 : decode cX9_cheapest 225 = .ok (.laload, 1) := by decide +kernel
theorem dX9_cheapest_226 : decode cX9_cheapest 226 = .ok (.iload_n 1, 1) := by decide +kernel
theorem dX9_cheapest_227 : decode cX9_cheapest 227 = .ok (.i2l, 1) := by decide +kernel
theorem dX9_cheapest_228 : decode cX9_cheapest 228 = .ok (.lcmp, 1) := by decide +kernel
theorem dX9_cheapest_229 : decode cX9_cheapest 229 = .ok (.ifCond .lt 7, 3) := by decide +kernel
theorem dX9_cheapest_232 : decode cX9_cheapest 232 = .ok (.iconst 1, 1) := by decide +kernel
theorem dX9_cheapest_233 : decode cX9_cheapest 233 = .ok (.goto 4, 3) := by decide +kernel
theorem dX9_cheapest_236 : decode cX9_cheapest 236 = .ok (.iconst 0, 1) := by decide +kernel
theorem dX9_cheapest_237 : decode cX9_cheapest 237 = .ok (.istore 9, 2) := by decide +kernel
theorem dX9_cheapest_239 : decode cX9_cheapest 239 = .ok (.iload 9, 2) := by decide +kernel
theorem dX9_cheapest_241 : decode cX9_cheapest 241 = .ok (.ifCond .eq 53, 3) := by decide +kernel
theorem dX9_cheapest_244 : decode cX9_cheapest 244 = .ok (.lload 4, 2) := by decide +kernel
theorem dX9_cheapest_246 : decode cX9_cheapest 246 = .ok (.lconst 0, 1) := by decide +kernel
theorem dX9_cheapest_247 : decode cX9_cheapest 247 = .ok (.lcmp, 1) := by decide +kernel

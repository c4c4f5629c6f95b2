theorem dX12_init_0 : decode cX12_init 0 = .ok (.aload_n 0, 1) := by decide +kernel
theorem dX12_init_1 : decode cX12_init 1 = .ok (.invokespecial 1, 3) := by decide +kernel
theorem dX12_init_4 : decode cX12_init 4 = .ok (.aload_n 0, 1) := by decide +kernel
theorem dX12_init_5 : decode cX12_init 5 = .ok (.bipush 6, 2) := by decide +kernel
theorem dX12_init_7 : decode cX12_init 7 = .ok (.newarray .int, 2) := by decide +kernel
theorem dX12_init_9 : decode cX12_init 9 = .ok (.putfield 7, 3) := by decide +kernel
theorem dX12_init_12 : decode cX12_init 12 = .ok (.aload_n 0, 1) := by decide +kernel
theorem dX12_init_13 : decode cX12_init 13 = .ok (.bipush 6, 2) := by decide +kernel
theorem dX12_init_15 : decode cX12_init 15 = .ok (.newarray .int, 2) := by decide +kernel
theorem dX12_init_17 : decode cX12_init 17 = .ok (.putfield 13, 3) := by decide +kernel
theorem dX12_init_20 : decode cX12_init 20 = .ok (.aload_n 0, 1) := by decide +kernel
theorem dX12_init_21 : decode cX12_init 21 = .ok (.bipush 6, 2) := by decide +kernel
theorem dX12_init_23 : decode cX12_init 23 = .ok (.newarray .int, 2) := by decide +kernel
theorem dX12_init_25 : decode cX12_init 25 = .ok (.putfield 16, 3) := by decide +kernel
theorem dX12_init_28 : decode cX12_init 28 = .ok (.aload_n 0, 1) := by decide +kernel
theorem dX12_init_29 : decode cX12_init 29 = .ok (.bipush 6, 2) := by decide +kernel
theorem dX12_init_31 : decode cX12_init 31 = .ok (.newarray .int, 2) := by decide +kernel
theorem dX12_init_33 : decode cX12_init 33 = .ok (.putfield 19, 3) := by decide +kernel
theorem dX12_init_36 : decode cX12_init 36 = .ok (.aload_n 0, 1) := by decide +kernel
theorem dX12_init_37 : decode cX12_init 37 = .ok (.bipush 6, 2) := by decide +kernel
theorem dX12_init_39 : decode cX12_init 39 = .ok (.newarray .int, 2) := by decide +kernel
theorem dX12_init_41 : decode cX12_init 41 = .ok (.putfield 22, 3) := by decide +kernel
theorem dX12_init_44 : decode cX12_init 44 = .ok (.aload_n 0, 1) := by decide +kernel
theorem dX12_init_45 : decode cX12_init 45 = .ok (.sipush 144, 3) := by decide +kernel
theorem dX12_init_48 : decode cX12_init 48 = .ok (.newarray .int, 2) := by decide +kernel
theorem dX12_init_50 : decode cX12_init 50 = .ok (.putfield 25, 3) := by decide +kernel
theorem dX12_init_53 : decode cX12_init 53 = .ok (.aload_n 0, 1) := by decide +kernel
theorem dX12_init_54 : decode cX12_init 54 = .ok (.sipush 144, 3) := by decide +kernel
theorem dX12_init_57 : decode cX12_init 57 = .ok (.newarray .int, 2) := by decide +kernel
theorem dX12_init_59 : decode cX12_init 59 = .ok (.putfield 28, 3) := by decide +kernel
theorem dX12_init_62 : decode cX12_init 62 = .ok (.aload_n 0, 1) := by decide +kernel
theorem dX12_init_63 : decode cX12_init 63 = .ok (.sipush 144, 3) := by decide +kernel
theorem dX12_init_66 : decode cX12_init 66 = .ok (.newarray .int, 2) := by decide +kernel
theorem dX12_init_68 : decode cX12_init 68 = .ok (.putfield 31, 3) := by decide +kernel
theorem dX12_init_71 : decode cX12_init 71 = .ok (.aload_n 0, 1) := by decide +kernel
theorem dX12_init_72 : decode cX12_init 72 = .ok (.sipush 144, 3) := by decide +kernel
theorem dX12_init_75 : decode cX12_init 75 = .ok (.newarray .boolean, 2) := by decide +kernel
theorem dX12_init_77 : decode cX12_init 77 = .ok (.putfield 34, 3) := by decide +kernel
theorem dX12_init_80 : decode cX12_init 80 = .ok (.aload_n 0, 1) := by decide +kernel
theorem dX12_init_81 : decode cX12_init 81 = .ok (.sipush 144, 3) := by decide +kernel
theorem dX12_init_84 : decode cX12_init 84 = .ok (.newarray .int, 2) := by decide +kernel
theorem dX12_init_86 : decode cX12_init 86 = .ok (.putfield 38, 3) := by decide +kernel
theorem dX12_init_89 : decode cX12_init 89 = .ok (.aload_n 0, 1) := by decide +kernel
theorem dX12_init_90 : decode cX12_init 90 = .ok (.sipush 144, 3) := by decide +kernel
theorem dX12_init_93 : decode cX12_init 93 = .ok (.newarray .int, 2) := by decide +kernel
theorem dX12_init_95 : decode cX12_init 95 = .ok (.putfield 41, 3) := by decide +kernel
theorem dX12_init_98 : decode cX12_init 98 = .ok (.aload_n 0, 1) := by decide +kernel
theorem dX12_init_99 : decode cX12_init 99 = .ok (.bipush 24, 2) := by decide +kernel
theorem dX12_init_101 : decode cX12_init 101 = .ok (.newarray .int, 2) := by decide +kernel
theorem dX12_init_103 : decode cX12_init 103 = .ok (.putfield 44, 3) := by decide +kernel
theorem dX12_init_106 : decode cX12_init 106 = .ok (.aload_n 0, 1) := by decide +kernel
theorem dX12_init_107 : decode cX12_init 107 = .ok (.bipush 24, 2) := by decide +kernel
theorem dX12_init_109 : decode cX12_init 109 = .ok (.newarray .int, 2) := by decide +kernel
theorem dX12_init_111 : decode cX12_init 111 = .ok (.putfield 47, 3) := by decide +kernel
theorem dX12_init_114 : decode cX12_init 114 = .ok (.aload_n 0, 1) := by decide +kernel
theorem dX12_init_115 : decode cX12_init 115 = .ok (.bipush 24, 2) := by decide +kernel
theorem dX12_init_117 : decode cX12_init 117 = .ok (.newarray .boolean, 2) := by decide +kernel
theorem dX12_init_119 : decode cX12_init 119 = .ok (.putfield 50, 3) := by decide +kernel
theorem dX12_init_122 : decode cX12_init 122 = .ok (.aload_n 0, 1) := by decide +kernel
theorem dX12_init_123 : decode cX12_init 123 = .ok (.sipush 8750, 3) := by decide +kernel
theorem dX12_init_126 : decode cX12_init 126 = .ok (.newarray .int, 2) := by decide +kernel
theorem dX12_init_128 : decode cX12_init 128 = .ok (.putfield 53, 3) := by decide +kernel
theorem dX12_init_131 : decode cX12_init 131 = .ok (.aload_n 0, 1) := by decide +kernel
theorem dX12_init_132 : decode cX12_init 132 = .ok (.bipush 25, 2) := by decide +kernel
theorem dX12_init_134 : decode cX12_init 134 = .ok (.newarray .int, 2) := by decide +kernel
theorem dX12_init_136 : decode cX12_init 136 = .ok (.putfield 56, 3) := by decide +kernel
theorem dX12_init_139 : decode cX12_init 139 = .ok (.aload_n 0, 1) := by decide +kernel
theorem dX12_init_140 : decode cX12_init 140 = .ok (.sipush 400, 3) := by decide +kernel
theorem dX12_init_143 : decode cX12_init 143 = .ok (.newarray .int, 2) := by decide +kernel
theorem dX12_init_145 : decode cX12_init 145 = .ok (.putfield 59, 3) := by decide +kernel
theorem dX12_init_148 : decode cX12_init 148 = .ok (.aload_n 0, 1) := by decide +kernel
theorem dX12_init_149 : decode cX12_init 149 = .ok (.sipush 400, 3) := by decide +kernel
theorem dX12_init_152 : decode cX12_init 152 = .ok (.newarray .int, 2) := by decide +kernel
theorem dX12_init_154 : decode cX12_init 154 = .ok (.putfield 62, 3) := by decide +kernel
theorem dX12_init_157 : decode cX12_init 157 = .ok (.aload_n 0, 1) := by decide +kernel
theorem dX12_init_158 : decode cX12_init 158 = .ok (.sipush 400, 3) := by decide +kernel
theorem dX12_init_161 : decode cX12_init 161 = .ok (.newarray .int, 2) := by decide +kernel
theorem dX12_init_163 : decode cX12_init 163 = .ok (.putfield 65, 3) := by decide +kernel
theorem dX12_init_166 : decode cX12_init 166 = .ok (.aload_n 0, 1) := by decide +kernel
theorem dX12_init_167 : decode cX12_init 167 = .ok (.sipush 400, 3) := by decide +kernel
theorem dX12_init_170 : decode cX12_init 170 = .ok (.newarray .int, 2) := by decide +kernel
theorem dX12_init_172 : decode cX12_init 172 = .ok (.putfield 68, 3) := by decide +kernel
theorem dX12_init_175 : decode cX12_init 175 = .ok (.aload_n 0, 1) := by decide +kernel
theorem dX12_init_176 : decode cX12_init 176 = .ok (.sipush 400, 3) := by decide +kernel
theorem dX12_init_179 : decode cX12_init 179 = .ok (.newarray .int, 2) := by decide +kernel
theorem dX12_init_181 : decode cX12_init 181 = .ok (.putfield 71, 3) := by decide +kernel
theorem dX12_init_184 : decode cX12_init 184 = .ok (.aload_n 0, 1) := by decide +kernel
theorem dX12_init_185 : decode cX12_init 185 = .ok (.ldc 74, 2) := by decide +kernel
theorem dX12_init_187 : decode cX12_init 187 = .ok (.newarray .int, 2) := by decide +kernel
theorem dX12_init_189 : decode cX12_init 189 = .ok (.putfield 75, 3) := by decide +kernel
theorem dX12_init_192 : decode cX12_init 192 = .ok (.aload_n 0, 1) := by decide +kernel
theorem dX12_init_193 : decode cX12_init 193 = .ok (.sipush 1001, 3) := by decide +kernel
theorem dX12_init_196 : decode cX12_init 196 = .ok (.newarray .int, 2) := by decide +kernel
theorem dX12_init_198 : decode cX12_init 198 = .ok (.putfield 78, 3) := by decide +kernel
theorem dX12_init_201 : decode cX12_init 201 = .ok (.aload_n 0, 1) := by decide +kernel
theorem dX12_init_202 : decode cX12_init 202 = .ok (.sipush 1001, 3) := by decide +kernel
theorem dX12_init_205 : decode cX12_init 205 = .ok (.newarray .int, 2) := by decide +kernel
theorem dX12_init_207 : decode cX12_init 207 = .ok (.putfield 81, 3) := by decide +kernel
theorem dX12_init_210 : decode cX12_init 210 = .ok (.aload_n 0, 1) := by decide +kernel
theorem dX12_init_211 : decode cX12_init 211 = .ok (.sipush 24000, 3) := by decide +kernel
theorem dX12_init_214 : decode cX12_init 214 = .ok (.newarray .int, 2) := by decide +kernel
theorem dX12_init_216 : decode cX12_init 216 = .ok (.putfield 84, 3) := by decide +kernel
theorem dX12_init_219 : decode cX12_init 219 = .ok (.aload_n 0, 1) := by decide +kernel
theorem dX12_init_220 : decode cX12_init 220 = .ok (.sipush 1001, 3) := by decide +kernel
theorem dX12_init_223 : decode cX12_init 223 = .ok (.newarray .int, 2) := by decide +kernel
theorem dX12_init_225 : decode cX12_init 225 = .ok (.putfield 87, 3) := by decide +kernel
theorem dX12_init_228 : decode cX12_init 228 = .ok (.aload_n 0, 1) := by decide +kernel
theorem dX12_init_229 : decode cX12_init 229 = .ok (.bipush 25, 2) := by decide +kernel
theorem dX12_init_231 : decode cX12_init 231 = .ok (.newarray .boolean, 2) := by decide +kernel
theorem dX12_init_233 : decode cX12_init 233 = .ok (.putfield 90, 3) := by decide +kernel
theorem dX12_init_236 : decode cX12_init 236 = .ok (.aload_n 0, 1) := by decide +kernel
theorem dX12_init_237 : decode cX12_init 237 = .ok (.bipush 24, 2) := by decide +kernel
theorem dX12_init_239 : decode cX12_init 239 = .ok (.newarray .long, 2) := by decide +kernel
theorem dX12_init_241 : decode cX12_init 241 = .ok (.putfield 93, 3) := by decide +kernel
theorem dX12_init_244 : decode cX12_init 244 = .ok (.aload_n 0, 1) := by decide +kernel
theorem dX12_init_245 : decode cX12_init 245 = .ok (.bipush 24, 2) := by decide +kernel
theorem dX12_init_247 : decode cX12_init 247 = .ok (.newarray .long, 2) := by decide +kernel
theorem dX12_init_249 : decode cX12_init 249 = .ok (.putfield 97, 3) := by decide +kernel
theorem dX12_init_252 : decode cX12_init 252 = .ok (.aload_n 0, 1) := by decide +kernel
theorem dX12_init_253 : decode cX12_init 253 = .ok (.bipush 6, 2) := by decide +kernel
theorem dX12_init_255 : decode cX12_init 255 = .ok (.newarray .int, 2) := by decide +kernel
theorem dX12_init_257 : decode cX12_init 257 = .ok (.putfield 100, 3) := by decide +kernel
theorem dX12_init_260 : decode cX12_init 260 = .ok (.aload_n 0, 1) := by decide +kernel
theorem dX12_init_261 : decode cX12_init 261 = .ok (.sipush 720, 3) := by decide +kernel
theorem dX12_init_264 : decode cX12_init 264 = .ok (.newarray .long, 2) := by decide +kernel
theorem dX12_init_266 : decode cX12_init 266 = .ok (.putfield 103, 3) := by decide +kernel
theorem dX12_init_269 : decode cX12_init 269 = .ok (.aload_n 0, 1) := by decide +kernel
theorem dX12_init_270 : decode cX12_init 270 = .ok (.bipush 6, 2) := by decide +kernel
theorem dX12_init_272 : decode cX12_init 272 = .ok (.newarray .int, 2) := by decide +kernel
theorem dX12_init_274 : decode cX12_init 274 = .ok (.putfield 106, 3) := by decide +kernel
theorem dX12_init_277 : decode cX12_init 277 = .ok (.aload_n 0, 1) := by decide +kernel
theorem dX12_init_278 : decode cX12_init 278 = .ok (.iconst 3, 1) := by decide +kernel
theorem dX12_init_279 : decode cX12_init 279 = .ok (.newarray .int, 2) := by decide +kernel
theorem dX12_init_281 : decode cX12_init 281 = .ok (.putfield 109, 3) := by decide +kernel
theorem dX12_init_284 : decode cX12_init 284 = .ok (.aload_n 0, 1) := by decide +kernel
theorem dX12_init_285 : decode cX12_init 285 = .ok (.iconst (-1), 1) := by decide +kernel
theorem dX12_init_286 : decode cX12_init 286 = .ok (.putfield 112, 3) := by decide +kernel
theorem dX12_init_289 : decode cX12_init 289 = .ok (.return_, 1) := by decide +kernel
theorem dX12_isIn_0 : decode cX12_isIn 0 = .ok (.lload_n 0, 1) := by decide +kernel
theorem dX12_isIn_1 : decode cX12_isIn 1 = .ok (.lload_n 2, 1) := by decide +kernel
theorem dX12_isIn_2 : decode cX12_isIn 2 = .ok (.lcmp, 1) := by decide +kernel
theorem dX12_isIn_3 : decode cX12_isIn 3 = .ok (.ifCond .lt 14, 3) := by decide +kernel
theorem dX12_isIn_6 : decode cX12_isIn 6 = .ok (.lload_n 0, 1) := by decide +kernel
theorem dX12_isIn_7 : decode cX12_isIn 7 = .ok (.lload 4, 2) := by decide +kernel
theorem dX12_isIn_9 : decode cX12_isIn 9 = .ok (.lcmp, 1) := by decide +kernel
theorem dX12_isIn_10 : decode cX12_isIn 10 = .ok (.ifCond .gt 7, 3) := by decide +kernel
theorem dX12_isIn_13 : decode cX12_isIn 13 = .ok (.iconst 1, 1) := by decide +kernel
theorem dX12_isIn_14 : decode cX12_isIn 14 = .ok (.goto 4, 3) := by decide +kernel
theorem dX12_isIn_17 : decode cX12_isIn 17 = .ok (.iconst 0, 1) := by decide +kernel
theorem dX12_isIn_18 : decode cX12_isIn 18 = .ok (.ireturn, 1) := by decide +kernel
theorem dX12_isVoice_0 : decode cX12_isVoice 0 = .ok (.iload_n 1, 1) := by decide +kernel
theorem dX12_isVoice_1 : decode cX12_isVoice 1 = .ok (.i2l, 1) := by decide +kernel
theorem dX12_isVoice_2 : decode cX12_isVoice 2 = .ok (.lconst 0, 1) := by decide +kernel
theorem dX12_isVoice_3 : decode cX12_isVoice 3 = .ok (.aload_n 0, 1) := by decide +kernel
theorem dX12_isVoice_4 : decode cX12_isVoice 4 = .ok (.getfield 116, 3) := by decide +kernel
theorem dX12_isVoice_7 : decode cX12_isVoice 7 = .ok (.iconst 1, 1) := by decide +kernel
theorem dX12_isVoice_8 : decode cX12_isVoice 8 = .ok (.isub, 1) := by decide +kernel
theorem dX12_isVoice_9 : decode cX12_isVoice 9 = .ok (.i2l, 1) := by decide +kernel
theorem dX12_isVoice_10 : decode cX12_isVoice 10 = .ok (.invokestatic 119, 3) := by decide +kernel
theorem dX12_isVoice_13 : decode cX12_isVoice 13 = .ok (.ireturn, 1) := by decide +kernel
theorem dX12_voice_0 : decode cX12_voice 0 = .ok (.iload_n 1, 1) := by decide +kernel
theorem dX12_voice_1 : decode cX12_voice 1 = .ok (.i2l, 1) := by decide +kernel
theorem dX12_voice_2 : decode cX12_voice 2 = .ok (.lconst 0, 1) := by decide +kernel
theorem dX12_voice_3 : decode cX12_voice 3 = .ok (.ldc2_w 123, 3) := by decide +kernel
theorem dX12_voice_6 : decode cX12_voice 6 = .ok (.invokestatic 119, 3) := by decide +kernel
theorem dX12_voice_9 : decode cX12_voice 9 = .ok (.ifCond .ne 6, 3) := by decide +kernel
theorem dX12_voice_12 : decode cX12_voice 12 = .ok (.bipush (-2), 2) := by decide +kernel
theorem dX12_voice_14 : decode cX12_voice 14 = .ok (.ireturn, 1) := by decide +kernel
theorem dX12_voice_15 : decode cX12_voice 15 = .ok (.aload_n 0, 1) := by decide +kernel
theorem dX12_voice_16 : decode cX12_voice 16 = .ok (.getfield 116, 3) := by decide +kernel
theorem dX12_voice_19 : decode cX12_voice 19 = .ok (.bipush 6, 2) := by decide +kernel
theorem dX12_voice_21 : decode cX12_voice 21 = .ok (.if_icmp .ne 6, 3) := by decide +kernel
theorem dX12_voice_24 : decode cX12_voice 24 = .ok (.bipush (-3), 2) := by decide +kernel
theorem dX12_voice_26 : decode cX12_voice 26 = .ok (.ireturn, 1) := by decide +kernel
theorem dX12_voice_27 : decode cX12_voice 27 = .ok (.aload_n 0, 1) := by decide +kernel
theorem dX12_voice_28 : decode cX12_voice 28 = .ok (.getfield 7, 3) := by decide +kernel
theorem dX12_voice_31 : decode cX12_voice 31 = .ok (.aload_n 0, 1) := by decide +kernel
theorem dX12_voice_32 : decode cX12_voice 32 = .ok (.getfield 116, 3) := by decide +kernel
theorem dX12_voice_35 : decode cX12_voice 35 = .ok (.iload_n 1, 1) := by decide +kernel
theorem dX12_voice_36 : decode cX12_voice 36 = .ok (.iastore, 1) := by decide +kernel
theorem dX12_voice_37 : decode cX12_voice 37 = .ok (.aload_n 0, 1) := by decide +kernel
theorem dX12_voice_38 : decode cX12_voice 38 = .ok (.getfield 16, 3) := by decide +kernel
theorem dX12_voice_41 : decode cX12_voice 41 = .ok (.aload_n 0, 1) := by decide +kernel
theorem dX12_voice_42 : decode cX12_voice 42 = .ok (.getfield 116, 3) := by decide +kernel
theorem dX12_voice_45 : decode cX12_voice 45 = .ok (.iconst 1, 1) := by decide +kernel
theorem dX12_voice_46 : decode cX12_voice 46 = .ok (.iastore, 1) := by decide +kernel
theorem dX12_voice_47 : decode cX12_voice 47 = .ok (.aload_n 0, 1) := by decide +kernel
theorem dX12_voice_48 : decode cX12_voice 48 = .ok (.getfield 19, 3) := by decide +kernel
theorem dX12_voice_51 : decode cX12_voice 51 = .ok (.aload_n 0, 1) := by decide +kernel
theorem dX12_voice_52 : decode cX12_voice 52 = .ok (.getfield 116, 3) := by decide +kernel
theorem dX12_voice_55 : decode cX12_voice 55 = .ok (.iconst 1, 1) := by decide +kernel
theorem dX12_voice_56 : decode cX12_voice 56 = .ok (.iastore, 1) := by decide +kernel
theorem dX12_voice_57 : decode cX12_voice 57 = .ok (.aload_n 0, 1) := by decide +kernel
theorem dX12_voice_58 : decode cX12_voice 58 = .ok (.dup, 1) := by decide +kernel
theorem dX12_voice_59 : decode cX12_voice 59 = .ok (.getfield 116, 3) := by decide +kernel
theorem dX12_voice_62 : decode cX12_voice 62 = .ok (.iconst 1, 1) := by decide +kernel
theorem dX12_voice_63 : decode cX12_voice 63 = .ok (.iadd, 1) := by decide +kernel
theorem dX12_voice_64 : decode cX12_voice 64 = .ok (.putfield 116, 3) := by decide +kernel
theorem dX12_voice_67 : decode cX12_voice 67 = .ok (.aload_n 0, 1) := by decide +kernel
theorem dX12_voice_68 : decode cX12_voice 68 = .ok (.getfield 116, 3) := by decide +kernel
theorem dX12_voice_71 : decode cX12_voice 71 = .ok (.iconst 1, 1) := by decide +kernel
theorem dX12_voice_72 : decode cX12_voice 72 = .ok (.isub, 1) := by decide +kernel
theorem dX12_voice_73 : decode cX12_voice 73 = .ok (.ireturn, 1) := by decide +kernel
theorem dX12_put_0 : decode cX12_put 0 = .ok (.bipush 24, 2) := by decide +kernel
theorem dX12_put_2 : decode cX12_put 2 = .ok (.iload_n 1, 1) := by decide +kernel
theorem dX12_put_3 : decode cX12_put 3 = .ok (.imul, 1) := by decide +kernel
theorem dX12_put_4 : decode cX12_put 4 = .ok (.aload_n 0, 1) := by decide +kernel
theorem dX12_put_5 : decode cX12_put 5 = .ok (.getfield 13, 3) := by decide +kernel
theorem dX12_put_8 : decode cX12_put 8 = .ok (.iload_n 1, 1) := by decide +kernel
theorem dX12_put_9 : decode cX12_put 9 = .ok (.iaload, 1) := by decide +kernel
theorem dX12_put_10 : decode cX12_put 10 = .ok (.iadd, 1) := by decide +kernel
theorem dX12_put_11 : decode cX12_put 11 = .ok (.istore 6, 2) := by decide +kernel
theorem dX12_put_13 : decode cX12_put 13 = .ok (.aload_n 0, 1) := by decide +kernel
theorem dX12_put_14 : decode cX12_put 14 = .ok (.getfield 25, 3) := by decide +kernel
theorem dX12_put_17 : decode cX12_put 17 = .ok (.iload 6, 2) := by decide +kernel
theorem dX12_put_19 : decode cX12_put 19 = .ok (.iload_n 2, 1) := by decide +kernel
theorem dX12_put_20 : decode cX12_put 20 = .ok (.iastore, 1) := by decide +kernel
theorem dX12_put_21 : decode cX12_put 21 = .ok (.aload_n 0, 1) := by decide +kernel
theorem dX12_put_22 : decode cX12_put 22 = .ok (.getfield 28, 3) := by decide +kernel
theorem dX12_put_25 : decode cX12_put 25 = .ok (.iload 6, 2) := by decide +kernel
theorem dX12_put_27 : decode cX12_put 27 = .ok (.iload_n 3, 1) := by decide +kernel
theorem dX12_put_28 : decode cX12_put 28 = .ok (.iastore, 1) := by decide +kernel
theorem dX12_put_29 : decode cX12_put 29 = .ok (.aload_n 0, 1) := by decide +kernel
theorem dX12_put_30 : decode cX12_put 30 = .ok (.getfield 31, 3) := by decide +kernel
theorem dX12_put_33 : decode cX12_put 33 = .ok (.iload 6, 2) := by decide +kernel
theorem dX12_put_35 : decode cX12_put 35 = .ok (.iload 4, 2) := by decide +kernel
theorem dX12_put_37 : decode cX12_put 37 = .ok (.iastore, 1) := by decide +kernel
theorem dX12_put_38 : decode cX12_put 38 = .ok (.aload_n 0, 1) := by decide +kernel
theorem dX12_put_39 : decode cX12_put 39 = .ok (.getfield 34, 3) := by decide +kernel
theorem dX12_put_42 : decode cX12_put 42 = .ok (.iload 6, 2) := by decide +kernel
theorem dX12_put_44 : decode cX12_put 44 = .ok (.iload 5, 2) := by decide +kernel
theorem dX12_put_46 : decode cX12_put 46 = .ok (.bastore, 1) := by decide +kernel
theorem dX12_put_47 : decode cX12_put 47 = .ok (.aload_n 0, 1) := by decide +kernel
theorem dX12_put_48 : decode cX12_put 48 = .ok (.getfield 38, 3) := by decide +kernel
theorem dX12_put_51 : decode cX12_put 51 = .ok (.iload 6, 2) := by decide +kernel
theorem dX12_put_53 : decode cX12_put 53 = .ok (.aload_n 0, 1) := by decide +kernel
theorem dX12_put_54 : decode cX12_put 54 = .ok (.getfield 16, 3) := by decide +kernel
theorem dX12_put_57 : decode cX12_put 57 = .ok (.iload_n 1, 1) := by decide +kernel
theorem dX12_put_58 : decode cX12_put 58 = .ok (.iaload, 1) := by decide +kernel
theorem dX12_put_59 : decode cX12_put 59 = .ok (.iastore, 1) := by decide +kernel
theorem dX12_put_60 : decode cX12_put 60 = .ok (.aload_n 0, 1) := by decide +kernel
theorem dX12_put_61 : decode cX12_put 61 = .ok (.getfield 41, 3) := by decide +kernel
theorem dX12_put_64 : decode cX12_put 64 = .ok (.iload 6, 2) := by decide +kernel
theorem dX12_put_66 : decode cX12_put 66 = .ok (.aload_n 0, 1) := by decide +kernel
theorem dX12_put_67 : decode cX12_put 67 = .ok (.getfield 19, 3) := by decide +kernel
theorem dX12_put_70 : decode cX12_put 70 = .ok (.iload_n 1, 1) := by decide +kernel
theorem dX12_put_71 : decode cX12_put 71 = .ok (.iaload, 1) := by decide +kernel
theorem dX12_put_72 : decode cX12_put 72 = .ok (.iastore, 1) := by decide +kernel
theorem dX12_put_73 : decode cX12_put 73 = .ok (.aload_n 0, 1) := by decide +kernel
theorem dX12_put_74 : decode cX12_put 74 = .ok (.getfield 13, 3) := by decide +kernel
theorem dX12_put_77 : decode cX12_put 77 = .ok (.iload_n 1, 1) := by decide +kernel
theorem dX12_put_78 : decode cX12_put 78 = .ok (.dup2, 1) := by decide +kernel
theorem dX12_put_79 : decode cX12_put 79 = .ok (.iaload, 1) := by decide +kernel
theorem dX12_put_80 : decode cX12_put 80 = .ok (.iconst 1, 1) := by decide +kernel
theorem dX12_put_81 : decode cX12_put 81 = .ok (.iadd, 1) := by decide +kernel
theorem dX12_put_82 : decode cX12_put 82 = .ok (.iastore, 1) := by decide +kernel
theorem dX12_put_83 : decode cX12_put 83 = .ok (.aload_n 0, 1) := by decide +kernel
theorem dX12_put_84 : decode cX12_put 84 = .ok (.iload_n 1, 1) := by decide +kernel
theorem dX12_put_85 : decode cX12_put 85 = .ok (.invokevirtual 125, 3) := by decide +kernel
theorem dX12_put_88 : decode cX12_put 88 = .ok (.aload_n 0, 1) := by decide +kernel
theorem dX12_put_89 : decode cX12_put 89 = .ok (.getfield 13, 3) := by decide +kernel
theorem dX12_put_92 : decode cX12_put 92 = .ok (.iload_n 1, 1) := by decide +kernel
theorem dX12_put_93 : decode cX12_put 93 = .ok (.iaload, 1) := by decide +kernel
theorem dX12_put_94 : decode cX12_put 94 = .ok (.iconst 1, 1) := by decide +kernel
theorem dX12_put_95 : decode cX12_put 95 = .ok (.isub, 1) := by decide +kernel
theorem dX12_put_96 : decode cX12_put 96 = .ok (.ireturn, 1) := by decide +kernel
theorem dX12_change_0 : decode cX12_change 0 = .ok (.aload_n 0, 1) := by decide +kernel
theorem dX12_change_1 : decode cX12_change 1 = .ok (.getfield 22, 3) := by decide +kernel
theorem dX12_change_4 : decode cX12_change 4 = .ok (.iload_n 1, 1) := by decide +kernel
theorem dX12_change_5 : decode cX12_change 5 = .ok (.iconst 0, 1) := by decide +kernel
theorem dX12_change_6 : decode cX12_change 6 = .ok (.iastore, 1) := by decide +kernel
theorem dX12_change_7 : decode cX12_change 7 = .ok (.aload_n 0, 1) := by decide +kernel
theorem dX12_change_8 : decode cX12_change 8 = .ok (.aload_n 0, 1) := by decide +kernel
theorem dX12_change_9 : decode cX12_change 9 = .ok (.getfield 112, 3) := by decide +kernel
theorem dX12_change_12 : decode cX12_change 12 = .ok (.iload_n 1, 1) := by decide +kernel
theorem dX12_change_13 : decode cX12_change 13 = .ok (.if_icmp .ne 7, 3) := by decide +kernel
theorem dX12_change_16 : decode cX12_change 16 = .ok (.iconst (-1), 1) := by decide +kernel
theorem dX12_change_17 : decode cX12_change 17 = .ok (.goto 7, 3) := by decide +kernel
theorem dX12_change_20 : decode cX12_change 20 = .ok (.aload_n 0, 1) := by decide +kernel
theorem dX12_change_21 : decode cX12_change 21 = .ok (.getfield 112, 3) := by decide +kernel
theorem dX12_change_24 : decode cX12_change 24 = .ok (.putfield 112, 3) := by decide +kernel
theorem dX12_change_27 : decode cX12_change 27 = .ok (.return_, 1) := by decide +kernel
theorem dX12_note_0 : decode cX12_note 0 = .ok (.aload_n 0, 1) := by decide +kernel
theorem dX12_note_1 : decode cX12_note 1 = .ok (.iload_n 1, 1) := by decide +kernel
theorem dX12_note_2 : decode cX12_note 2 = .ok (.invokevirtual 129, 3) := by decide +kernel
theorem dX12_note_5 : decode cX12_note 5 = .ok (.ifCond .eq 29, 3) := by decide +kernel
theorem dX12_note_8 : decode cX12_note 8 = .ok (.iload_n 2, 1) := by decide +kernel
theorem dX12_note_9 : decode cX12_note 9 = .ok (.i2l, 1) := by decide +kernel
theorem dX12_note_10 : decode cX12_note 10 = .ok (.lconst 0, 1) := by decide +kernel
theorem dX12_note_11 : decode cX12_note 11 = .ok (.ldc2_w 133, 3) := by decide +kernel
theorem dX12_note_14 : decode cX12_note 14 = .ok (.invokestatic 119, 3) := by decide +kernel
theorem dX12_note_17 : decode cX12_note 17 = .ok (.ifCond .eq 17, 3) := by decide +kernel
theorem dX12_note_20 : decode cX12_note 20 = .ok (.iload_n 3, 1) := by decide +kernel
theorem dX12_note_21 : decode cX12_note 21 = .ok (.i2l, 1) := by decide +kernel
theorem dX12_note_22 : decode cX12_note 22 = .ok (.ldc2_w 135, 3) := by decide +kernel
theorem dX12_note_25 : decode cX12_note 25 = .ok (.ldc2_w 137, 3) := by decide +kernel
theorem dX12_note_28 : decode cX12_note 28 = .ok (.invokestatic 119, 3) := by decide +kernel
theorem dX12_note_31 : decode cX12_note 31 = .ok (.ifCond .ne 6, 3) := by decide +kernel
theorem dX12_note_34 : decode cX12_note 34 = .ok (.bipush (-2), 2) := by decide +kernel
theorem dX12_note_36 : decode cX12_note 36 = .ok (.ireturn, 1) := by decide +kernel
theorem dX12_note_37 : decode cX12_note 37 = .ok (.aload_n 0, 1) := by decide +kernel
theorem dX12_note_38 : decode cX12_note 38 = .ok (.getfield 13, 3) := by decide +kernel
theorem dX12_note_41 : decode cX12_note 41 = .ok (.iload_n 1, 1) := by decide +kernel
theorem dX12_note_42 : decode cX12_note 42 = .ok (.iaload, 1) := by decide +kernel
theorem dX12_note_43 : decode cX12_note 43 = .ok (.bipush 24, 2) := by decide +kernel
theorem dX12_note_45 : decode cX12_note 45 = .ok (.if_icmp .ne 8, 3) := by decide +kernel
theorem dX12_note_48 : decode cX12_note 48 = .ok (.bipush (-3), 2) := by decide +kernel
theorem dX12_note_50 : decode cX12_note 50 = .ok (.goto 13, 3) := by decide +kernel
theorem dX12_note_53 : decode cX12_note 53 = .ok (.aload_n 0, 1) := by decide +kernel
theorem dX12_note_54 : decode cX12_note 54 = .ok (.iload_n 1, 1) := by decide +kernel
theorem dX12_note_55 : decode cX12_note 55 = .ok (.iconst 1, 1) := by decide +kernel
theorem dX12_note_56 : decode cX12_note 56 = .ok (.iload_n 2, 1) := by decide +kernel
theorem dX12_note_57 : decode cX12_note 57 = .ok (.iload_n 3, 1) := by decide +kernel
theorem dX12_note_58 : decode cX12_note 58 = .ok (.iload 4, 2) := by decide +kernel
theorem dX12_note_60 : decode cX12_note 60 = .ok (.invokevirtual 139, 3) := by decide +kernel
theorem dX12_note_63 : decode cX12_note 63 = .ok (.ireturn, 1) := by decide +kernel
theorem dX12_rest_0 : decode cX12_rest 0 = .ok (.aload_n 0, 1) := by decide +kernel
theorem dX12_rest_1 : decode cX12_rest 1 = .ok (.iload_n 1, 1) := by decide +kernel
theorem dX12_rest_2 : decode cX12_rest 2 = .ok (.invokevirtual 129, 3) := by decide +kernel
theorem dX12_rest_5 : decode cX12_rest 5 = .ok (.ifCond .eq 15, 3) := by decide +kernel
theorem dX12_rest_8 : decode cX12_rest 8 = .ok (.iload_n 2, 1) := by decide +kernel
theorem dX12_rest_9 : decode cX12_rest 9 = .ok (.i2l, 1) := by decide +kernel
theorem dX12_rest_10 : decode cX12_rest 10 = .ok (.lconst 0, 1) := by decide +kernel
theorem dX12_rest_11 : decode cX12_rest 11 = .ok (.ldc2_w 133, 3) := by decide +kernel
theorem dX12_rest_14 : decode cX12_rest 14 = .ok (.invokestatic 119, 3) := by decide +kernel
theorem dX12_rest_17 : decode cX12_rest 17 = .ok (.ifCond .ne 6, 3) := by decide +kernel
theorem dX12_rest_20 : decode cX12_rest 20 = .ok (.bipush (-2), 2) := by decide +kernel
theorem dX12_rest_22 : decode cX12_rest 22 = .ok (.ireturn, 1) := by decide +kernel
theorem dX12_rest_23 : decode cX12_rest 23 = .ok (.aload_n 0, 1) := by decide +kernel
theorem dX12_rest_24 : decode cX12_rest 24 = .ok (.getfield 13, 3) := by decide +kernel
theorem dX12_rest_27 : decode cX12_rest 27 = .ok (.iload_n 1, 1) := by decide +kernel
theorem dX12_rest_28 : decode cX12_rest 28 = .ok (.iaload, 1) := by decide +kernel
theorem dX12_rest_29 : decode cX12_rest 29 = .ok (.bipush 24, 2) := by decide +kernel
theorem dX12_rest_31 : decode cX12_rest 31 = .ok (.if_icmp .ne 8, 3) := by decide +kernel
theorem dX12_rest_34 : decode cX12_rest 34 = .ok (.bipush (-3), 2) := by decide +kernel
theorem dX12_rest_36 : decode cX12_rest 36 = .ok (.goto 12, 3) := by decide +kernel
theorem dX12_rest_39 : decode cX12_rest 39 = .ok (.aload_n 0, 1) := by decide +kernel
theorem dX12_rest_40 : decode cX12_rest 40 = .ok (.iload_n 1, 1) := by decide +kernel
theorem dX12_rest_41 : decode cX12_rest 41 = .ok (.iconst 2, 1) := by decide +kernel
theorem dX12_rest_42 : decode cX12_rest 42 = .ok (.iload_n 2, 1) := by decide +kernel
theorem dX12_rest_43 : decode cX12_rest 43 = .ok (.iconst 0, 1) := by decide +kernel
theorem dX12_rest_44 : decode cX12_rest 44 = .ok (.iconst 0, 1) := by decide +kernel
theorem dX12_rest_45 : decode cX12_rest 45 = .ok (.invokevirtual 139, 3) := by decide +kernel
theorem dX12_rest_48 : decode cX12_rest 48 = .ok (.ireturn, 1) := by decide +kernel
theorem dX12_dot_0 : decode cX12_dot 0 = .ok (.aload_n 0, 1) := by decide +kernel
theorem dX12_dot_1 : decode cX12_dot 1 = .ok (.iload_n 1, 1) := by decide +kernel
theorem dX12_dot_2 : decode cX12_dot 2 = .ok (.invokevirtual 129, 3) := by decide +kernel
theorem dX12_dot_5 : decode cX12_dot 5 = .ok (.ifCond .eq 34, 3) := by decide +kernel
theorem dX12_dot_8 : decode cX12_dot 8 = .ok (.aload_n 0, 1) := by decide +kernel
theorem dX12_dot_9 : decode cX12_dot 9 = .ok (.getfield 13, 3) := by decide +kernel
theorem dX12_dot_12 : decode cX12_dot 12 = .ok (.iload_n 1, 1) := by decide +kernel
theorem dX12_dot_13 : decode cX12_dot 13 = .ok (.iaload, 1) := by decide +kernel
theorem dX12_dot_14 : decode cX12_dot 14 = .ok (.ifCond .eq 25, 3) := by decide +kernel
theorem dX12_dot_17 : decode cX12_dot 17 = .ok (.aload_n 0, 1) := by decide +kernel
theorem dX12_dot_18 : decode cX12_dot 18 = .ok (.getfield 25, 3) := by decide +kernel
theorem dX12_dot_21 : decode cX12_dot 21 = .ok (.bipush 24, 2) := by decide +kernel
theorem dX12_dot_23 : decode cX12_dot 23 = .ok (.iload_n 1, 1) := by decide +kernel
theorem dX12_dot_24 : decode cX12_dot 24 = .ok (.imul, 1) := by decide +kernel
theorem dX12_dot_25 : decode cX12_dot 25 = .ok (.aload_n 0, 1) := by decide +kernel
theorem dX12_dot_26 : decode cX12_dot 26 = .ok (.getfield 13, 3) := by decide +kernel
theorem dX12_dot_29 : decode cX12_dot 29 = .ok (.iload_n 1, 1) := by decide +kernel
theorem dX12_dot_30 : decode cX12_dot 30 = .ok (.iaload, 1) := by decide +kernel
theorem dX12_dot_31 : decode cX12_dot 31 = .ok (.iadd, 1) := by decide +kernel
theorem dX12_dot_32 : decode cX12_dot 32 = .ok (.iconst 1, 1) := by decide +kernel
theorem dX12_dot_33 : decode cX12_dot 33 = .ok (.isub, 1) := by decide +kernel
theorem dX12_dot_34 : decode cX12_dot 34 = .ok (.iaload, 1) := by decide +kernel
theorem dX12_dot_35 : decode cX12_dot 35 = .ok (.iconst 3, 1) := by decide +kernel
theorem dX12_dot_36 : decode cX12_dot 36 = .ok (.if_icmp .ne 6, 3) := by decide +kernel
theorem dX12_dot_39 : decode cX12_dot 39 = .ok (.bipush (-2), 2) := by decide +kernel
theorem dX12_dot_41 : decode cX12_dot 41 = .ok (.ireturn, 1) := by decide +kernel
theorem dX12_dot_42 : decode cX12_dot 42 = .ok (.aload_n 0, 1) := by decide +kernel
theorem dX12_dot_43 : decode cX12_dot 43 = .ok (.getfield 13, 3) := by decide +kernel
theorem dX12_dot_46 : decode cX12_dot 46 = .ok (.iload_n 1, 1) := by decide +kernel
theorem dX12_dot_47 : decode cX12_dot 47 = .ok (.iaload, 1) := by decide +kernel
theorem dX12_dot_48 : decode cX12_dot 48 = .ok (.bipush 24, 2) := by decide +kernel
theorem dX12_dot_50 : decode cX12_dot 50 = .ok (.if_icmp .ne 8, 3) := by decide +kernel
theorem dX12_dot_53 : decode cX12_dot 53 = .ok (.bipush (-3), 2) := by decide +kernel
theorem dX12_dot_55 : decode cX12_dot 55 = .ok (.goto 12, 3) := by decide +kernel
theorem dX12_dot_58 : decode cX12_dot 58 = .ok (.aload_n 0, 1) := by decide +kernel
theorem dX12_dot_59 : decode cX12_dot 59 = .ok (.iload_n 1, 1) := by decide +kernel
theorem dX12_dot_60 : decode cX12_dot 60 = .ok (.iconst 3, 1) := by decide +kernel
theorem dX12_dot_61 : decode cX12_dot 61 = .ok (.iconst 0, 1) := by decide +kernel
theorem dX12_dot_62 : decode cX12_dot 62 = .ok (.iconst 0, 1) := by decide +kernel
theorem dX12_dot_63 : decode cX12_dot 63 = .ok (.iconst 0, 1) := by decide +kernel
theorem dX12_dot_64 : decode cX12_dot 64 = .ok (.invokevirtual 139, 3) := by decide +kernel
theorem dX12_dot_67 : decode cX12_dot 67 = .ok (.ireturn, 1) := by decide +kernel
theorem dX12_pitchIn_0 : decode cX12_pitchIn 0 = .ok (.lload_n 0, 1) := by decide +kernel
theorem dX12_pitchIn_1 : decode cX12_pitchIn 1 = .ok (.bipush 56, 2) := by decide +kernel
theorem dX12_pitchIn_3 : decode cX12_pitchIn 3 = .ok (.bipush 8, 2) := by decide +kernel
theorem dX12_pitchIn_5 : decode cX12_pitchIn 5 = .ok (.iload_n 2, 1) := by decide +kernel
theorem dX12_pitchIn_6 : decode cX12_pitchIn 6 = .ok (.imul, 1) := by decide +kernel
theorem dX12_pitchIn_7 : decode cX12_pitchIn 7 = .ok (.isub, 1) := by decide +kernel
theorem dX12_pitchIn_8 : decode cX12_pitchIn 8 = .ok (.lshl, 1) := by decide +kernel
theorem dX12_pitchIn_9 : decode cX12_pitchIn 9 = .ok (.bipush 56, 2) := by decide +kernel
theorem dX12_pitchIn_11 : decode cX12_pitchIn 11 = .ok (.lshr, 1) := by decide +kernel
theorem dX12_pitchIn_12 : decode cX12_pitchIn 12 = .ok (.l2i, 1) := by decide +kernel
theorem dX12_pitchIn_13 : decode cX12_pitchIn 13 = .ok (.ireturn, 1) := by decide +kernel
theorem dX12_ligature_0 : decode cX12_ligature 0 = .ok (.aload_n 0, 1) := by decide +kernel
theorem dX12_ligature_1 : decode cX12_ligature 1 = .ok (.iload_n 1, 1) := by decide +kernel
theorem dX12_ligature_2 : decode cX12_ligature 2 = .ok (.invokevirtual 129, 3) := by decide +kernel
theorem dX12_ligature_5 : decode cX12_ligature 5 = .ok (.ifCond .eq 29, 3) := by decide +kernel
theorem dX12_ligature_8 : decode cX12_ligature 8 = .ok (.iload_n 2, 1) := by decide +kernel
theorem dX12_ligature_9 : decode cX12_ligature 9 = .ok (.i2l, 1) := by decide +kernel
theorem dX12_ligature_10 : decode cX12_ligature 10 = .ok (.lconst 0, 1) := by decide +kernel
theorem dX12_ligature_11 : decode cX12_ligature 11 = .ok (.ldc2_w 123, 3) := by decide +kernel
theorem dX12_ligature_14 : decode cX12_ligature 14 = .ok (.invokestatic 119, 3) := by decide +kernel
theorem dX12_ligature_17 : decode cX12_ligature 17 = .ok (.ifCond .eq 17, 3) := by decide +kernel
theorem dX12_ligature_20 : decode cX12_ligature 20 = .ok (.iload_n 3, 1) := by decide +kernel
theorem dX12_ligature_21 : decode cX12_ligature 21 = .ok (.i2l, 1) := by decide +kernel
theorem dX12_ligature_22 : decode cX12_ligature 22 = .ok (.ldc2_w 143, 3) := by decide +kernel
theorem dX12_ligature_25 : decode cX12_ligature 25 = .ok (.ldc2_w 145, 3) := by decide +kernel
theorem dX12_ligature_28 : decode cX12_ligature 28 = .ok (.invokestatic 119, 3) := by decide +kernel
theorem dX12_ligature_31 : decode cX12_ligature 31 = .ok (.ifCond .ne 6, 3) := by decide +kernel
theorem dX12_ligature_34 : decode cX12_ligature 34 = .ok (.bipush (-2), 2) := by decide +kernel
theorem dX12_ligature_36 : decode cX12_ligature 36 = .ok (.ireturn, 1) := by decide +kernel
theorem dX12_ligature_37 : decode cX12_ligature 37 = .ok (.iconst 1, 1) := by decide +kernel
theorem dX12_ligature_38 : decode cX12_ligature 38 = .ok (.istore 6, 2) := by decide +kernel
theorem dX12_ligature_40 : decode cX12_ligature 40 = .ok (.iconst 1, 1) := by decide +kernel
theorem dX12_ligature_41 : decode cX12_ligature 41 = .ok (.istore 7, 2) := by decide +kernel
theorem dX12_ligature_43 : decode cX12_ligature 43 = .ok (.iconst 0, 1) := by decide +kernel
theorem dX12_ligature_44 : decode cX12_ligature 44 = .ok (.istore 8, 2) := by decide +kernel
theorem dX12_ligature_46 : decode cX12_ligature 46 = .ok (.iload 8, 2) := by decide +kernel
theorem dX12_ligature_48 : decode cX12_ligature 48 = .ok (.iload_n 3, 1) := by decide +kernel
theorem dX12_ligature_49 : decode cX12_ligature 49 = .ok (.if_icmp .ge 77, 3) := by decide +kernel
theorem dX12_ligature_52 : decode cX12_ligature 52 = .ok (.iload 6, 2) := by decide +kernel
theorem dX12_ligature_54 : decode cX12_ligature 54 = .ok (.ifCond .eq 27, 3) := by decide +kernel
theorem dX12_ligature_57 : decode cX12_ligature 57 = .ok (.lload 4, 2) := by decide +kernel
theorem dX12_ligature_59 : decode cX12_ligature 59 = .ok (.iload 8, 2) := by decide +kernel
theorem dX12_ligature_61 : decode cX12_ligature 61 = .ok (.invokestatic 147, 3) := by decide +kernel
theorem dX12_ligature_64 : decode cX12_ligature 64 = .ok (.i2l, 1) := by decide +kernel
theorem dX12_ligature_65 : decode cX12_ligature 65 = .ok (.ldc2_w 135, 3) := by decide +kernel
theorem dX12_ligature_68 : decode cX12_ligature 68 = .ok (.ldc2_w 137, 3) := by decide +kernel
theorem dX12_ligature_71 : decode cX12_ligature 71 = .ok (.invokestatic 119, 3) := by decide +kernel
theorem dX12_ligature_74 : decode cX12_ligature 74 = .ok (.ifCond .eq 7, 3) := by decide +kernel
theorem dX12_ligature_77 : decode cX12_ligature 77 = .ok (.iconst 1, 1) := by decide +kernel
theorem dX12_ligature_78 : decode cX12_ligature 78 = .ok (.goto 4, 3) := by decide +kernel
theorem dX12_ligature_81 : decode cX12_ligature 81 = .ok (.iconst 0, 1) := by decide +kernel
theorem dX12_ligature_82 : decode cX12_ligature 82 = .ok (.istore 6, 2) := by decide +kernel
theorem dX12_ligature_84 : decode cX12_ligature 84 = .ok (.iload 7, 2) := by decide +kernel
theorem dX12_ligature_86 : decode cX12_ligature 86 = .ok (.ifCond .eq 31, 3) := by decide +kernel
theorem dX12_ligature_89 : decode cX12_ligature 89 = .ok (.iload 8, 2) := by decide +kernel
theorem dX12_ligature_91 : decode cX12_ligature 91 = .ok (.ifCond .eq 22, 3) := by decide +kernel
theorem dX12_ligature_94 : decode cX12_ligature 94 = .ok (.lload 4, 2) := by decide +kernel
theorem dX12_ligature_96 : decode cX12_ligature 96 = .ok (.iload 8, 2) := by decide +kernel
theorem dX12_ligature_98 : decode cX12_ligature 98 = .ok (.invokestatic 147, 3) := by decide +kernel
theorem dX12_ligature_101 : decode cX12_ligature 101 = .ok (.lload 4, 2) := by decide +kernel
theorem dX12_ligature_103 : decode cX12_ligature 103 = .ok (.iload 8, 2) := by decide +kernel
theorem dX12_ligature_105 : decode cX12_ligature 105 = .ok (.iconst 1, 1) := by decide +kernel
theorem dX12_ligature_106 : decode cX12_ligature 106 = .ok (.isub, 1) := by decide +kernel
theorem dX12_ligature_107 : decode cX12_ligature 107 = .ok (.invokestatic 147, 3) := by decide +kernel
theorem dX12_ligature_110 : decode cX12_ligature 110 = .ok (.if_icmp .eq 7, 3) := by decide +kernel
theorem dX12_ligature_113 : decode cX12_ligature 113 = .ok (.iconst 1, 1) := by decide +kernel
theorem dX12_ligature_114 : decode cX12_ligature 114 = .ok (.goto 4, 3) := by decide +kernel
theorem dX12_ligature_117 : decode cX12_ligature 117 = .ok (.iconst 0, 1) := by decide +kernel
theorem dX12_ligature_118 : decode cX12_ligature 118 = .ok (.istore 7, 2) := by decide +kernel
theorem dX12_ligature_120 : decode cX12_ligature 120 = .ok (.iinc 8 1, 3) := by decide +kernel
theorem dX12_ligature_123 : decode cX12_ligature 123 = .ok (.goto (-77), 3) := by decide +kernel
theorem dX12_ligature_126 : decode cX12_ligature 126 = .ok (.iload 6, 2) := by decide +kernel
theorem dX12_ligature_128 : decode cX12_ligature 128 = .ok (.ifCond .ne 6, 3) := by decide +kernel
theorem dX12_ligature_131 : decode cX12_ligature 131 = .ok (.bipush (-2), 2) := by decide +kernel
theorem dX12_ligature_133 : decode cX12_ligature 133 = .ok (.ireturn, 1) := by decide +kernel
theorem dX12_ligature_134 : decode cX12_ligature 134 = .ok (.lload 4, 2) := by decide +kernel
theorem dX12_ligature_136 : decode cX12_ligature 136 = .ok (.iload_n 3, 1) := by decide +kernel
theorem dX12_ligature_137 : decode cX12_ligature 137 = .ok (.iconst 1, 1) := by decide +kernel
theorem dX12_ligature_138 : decode cX12_ligature 138 = .ok (.isub, 1) := by decide +kernel
theorem dX12_ligature_139 : decode cX12_ligature 139 = .ok (.invokestatic 147, 3) := by decide +kernel
theorem dX12_ligature_142 : decode cX12_ligature 142 = .ok (.lload 4, 2) := by decide +kernel
theorem dX12_ligature_144 : decode cX12_ligature 144 = .ok (.iload_n 3, 1) := by decide +kernel
theorem dX12_ligature_145 : decode cX12_ligature 145 = .ok (.iconst 2, 1) := by decide +kernel
theorem dX12_ligature_146 : decode cX12_ligature 146 = .ok (.isub, 1) := by decide +kernel
theorem dX12_ligature_147 : decode cX12_ligature 147 = .ok (.invokestatic 147, 3) := by decide +kernel
theorem dX12_ligature_150 : decode cX12_ligature 150 = .ok (.if_icmp .ge 7, 3) := by decide +kernel
theorem dX12_ligature_153 : decode cX12_ligature 153 = .ok (.iconst 1, 1) := by decide +kernel
theorem dX12_ligature_154 : decode cX12_ligature 154 = .ok (.goto 4, 3) := by decide +kernel
theorem dX12_ligature_157 : decode cX12_ligature 157 = .ok (.iconst 0, 1) := by decide +kernel
theorem dX12_ligature_158 : decode cX12_ligature 158 = .ok (.istore 8, 2) := by decide +kernel
theorem dX12_ligature_160 : decode cX12_ligature 160 = .ok (.iload 7, 2) := by decide +kernel
theorem dX12_ligature_162 : decode cX12_ligature 162 = .ok (.ifCond .eq 21, 3) := by decide +kernel
theorem dX12_ligature_165 : decode cX12_ligature 165 = .ok (.iload_n 2, 1) := by decide +kernel
theorem dX12_ligature_166 : decode cX12_ligature 166 = .ok (.iconst 3, 1) := by decide +kernel
theorem dX12_ligature_167 : decode cX12_ligature 167 = .ok (.iand, 1) := by decide +kernel
theorem dX12_ligature_168 : decode cX12_ligature 168 = .ok (.iconst 3, 1) := by decide +kernel
theorem dX12_ligature_169 : decode cX12_ligature 169 = .ok (.if_icmp .eq 14, 3) := by decide +kernel
theorem dX12_ligature_172 : decode cX12_ligature 172 = .ok (.iload_n 2, 1) := by decide +kernel
theorem dX12_ligature_173 : decode cX12_ligature 173 = .ok (.iconst 4, 1) := by decide +kernel
theorem dX12_ligature_174 : decode cX12_ligature 174 = .ok (.iand, 1) := by decide +kernel
theorem dX12_ligature_175 : decode cX12_ligature 175 = .ok (.ifCond .eq 11, 3) := by decide +kernel
theorem dX12_ligature_178 : decode cX12_ligature 178 = .ok (.iload 8, 2) := by decide +kernel
theorem dX12_ligature_180 : decode cX12_ligature 180 = .ok (.ifCond .ne 6, 3) := by decide +kernel
theorem dX12_ligature_183 : decode cX12_ligature 183 = .ok (.bipush (-5), 2) := by decide +kernel
theorem dX12_ligature_185 : decode cX12_ligature 185 = .ok (.ireturn, 1) := by decide +kernel
theorem dX12_ligature_186 : decode cX12_ligature 186 = .ok (.aload_n 0, 1) := by decide +kernel
theorem dX12_ligature_187 : decode cX12_ligature 187 = .ok (.getfield 13, 3) := by decide +kernel
theorem dX12_ligature_190 : decode cX12_ligature 190 = .ok (.iload_n 1, 1) := by decide +kernel
theorem dX12_ligature_191 : decode cX12_ligature 191 = .ok (.iaload, 1) := by decide +kernel
theorem dX12_ligature_192 : decode cX12_ligature 192 = .ok (.iload_n 3, 1) := by decide +kernel
theorem dX12_ligature_193 : decode cX12_ligature 193 = .ok (.iadd, 1) := by decide +kernel
theorem dX12_ligature_194 : decode cX12_ligature 194 = .ok (.bipush 24, 2) := by decide +kernel
theorem dX12_ligature_196 : decode cX12_ligature 196 = .ok (.if_icmp .le 6, 3) := by decide +kernel
theorem dX12_ligature_199 : decode cX12_ligature 199 = .ok (.bipush (-3), 2) := by decide +kernel
theorem dX12_ligature_201 : decode cX12_ligature 201 = .ok (.ireturn, 1) := by decide +kernel
theorem dX12_ligature_202 : decode cX12_ligature 202 = .ok (.aload_n 0, 1) := by decide +kernel
theorem dX12_ligature_203 : decode cX12_ligature 203 = .ok (.getfield 13, 3) := by decide +kernel
theorem dX12_ligature_206 : decode cX12_ligature 206 = .ok (.iload_n 1, 1) := by decide +kernel
theorem dX12_ligature_207 : decode cX12_ligature 207 = .ok (.iaload, 1) := by decide +kernel
theorem dX12_ligature_208 : decode cX12_ligature 208 = .ok (.istore 9, 2) := by decide +kernel
theorem dX12_ligature_210 : decode cX12_ligature 210 = .ok (.iconst 0, 1) := by decide +kernel
theorem dX12_ligature_211 : decode cX12_ligature 211 = .ok (.istore 10, 2) := by decide +kernel
theorem dX12_ligature_213 : decode cX12_ligature 213 = .ok (.iload 10, 2) := by decide +kernel
theorem dX12_ligature_215 : decode cX12_ligature 215 = .ok (.iload_n 3, 1) := by decide +kernel
theorem dX12_ligature_216 : decode cX12_ligature 216 = .ok (.if_icmp .ge 53, 3) := by decide +kernel
theorem dX12_ligature_219 : decode cX12_ligature 219 = .ok (.aload_n 0, 1) := by decide +kernel
theorem dX12_ligature_220 : decode cX12_ligature 220 = .ok (.iload_n 1, 1) := by decide +kernel
theorem dX12_ligature_221 : decode cX12_ligature 221 = .ok (.iconst 1, 1) := by decide +kernel
theorem dX12_ligature_222 : decode cX12_ligature 222 = .ok (.iload_n 2, 1) := by decide +kernel
theorem dX12_ligature_223 : decode cX12_ligature 223 = .ok (.iload_n 3, 1) := by decide +kernel
theorem dX12_ligature_224 : decode cX12_ligature 224 = .ok (.iload 10, 2) := by decide +kernel
theorem dX12_ligature_226 : decode cX12_ligature 226 = .ok (.lload 4, 2) := by decide +kernel
theorem dX12_ligature_228 : decode cX12_ligature 228 = .ok (.iconst 1, 1) := by decide +kernel
theorem dX12_ligature_229 : decode cX12_ligature 229 = .ok (.invokestatic 147, 3) := by decide +kernel
theorem dX12_ligature_232 : decode cX12_ligature 232 = .ok (.lload 4, 2) := by decide +kernel
theorem dX12_ligature_234 : decode cX12_ligature 234 = .ok (.iconst 0, 1) := by decide +kernel
theorem dX12_ligature_235 : decode cX12_ligature 235 = .ok (.invokestatic 147, 3) := by decide +kernel
theorem dX12_ligature_238 : decode cX12_ligature 238 = .ok (.if_icmp .ge 7, 3) := by decide +kernel
theorem dX12_ligature_241 : decode cX12_ligature 241 = .ok (.iconst 1, 1) := by decide +kernel
theorem dX12_ligature_242 : decode cX12_ligature 242 = .ok (.goto 4, 3) := by decide +kernel
theorem dX12_ligature_245 : decode cX12_ligature 245 = .ok (.iconst 0, 1) := by decide +kernel
theorem dX12_ligature_246 : decode cX12_ligature 246 = .ok (.iload 8, 2) := by decide +kernel
theorem dX12_ligature_248 : decode cX12_ligature 248 = .ok (.invokestatic 151, 3) := by decide +kernel
theorem dX12_ligature_251 : decode cX12_ligature 251 = .ok (.lload 4, 2) := by decide +kernel
theorem dX12_ligature_253 : decode cX12_ligature 253 = .ok (.iload 10, 2) := by decide +kernel
theorem dX12_ligature_255 : decode cX12_ligature 255 = .ok (.invokestatic 147, 3) := by decide +kernel
theorem dX12_ligature_258 : decode cX12_ligature 258 = .ok (.iconst 0, 1) := by decide +kernel
theorem dX12_ligature_259 : decode cX12_ligature 259 = .ok (.invokevirtual 139, 3) := by decide +kernel
theorem dX12_ligature_262 : decode cX12_ligature 262 = .ok (.pop, 1) := by decide +kernel
theorem dX12_ligature_263 : decode cX12_ligature 263 = .ok (.iinc 10 1, 3) := by decide +kernel
theorem dX12_ligature_266 : decode cX12_ligature 266 = .ok (.goto (-53), 3) := by decide +kernel
theorem dX12_ligature_269 : decode cX12_ligature 269 = .ok (.iload 9, 2) := by decide +kernel
theorem dX12_ligature_271 : decode cX12_ligature 271 = .ok (.ireturn, 1) := by decide +kernel
theorem dX12_ligatureKind_0 : decode cX12_ligatureKind 0 = .ok (.iload_n 0, 1) := by decide +kernel
theorem dX12_ligatureKind_1 : decode cX12_ligatureKind 1 = .ok (.iconst 2, 1) := by decide +kernel
theorem dX12_ligatureKind_2 : decode cX12_ligatureKind 2 = .ok (.iand, 1) := by decide +kernel
theorem dX12_ligatureKind_3 : decode cX12_ligatureKind 3 = .ok (.ifCond .eq 7, 3) := by decide +kernel
theorem dX12_ligatureKind_6 : decode cX12_ligatureKind 6 = .ok (.iconst 1, 1) := by decide +kernel
theorem dX12_ligatureKind_7 : decode cX12_ligatureKind 7 = .ok (.goto 4, 3) := by decide +kernel
theorem dX12_ligatureKind_10 : decode cX12_ligatureKind 10 = .ok (.iconst 0, 1) := by decide +kernel
theorem dX12_ligatureKind_11 : decode cX12_ligatureKind 11 = .ok (.istore 5, 2) := by decide +kernel
theorem dX12_ligatureKind_13 : decode cX12_ligatureKind 13 = .ok (.iload 5, 2) := by decide +kernel
theorem dX12_ligatureKind_15 : decode cX12_ligatureKind 15 = .ok (.ifCond .eq 26, 3) := by decide +kernel
theorem dX12_ligatureKind_18 : decode cX12_ligatureKind 18 = .ok (.iload_n 2, 1) := by decide +kernel
theorem dX12_ligatureKind_19 : decode cX12_ligatureKind 19 = .ok (.iconst 2, 1) := by decide +kernel
theorem dX12_ligatureKind_20 : decode cX12_ligatureKind 20 = .ok (.if_icmp .ge 21, 3) := by decide +kernel
theorem dX12_ligatureKind_23 : decode cX12_ligatureKind 23 = .ok (.iload_n 2, 1) := by decide +kernel
theorem dX12_ligatureKind_24 : decode cX12_ligatureKind 24 = .ok (.ifCond .eq 15, 3) := by decide +kernel
theorem dX12_ligatureKind_27 : decode cX12_ligatureKind 27 = .ok (.iload_n 1, 1) := by decide +kernel
theorem dX12_ligatureKind_28 : decode cX12_ligatureKind 28 = .ok (.iconst 2, 1) := by decide +kernel
theorem dX12_ligatureKind_29 : decode cX12_ligatureKind 29 = .ok (.if_icmp .eq 10, 3) := by decide +kernel
theorem dX12_ligatureKind_32 : decode cX12_ligatureKind 32 = .ok (.iload_n 2, 1) := by decide +kernel
theorem dX12_ligatureKind_33 : decode cX12_ligatureKind 33 = .ok (.iload_n 1, 1) := by decide +kernel
theorem dX12_ligatureKind_34 : decode cX12_ligatureKind 34 = .ok (.iconst 1, 1) := by decide +kernel
theorem dX12_ligatureKind_35 : decode cX12_ligatureKind 35 = .ok (.isub, 1) := by decide +kernel
theorem dX12_ligatureKind_36 : decode cX12_ligatureKind 36 = .ok (.if_icmp .ge 5, 3) := by decide +kernel
theorem dX12_ligatureKind_39 : decode cX12_ligatureKind 39 = .ok (.iconst 3, 1) := by decide +kernel
theorem dX12_ligatureKind_40 : decode cX12_ligatureKind 40 = .ok (.ireturn, 1) := by decide +kernel
theorem dX12_ligatureKind_41 : decode cX12_ligatureKind 41 = .ok (.iload_n 2, 1) := by decide +kernel
theorem dX12_ligatureKind_42 : decode cX12_ligatureKind 42 = .ok (.ifCond .ne 40, 3) := by decide +kernel
theorem dX12_ligatureKind_45 : decode cX12_ligatureKind 45 = .ok (.iload_n 0, 1) := by decide +kernel
theorem dX12_ligatureKind_46 : decode cX12_ligatureKind 46 = .ok (.iconst 1, 1) := by decide +kernel
theorem dX12_ligatureKind_47 : decode cX12_ligatureKind 47 = .ok (.iand, 1) := by decide +kernel
theorem dX12_ligatureKind_48 : decode cX12_ligatureKind 48 = .ok (.ifCond .eq 7, 3) := by decide +kernel
theorem dX12_ligatureKind_51 : decode cX12_ligatureKind 51 = .ok (.iconst 1, 1) := by decide +kernel
theorem dX12_ligatureKind_52 : decode cX12_ligatureKind 52 = .ok (.goto 4, 3) := by decide +kernel
theorem dX12_ligatureKind_55 : decode cX12_ligatureKind 55 = .ok (.iconst 0, 1) := by decide +kernel
theorem dX12_ligatureKind_56 : decode cX12_ligatureKind 56 = .ok (.istore 6, 2) := by decide +kernel
theorem dX12_ligatureKind_58 : decode cX12_ligatureKind 58 = .ok (.iload 6, 2) := by decide +kernel
theorem dX12_ligatureKind_60 : decode cX12_ligatureKind 60 = .ok (.ifCond .eq 7, 3) := by decide +kernel
theorem dX12_ligatureKind_63 : decode cX12_ligatureKind 63 = .ok (.iload_n 3, 1) := by decide +kernel
theorem dX12_ligatureKind_64 : decode cX12_ligatureKind 64 = .ok (.ifCond .ne 12, 3) := by decide +kernel
theorem dX12_ligatureKind_67 : decode cX12_ligatureKind 67 = .ok (.iload 6, 2) := by decide +kernel
theorem dX12_ligatureKind_69 : decode cX12_ligatureKind 69 = .ok (.ifCond .ne 11, 3) := by decide +kernel
theorem dX12_ligatureKind_72 : decode cX12_ligatureKind 72 = .ok (.iload_n 3, 1) := by decide +kernel
theorem dX12_ligatureKind_73 : decode cX12_ligatureKind 73 = .ok (.ifCond .ne 7, 3) := by decide +kernel
theorem dX12_ligatureKind_76 : decode cX12_ligatureKind 76 = .ok (.iconst 2, 1) := by decide +kernel
theorem dX12_ligatureKind_77 : decode cX12_ligatureKind 77 = .ok (.goto 4, 3) := by decide +kernel
theorem dX12_ligatureKind_80 : decode cX12_ligatureKind 80 = .ok (.iconst 1, 1) := by decide +kernel
theorem dX12_ligatureKind_81 : decode cX12_ligatureKind 81 = .ok (.ireturn, 1) := by decide +kernel
theorem dX12_ligatureKind_82 : decode cX12_ligatureKind 82 = .ok (.iload_n 2, 1) := by decide +kernel
theorem dX12_ligatureKind_83 : decode cX12_ligatureKind 83 = .ok (.iload_n 1, 1) := by decide +kernel
theorem dX12_ligatureKind_84 : decode cX12_ligatureKind 84 = .ok (.iconst 1, 1) := by decide +kernel
theorem dX12_ligatureKind_85 : decode cX12_ligatureKind 85 = .ok (.isub, 1) := by decide +kernel
theorem dX12_ligatureKind_86 : decode cX12_ligatureKind 86 = .ok (.if_icmp .ge 5, 3) := by decide +kernel
theorem dX12_ligatureKind_89 : decode cX12_ligatureKind 89 = .ok (.iconst 2, 1) := by decide +kernel
theorem dX12_ligatureKind_90 : decode cX12_ligatureKind 90 = .ok (.ireturn, 1) := by decide +kernel
theorem dX12_ligatureKind_91 : decode cX12_ligatureKind 91 = .ok (.iload_n 0, 1) := by decide +kernel
theorem dX12_ligatureKind_92 : decode cX12_ligatureKind 92 = .ok (.bipush 8, 2) := by decide +kernel
theorem dX12_ligatureKind_94 : decode cX12_ligatureKind 94 = .ok (.iand, 1) := by decide +kernel
theorem dX12_ligatureKind_95 : decode cX12_ligatureKind 95 = .ok (.ifCond .eq 7, 3) := by decide +kernel
theorem dX12_ligatureKind_98 : decode cX12_ligatureKind 98 = .ok (.iconst 1, 1) := by decide +kernel
theorem dX12_ligatureKind_99 : decode cX12_ligatureKind 99 = .ok (.goto 23, 3) := by decide +kernel
theorem dX12_ligatureKind_102 : decode cX12_ligatureKind 102 = .ok (.iload_n 0, 1) := by decide +kernel
theorem dX12_ligatureKind_103 : decode cX12_ligatureKind 103 = .ok (.iconst 4, 1) := by decide +kernel
theorem dX12_ligatureKind_104 : decode cX12_ligatureKind 104 = .ok (.iand, 1) := by decide +kernel
theorem dX12_ligatureKind_105 : decode cX12_ligatureKind 105 = .ok (.ifCond .eq 7, 3) := by decide +kernel
theorem dX12_ligatureKind_108 : decode cX12_ligatureKind 108 = .ok (.iconst 2, 1) := by decide +kernel
theorem dX12_ligatureKind_109 : decode cX12_ligatureKind 109 = .ok (.goto 13, 3) := by decide +kernel
theorem dX12_ligatureKind_112 : decode cX12_ligatureKind 112 = .ok (.iload 4, 2) := by decide +kernel
theorem dX12_ligatureKind_114 : decode cX12_ligatureKind 114 = .ok (.ifCond .eq 7, 3) := by decide +kernel
theorem dX12_ligatureKind_117 : decode cX12_ligatureKind 117 = .ok (.iconst 1, 1) := by decide +kernel
theorem dX12_ligatureKind_118 : decode cX12_ligatureKind 118 = .ok (.goto 4, 3) := by decide +kernel
theorem dX12_ligatureKind_121 : decode cX12_ligatureKind 121 = .ok (.iconst 2, 1) := by decide +kernel
theorem dX12_ligatureKind_122 : decode cX12_ligatureKind 122 = .ok (.ireturn, 1) := by decide +kernel
theorem dX12_divisor_0 : decode cX12_divisor 0 = .ok (.lload_n 0, 1) := by decide +kernel
theorem dX12_divisor_1 : decode cX12_divisor 1 = .ok (.lstore 4, 2) := by decide +kernel
theorem dX12_divisor_3 : decode cX12_divisor 3 = .ok (.lload_n 2, 1) := by decide +kernel
theorem dX12_divisor_4 : decode cX12_divisor 4 = .ok (.lstore 6, 2) := by decide +kernel
theorem dX12_divisor_6 : decode cX12_divisor 6 = .ok (.lload 6, 2) := by decide +kernel
theorem dX12_divisor_8 : decode cX12_divisor 8 = .ok (.lconst 0, 1) := by decide +kernel
theorem dX12_divisor_9 : decode cX12_divisor 9 = .ok (.lcmp, 1) := by decide +kernel
theorem dX12_divisor_10 : decode cX12_divisor 10 = .ok (.ifCond .eq 21, 3) := by decide +kernel
theorem dX12_divisor_13 : decode cX12_divisor 13 = .ok (.lload 4, 2) := by decide +kernel
theorem dX12_divisor_15 : decode cX12_divisor 15 = .ok (.lload 6, 2) := by decide +kernel
theorem dX12_divisor_17 : decode cX12_divisor 17 = .ok (.lrem, 1) := by decide +kernel
theorem dX12_divisor_18 : decode cX12_divisor 18 = .ok (.lstore 8, 2) := by decide +kernel
theorem dX12_divisor_20 : decode cX12_divisor 20 = .ok (.lload 6, 2) := by decide +kernel
theorem dX12_divisor_22 : decode cX12_divisor 22 = .ok (.lstore 4, 2) := by decide +kernel
theorem dX12_divisor_24 : decode cX12_divisor 24 = .ok (.lload 8, 2) := by decide +kernel
theorem dX12_divisor_26 : decode cX12_divisor 26 = .ok (.lstore 6, 2) := by decide +kernel
theorem dX12_divisor_28 : decode cX12_divisor 28 = .ok (.goto (-22), 3) := by decide +kernel
theorem dX12_divisor_31 : decode cX12_divisor 31 = .ok (.lload 4, 2) := by decide +kernel
theorem dX12_divisor_33 : decode cX12_divisor 33 = .ok (.lreturn, 1) := by decide +kernel
theorem dX12_proportion_0 : decode cX12_proportion 0 = .ok (.aload_n 0, 1) := by decide +kernel
theorem dX12_proportion_1 : decode cX12_proportion 1 = .ok (.iload_n 1, 1) := by decide +kernel
theorem dX12_proportion_2 : decode cX12_proportion 2 = .ok (.invokevirtual 129, 3) := by decide +kernel
theorem dX12_proportion_5 : decode cX12_proportion 5 = .ok (.ifCond .eq 27, 3) := by decide +kernel
theorem dX12_proportion_8 : decode cX12_proportion 8 = .ok (.iload_n 2, 1) := by decide +kernel
theorem dX12_proportion_9 : decode cX12_proportion 9 = .ok (.i2l, 1) := by decide +kernel
theorem dX12_proportion_10 : decode cX12_proportion 10 = .ok (.lconst 1, 1) := by decide +kernel
theorem dX12_proportion_11 : decode cX12_proportion 11 = .ok (.ldc2_w 155, 3) := by decide +kernel
theorem dX12_proportion_14 : decode cX12_proportion 14 = .ok (.invokestatic 119, 3) := by decide +kernel
theorem dX12_proportion_17 : decode cX12_proportion 17 = .ok (.ifCond .eq 15, 3) := by decide +kernel
theorem dX12_proportion_20 : decode cX12_proportion 20 = .ok (.iload_n 3, 1) := by decide +kernel
theorem dX12_proportion_21 : decode cX12_proportion 21 = .ok (.i2l, 1) := by decide +kernel
theorem dX12_proportion_22 : decode cX12_proportion 22 = .ok (.lconst 1, 1) := by decide +kernel
theorem dX12_proportion_23 : decode cX12_proportion 23 = .ok (.ldc2_w 155, 3) := by decide +kernel
theorem dX12_proportion_26 : decode cX12_proportion 26 = .ok (.invokestatic 119, 3) := by decide +kernel
theorem dX12_proportion_29 : decode cX12_proportion 29 = .ok (.ifCond .ne 6, 3) := by decide +kernel
theorem dX12_proportion_32 : decode cX12_proportion 32 = .ok (.bipush (-2), 2) := by decide +kernel
theorem dX12_proportion_34 : decode cX12_proportion 34 = .ok (.ireturn, 1) := by decide +kernel
theorem dX12_proportion_35 : decode cX12_proportion 35 = .ok (.aload_n 0, 1) := by decide +kernel
theorem dX12_proportion_36 : decode cX12_proportion 36 = .ok (.getfield 16, 3) := by decide +kernel
theorem dX12_proportion_39 : decode cX12_proportion 39 = .ok (.iload_n 1, 1) := by decide +kernel
theorem dX12_proportion_40 : decode cX12_proportion 40 = .ok (.iaload, 1) := by decide +kernel
theorem dX12_proportion_41 : decode cX12_proportion 41 = .ok (.iload_n 2, 1) := by decide +kernel
theorem dX12_proportion_42 : decode cX12_proportion 42 = .ok (.imul, 1) := by decide +kernel
theorem dX12_proportion_43 : decode cX12_proportion 43 = .ok (.istore 4, 2) := by decide +kernel
theorem dX12_proportion_45 : decode cX12_proportion 45 = .ok (.aload_n 0, 1) := by decide +kernel
theorem dX12_proportion_46 : decode cX12_proportion 46 = .ok (.getfield 19, 3) := by decide +kernel
theorem dX12_proportion_49 : decode cX12_proportion 49 = .ok (.iload_n 1, 1) := by decide +kernel
theorem dX12_proportion_50 : decode cX12_proportion 50 = .ok (.iaload, 1) := by decide +kernel
theorem dX12_proportion_51 : decode cX12_proportion 51 = .ok (.iload_n 3, 1) := by decide +kernel
theorem dX12_proportion_52 : decode cX12_proportion 52 = .ok (.imul, 1) := by decide +kernel
theorem dX12_proportion_53 : decode cX12_proportion 53 = .ok (.istore 5, 2) := by decide +kernel
theorem dX12_proportion_55 : decode cX12_proportion 55 = .ok (.iload 4, 2) := by decide +kernel
theorem dX12_proportion_57 : decode cX12_proportion 57 = .ok (.i2l, 1) := by decide +kernel
theorem dX12_proportion_58 : decode cX12_proportion 58 = .ok (.iload 5, 2) := by decide +kernel
theorem dX12_proportion_60 : decode cX12_proportion 60 = .ok (.i2l, 1) := by decide +kernel
theorem dX12_proportion_61 : decode cX12_proportion 61 = .ok (.invokestatic 157, 3) := by decide +kernel
theorem dX12_proportion_64 : decode cX12_proportion 64 = .ok (.l2i, 1) := by decide +kernel
theorem dX12_proportion_65 : decode cX12_proportion 65 = .ok (.istore 6, 2) := by decide +kernel
theorem dX12_proportion_67 : decode cX12_proportion 67 = .ok (.iload 4, 2) := by decide +kernel
theorem dX12_proportion_69 : decode cX12_proportion 69 = .ok (.iload 6, 2) := by decide +kernel
theorem dX12_proportion_71 : decode cX12_proportion 71 = .ok (.idiv, 1) := by decide +kernel
theorem dX12_proportion_72 : decode cX12_proportion 72 = .ok (.sipush 1000, 3) := by decide +kernel
theorem dX12_proportion_75 : decode cX12_proportion 75 = .ok (.if_icmp .gt 14, 3) := by decide +kernel
theorem dX12_proportion_78 : decode cX12_proportion 78 = .ok (.iload 5, 2) := by decide +kernel
theorem dX12_proportion_80 : decode cX12_proportion 80 = .ok (.iload 6, 2) := by decide +kernel
theorem dX12_proportion_82 : decode cX12_proportion 82 = .ok (.idiv, 1) := by decide +kernel
theorem dX12_proportion_83 : decode cX12_proportion 83 = .ok (.sipush 1000, 3) := by decide +kernel
theorem dX12_proportion_86 : decode cX12_proportion 86 = .ok (.if_icmp .le 6, 3) := by decide +kernel
theorem dX12_proportion_89 : decode cX12_proportion 89 = .ok (.bipush (-3), 2) := by decide +kernel
theorem dX12_proportion_91 : decode cX12_proportion 91 = .ok (.ireturn, 1) := by decide +kernel
theorem dX12_proportion_92 : decode cX12_proportion 92 = .ok (.aload_n 0, 1) := by decide +kernel
theorem dX12_proportion_93 : decode cX12_proportion 93 = .ok (.getfield 16, 3) := by decide +kernel
theorem dX12_proportion_96 : decode cX12_proportion 96 = .ok (.iload_n 1, 1) := by decide +kernel
theorem dX12_proportion_97 : decode cX12_proportion 97 = .ok (.iload 4, 2) := by decide +kernel
theorem dX12_proportion_99 : decode cX12_proportion 99 = .ok (.iload 6, 2) := by decide +kernel
theorem dX12_proportion_101 : decode cX12_proportion 101 = .ok (.idiv, 1) := by decide +kernel
theorem dX12_proportion_102 : decode cX12_proportion 102 = .ok (.iastore, 1) := by decide +kernel
theorem dX12_proportion_103 : decode cX12_proportion 103 = .ok (.aload_n 0, 1) := by decide +kernel
theorem dX12_proportion_104 : decode cX12_proportion 104 = .ok (.getfield 19, 3) := by decide +kernel
theorem dX12_proportion_107 : decode cX12_proportion 107 = .ok (.iload_n 1, 1) := by decide +kernel
theorem dX12_proportion_108 : decode cX12_proportion 108 = .ok (.iload 5, 2) := by decide +kernel
theorem dX12_proportion_110 : decode cX12_proportion 110 = .ok (.iload 6, 2) := by decide +kernel
theorem dX12_proportion_112 : decode cX12_proportion 112 = .ok (.idiv, 1) := by decide +kernel
theorem dX12_proportion_113 : decode cX12_proportion 113 = .ok (.iastore, 1) := by decide +kernel
theorem dX12_proportion_114 : decode cX12_proportion 114 = .ok (.iconst 1, 1) := by decide +kernel
theorem dX12_proportion_115 : decode cX12_proportion 115 = .ok (.ireturn, 1) := by decide +kernel
theorem dX12_back_0 : decode cX12_back 0 = .ok (.aload_n 0, 1) := by decide +kernel
theorem dX12_back_1 : decode cX12_back 1 = .ok (.iload_n 1, 1) := by decide +kernel
theorem dX12_back_2 : decode cX12_back 2 = .ok (.invokevirtual 129, 3) := by decide +kernel
theorem dX12_back_5 : decode cX12_back 5 = .ok (.ifCond .ne 6, 3) := by decide +kernel
theorem dX12_back_8 : decode cX12_back 8 = .ok (.bipush (-2), 2) := by decide +kernel
theorem dX12_back_10 : decode cX12_back 10 = .ok (.ireturn, 1) := by decide +kernel
theorem dX12_back_11 : decode cX12_back 11 = .ok (.aload_n 0, 1) := by decide +kernel
theorem dX12_back_12 : decode cX12_back 12 = .ok (.getfield 13, 3) := by decide +kernel
theorem dX12_back_15 : decode cX12_back 15 = .ok (.iload_n 1, 1) := by decide +kernel
theorem dX12_back_16 : decode cX12_back 16 = .ok (.iaload, 1) := by decide +kernel
theorem dX12_back_17 : decode cX12_back 17 = .ok (.ifCond .ne 5, 3) := by decide +kernel
theorem dX12_back_20 : decode cX12_back 20 = .ok (.iconst (-1), 1) := by decide +kernel
theorem dX12_back_21 : decode cX12_back 21 = .ok (.ireturn, 1) := by decide +kernel
theorem dX12_back_22 : decode cX12_back 22 = .ok (.aload_n 0, 1) := by decide +kernel
theorem dX12_back_23 : decode cX12_back 23 = .ok (.getfield 13, 3) := by decide +kernel
theorem dX12_back_26 : decode cX12_back 26 = .ok (.iload_n 1, 1) := by decide +kernel
theorem dX12_back_27 : decode cX12_back 27 = .ok (.dup2, 1) := by decide +kernel
theorem dX12_back_28 : decode cX12_back 28 = .ok (.iaload, 1) := by decide +kernel
theorem dX12_back_29 : decode cX12_back 29 = .ok (.iconst 1, 1) := by decide +kernel
theorem dX12_back_30 : decode cX12_back 30 = .ok (.isub, 1) := by decide +kernel
theorem dX12_back_31 : decode cX12_back 31 = .ok (.iastore, 1) := by decide +kernel
theorem dX12_back_32 : decode cX12_back 32 = .ok (.aload_n 0, 1) := by decide +kernel
theorem dX12_back_33 : decode cX12_back 33 = .ok (.iload_n 1, 1) := by decide +kernel
theorem dX12_back_34 : decode cX12_back 34 = .ok (.invokevirtual 125, 3) := by decide +kernel
theorem dX12_back_37 : decode cX12_back 37 = .ok (.aload_n 0, 1) := by decide +kernel
theorem dX12_back_38 : decode cX12_back 38 = .ok (.getfield 13, 3) := by decide +kernel
theorem dX12_back_41 : decode cX12_back 41 = .ok (.iload_n 1, 1) := by decide +kernel
theorem dX12_back_42 : decode cX12_back 42 = .ok (.iaload, 1) := by decide +kernel
theorem dX12_back_43 : decode cX12_back 43 = .ok (.ireturn, 1) := by decide +kernel
theorem dX12_isPerfect_0 : decode cX12_isPerfect 0 = .ok (.iload_n 1, 1) := by decide +kernel
theorem dX12_isPerfect_1 : decode cX12_isPerfect 1 = .ok (.iconst 4, 1) := by decide +kernel
theorem dX12_isPerfect_2 : decode cX12_isPerfect 2 = .ok (.if_icmp .ge 16, 3) := by decide +kernel
theorem dX12_isPerfect_5 : decode cX12_isPerfect 5 = .ok (.iload_n 0, 1) := by decide +kernel
theorem dX12_isPerfect_6 : decode cX12_isPerfect 6 = .ok (.iload_n 1, 1) := by decide +kernel
theorem dX12_isPerfect_7 : decode cX12_isPerfect 7 = .ok (.ishr, 1) := by decide +kernel
theorem dX12_isPerfect_8 : decode cX12_isPerfect 8 = .ok (.iconst 1, 1) := by decide +kernel
theorem dX12_isPerfect_9 : decode cX12_isPerfect 9 = .ok (.iand, 1) := by decide +kernel
theorem dX12_isPerfect_10 : decode cX12_isPerfect 10 = .ok (.iconst 1, 1) := by decide +kernel
theorem dX12_isPerfect_11 : decode cX12_isPerfect 11 = .ok (.if_icmp .ne 7, 3) := by decide +kernel
theorem dX12_isPerfect_14 : decode cX12_isPerfect 14 = .ok (.iconst 1, 1) := by decide +kernel
theorem dX12_isPerfect_15 : decode cX12_isPerfect 15 = .ok (.goto 4, 3) := by decide +kernel
theorem dX12_isPerfect_18 : decode cX12_isPerfect 18 = .ok (.iconst 0, 1) := by decide +kernel
theorem dX12_isPerfect_19 : decode cX12_isPerfect 19 = .ok (.ireturn, 1) := by decide +kernel
theorem dX12_groundOf_0 : decode cX12_groundOf 0 = .ok (.iconst 0, 1) := by decide +kernel
theorem dX12_groundOf_1 : decode cX12_groundOf 1 = .ok (.istore_n 1, 1) := by decide +kernel
theorem dX12_groundOf_2 : decode cX12_groundOf 2 = .ok (.iload_n 1, 1) := by decide +kernel
theorem dX12_groundOf_3 : decode cX12_groundOf 3 = .ok (.iconst 4, 1) := by decide +kernel
theorem dX12_groundOf_4 : decode cX12_groundOf 4 = .ok (.if_icmp .ge 17, 3) := by decide +kernel
theorem dX12_groundOf_7 : decode cX12_groundOf 7 = .ok (.iload_n 0, 1) := by decide +kernel
theorem dX12_groundOf_8 : decode cX12_groundOf 8 = .ok (.iload_n 1, 1) := by decide +kernel
theorem dX12_groundOf_9 : decode cX12_groundOf 9 = .ok (.invokestatic 161, 3) := by decide +kernel
theorem dX12_groundOf_12 : decode cX12_groundOf 12 = .ok (.ifCond .ne 9, 3) := by decide +kernel
theorem dX12_groundOf_15 : decode cX12_groundOf 15 = .ok (.iinc 1 1, 3) := by decide +kernel
theorem dX12_groundOf_18 : decode cX12_groundOf 18 = .ok (.goto (-16), 3) := by decide +kernel
theorem dX12_groundOf_21 : decode cX12_groundOf 21 = .ok (.iload_n 1, 1) := by decide +kernel
theorem dX12_groundOf_22 : decode cX12_groundOf 22 = .ok (.ireturn, 1) := by decide +kernel
theorem dX12_fullOf_0 : decode cX12_fullOf 0 = .ok (.iconst 3, 1) := by decide +kernel
theorem dX12_fullOf_1 : decode cX12_fullOf 1 = .ok (.istore_n 2, 1) := by decide +kernel
theorem dX12_fullOf_2 : decode cX12_fullOf 2 = .ok (.iconst 5, 1) := by decide +kernel
theorem dX12_fullOf_3 : decode cX12_fullOf 3 = .ok (.istore_n 3, 1) := by decide +kernel
theorem dX12_fullOf_4 : decode cX12_fullOf 4 = .ok (.iload_n 3, 1) := by decide +kernel
theorem dX12_fullOf_5 : decode cX12_fullOf 5 = .ok (.iload_n 1, 1) := by decide +kernel
theorem dX12_fullOf_6 : decode cX12_fullOf 6 = .ok (.if_icmp .lt 27, 3) := by decide +kernel
theorem dX12_fullOf_9 : decode cX12_fullOf 9 = .ok (.iload_n 0, 1) := by decide +kernel
theorem dX12_fullOf_10 : decode cX12_fullOf 10 = .ok (.iload_n 3, 1) := by decide +kernel
theorem dX12_fullOf_11 : decode cX12_fullOf 11 = .ok (.invokestatic 161, 3) := by decide +kernel
theorem dX12_fullOf_14 : decode cX12_fullOf 14 = .ok (.ifCond .eq 9, 3) := by decide +kernel
theorem dX12_fullOf_17 : decode cX12_fullOf 17 = .ok (.iconst 3, 1) := by decide +kernel
theorem dX12_fullOf_18 : decode cX12_fullOf 18 = .ok (.iload_n 2, 1) := by decide +kernel
theorem dX12_fullOf_19 : decode cX12_fullOf 19 = .ok (.imul, 1) := by decide +kernel
theorem dX12_fullOf_20 : decode cX12_fullOf 20 = .ok (.goto 6, 3) := by decide +kernel
theorem dX12_fullOf_23 : decode cX12_fullOf 23 = .ok (.iconst 2, 1) := by decide +kernel
theorem dX12_fullOf_24 : decode cX12_fullOf 24 = .ok (.iload_n 2, 1) := by decide +kernel
theorem dX12_fullOf_25 : decode cX12_fullOf 25 = .ok (.imul, 1) := by decide +kernel
theorem dX12_fullOf_26 : decode cX12_fullOf 26 = .ok (.istore_n 2, 1) := by decide +kernel
theorem dX12_fullOf_27 : decode cX12_fullOf 27 = .ok (.iinc 3 (-1), 3) := by decide +kernel
theorem dX12_fullOf_30 : decode cX12_fullOf 30 = .ok (.goto (-26), 3) := by decide +kernel
theorem dX12_fullOf_33 : decode cX12_fullOf 33 = .ok (.iload_n 2, 1) := by decide +kernel
theorem dX12_fullOf_34 : decode cX12_fullOf 34 = .ok (.ireturn, 1) := by decide +kernel
theorem dX12_told_0 : decode cX12_told 0 = .ok (.aload_n 0, 1) := by decide +kernel
theorem dX12_told_1 : decode cX12_told 1 = .ok (.iload_n 1, 1) := by decide +kernel
theorem dX12_told_2 : decode cX12_told 2 = .ok (.invokevirtual 129, 3) := by decide +kernel
theorem dX12_told_5 : decode cX12_told 5 = .ok (.ifCond .eq 15, 3) := by decide +kernel
theorem dX12_told_8 : decode cX12_told 8 = .ok (.iload_n 2, 1) := by decide +kernel
theorem dX12_told_9 : decode cX12_told 9 = .ok (.i2l, 1) := by decide +kernel
theorem dX12_told_10 : decode cX12_told 10 = .ok (.lconst 0, 1) := by decide +kernel
theorem dX12_told_11 : decode cX12_told 11 = .ok (.ldc2_w 133, 3) := by decide +kernel
theorem dX12_told_14 : decode cX12_told 14 = .ok (.invokestatic 119, 3) := by decide +kernel
theorem dX12_told_17 : decode cX12_told 17 = .ok (.ifCond .ne 6, 3) := by decide +kernel
theorem dX12_told_20 : decode cX12_told 20 = .ok (.bipush (-2), 2) := by decide +kernel
theorem dX12_told_22 : decode cX12_told 22 = .ok (.ireturn, 1) := by decide +kernel
theorem dX12_told_23 : decode cX12_told 23 = .ok (.iload_n 2, 1) := by decide +kernel
theorem dX12_told_24 : decode cX12_told 24 = .ok (.tableswitch 85 0 5 #[40, 47, 54, 64, 71, 78], 40) := by decide +kernel
theorem dX12_told_64 : decode cX12_told 64 = .ok (.aload_n 0, 1) := by decide +kernel
theorem dX12_told_65 : decode cX12_told 65 = .ok (.getfield 13, 3) := by decide +kernel
theorem dX12_told_68 : decode cX12_told 68 = .ok (.iload_n 1, 1) := by decide +kernel
theorem dX12_told_69 : decode cX12_told 69 = .ok (.iaload, 1) := by decide +kernel
theorem dX12_told_70 : decode cX12_told 70 = .ok (.ireturn, 1) := by decide +kernel
theorem dX12_told_71 : decode cX12_told 71 = .ok (.aload_n 0, 1) := by decide +kernel
theorem dX12_told_72 : decode cX12_told 72 = .ok (.getfield 7, 3) := by decide +kernel
theorem dX12_told_75 : decode cX12_told 75 = .ok (.iload_n 1, 1) := by decide +kernel
theorem dX12_told_76 : decode cX12_told 76 = .ok (.iaload, 1) := by decide +kernel
theorem dX12_told_77 : decode cX12_told 77 = .ok (.ireturn, 1) := by decide +kernel
theorem dX12_told_78 : decode cX12_told 78 = .ok (.aload_n 0, 1) := by decide +kernel
theorem dX12_told_79 : decode cX12_told 79 = .ok (.getfield 7, 3) := by decide +kernel
theorem dX12_told_82 : decode cX12_told 82 = .ok (.iload_n 1, 1) := by decide +kernel
theorem dX12_told_83 : decode cX12_told 83 = .ok (.iaload, 1) := by decide +kernel
theorem dX12_told_84 : decode cX12_told 84 = .ok (.invokestatic 165, 3) := by decide +kernel
theorem dX12_told_87 : decode cX12_told 87 = .ok (.ireturn, 1) := by decide +kernel
theorem dX12_told_88 : decode cX12_told 88 = .ok (.aload_n 0, 1) := by decide +kernel
theorem dX12_told_89 : decode cX12_told 89 = .ok (.getfield 16, 3) := by decide +kernel
theorem dX12_told_92 : decode cX12_told 92 = .ok (.iload_n 1, 1) := by decide +kernel
theorem dX12_told_93 : decode cX12_told 93 = .ok (.iaload, 1) := by decide +kernel
theorem dX12_told_94 : decode cX12_told 94 = .ok (.ireturn, 1) := by decide +kernel
theorem dX12_told_95 : decode cX12_told 95 = .ok (.aload_n 0, 1) := by decide +kernel
theorem dX12_told_96 : decode cX12_told 96 = .ok (.getfield 19, 3) := by decide +kernel
theorem dX12_told_99 : decode cX12_told 99 = .ok (.iload_n 1, 1) := by decide +kernel
theorem dX12_told_100 : decode cX12_told 100 = .ok (.iaload, 1) := by decide +kernel
theorem dX12_told_101 : decode cX12_told 101 = .ok (.ireturn, 1) := by decide +kernel
theorem dX12_told_102 : decode cX12_told 102 = .ok (.aload_n 0, 1) := by decide +kernel
theorem dX12_told_103 : decode cX12_told 103 = .ok (.getfield 22, 3) := by decide +kernel
theorem dX12_told_106 : decode cX12_told 106 = .ok (.iload_n 1, 1) := by decide +kernel
theorem dX12_told_107 : decode cX12_told 107 = .ok (.iaload, 1) := by decide +kernel
theorem dX12_told_108 : decode cX12_told 108 = .ok (.ireturn, 1) := by decide +kernel
theorem dX12_told_109 : decode cX12_told 109 = .ok (.aload_n 0, 1) := by decide +kernel
theorem dX12_told_110 : decode cX12_told 110 = .ok (.getfield 7, 3) := by decide +kernel
theorem dX12_told_113 : decode cX12_told 113 = .ok (.iload_n 1, 1) := by decide +kernel
theorem dX12_told_114 : decode cX12_told 114 = .ok (.iaload, 1) := by decide +kernel
theorem dX12_told_115 : decode cX12_told 115 = .ok (.aload_n 0, 1) := by decide +kernel
theorem dX12_told_116 : decode cX12_told 116 = .ok (.getfield 7, 3) := by decide +kernel
theorem dX12_told_119 : decode cX12_told 119 = .ok (.iload_n 1, 1) := by decide +kernel
theorem dX12_told_120 : decode cX12_told 120 = .ok (.iaload, 1) := by decide +kernel
theorem dX12_told_121 : decode cX12_told 121 = .ok (.invokestatic 165, 3) := by decide +kernel
theorem dX12_told_124 : decode cX12_told 124 = .ok (.invokestatic 169, 3) := by decide +kernel
theorem dX12_told_127 : decode cX12_told 127 = .ok (.ireturn, 1) := by decide +kernel
theorem dX12_symbol_0 : decode cX12_symbol 0 = .ok (.aload_n 0, 1) := by decide +kernel
theorem dX12_symbol_1 : decode cX12_symbol 1 = .ok (.iload_n 1, 1) := by decide +kernel
theorem dX12_symbol_2 : decode cX12_symbol 2 = .ok (.invokevirtual 129, 3) := by decide +kernel
theorem dX12_symbol_5 : decode cX12_symbol 5 = .ok (.ifCond .eq 33, 3) := by decide +kernel
theorem dX12_symbol_8 : decode cX12_symbol 8 = .ok (.iload_n 2, 1) := by decide +kernel
theorem dX12_symbol_9 : decode cX12_symbol 9 = .ok (.i2l, 1) := by decide +kernel
theorem dX12_symbol_10 : decode cX12_symbol 10 = .ok (.lconst 0, 1) := by decide +kernel
theorem dX12_symbol_11 : decode cX12_symbol 11 = .ok (.aload_n 0, 1) := by decide +kernel
theorem dX12_symbol_12 : decode cX12_symbol 12 = .ok (.getfield 13, 3) := by decide +kernel
theorem dX12_symbol_15 : decode cX12_symbol 15 = .ok (.iload_n 1, 1) := by decide +kernel
theorem dX12_symbol_16 : decode cX12_symbol 16 = .ok (.iaload, 1) := by decide +kernel
theorem dX12_symbol_17 : decode cX12_symbol 17 = .ok (.iconst 1, 1) := by decide +kernel
theorem dX12_symbol_18 : decode cX12_symbol 18 = .ok (.isub, 1) := by decide +kernel
theorem dX12_symbol_19 : decode cX12_symbol 19 = .ok (.i2l, 1) := by decide +kernel
theorem dX12_symbol_20 : decode cX12_symbol 20 = .ok (.invokestatic 119, 3) := by decide +kernel
theorem dX12_symbol_23 : decode cX12_symbol 23 = .ok (.ifCond .eq 15, 3) := by decide +kernel
theorem dX12_symbol_26 : decode cX12_symbol 26 = .ok (.iload_n 3, 1) := by decide +kernel
theorem dX12_symbol_27 : decode cX12_symbol 27 = .ok (.i2l, 1) := by decide +kernel
theorem dX12_symbol_28 : decode cX12_symbol 28 = .ok (.lconst 0, 1) := by decide +kernel
theorem dX12_symbol_29 : decode cX12_symbol 29 = .ok (.ldc2_w 173, 3) := by decide +kernel
theorem dX12_symbol_32 : decode cX12_symbol 32 = .ok (.invokestatic 119, 3) := by decide +kernel
theorem dX12_symbol_35 : decode cX12_symbol 35 = .ok (.ifCond .ne 6, 3) := by decide +kernel
theorem dX12_symbol_38 : decode cX12_symbol 38 = .ok (.bipush (-2), 2) := by decide +kernel
theorem dX12_symbol_40 : decode cX12_symbol 40 = .ok (.ireturn, 1) := by decide +kernel
theorem dX12_symbol_41 : decode cX12_symbol 41 = .ok (.bipush 24, 2) := by decide +kernel
theorem dX12_symbol_43 : decode cX12_symbol 43 = .ok (.iload_n 1, 1) := by decide +kernel
theorem dX12_symbol_44 : decode cX12_symbol 44 = .ok (.imul, 1) := by decide +kernel
theorem dX12_symbol_45 : decode cX12_symbol 45 = .ok (.iload_n 2, 1) := by decide +kernel
theorem dX12_symbol_46 : decode cX12_symbol 46 = .ok (.iadd, 1) := by decide +kernel
theorem dX12_symbol_47 : decode cX12_symbol 47 = .ok (.istore 4, 2) := by decide +kernel
theorem dX12_symbol_49 : decode cX12_symbol 49 = .ok (.iload_n 3, 1) := by decide +kernel
theorem dX12_symbol_50 : decode cX12_symbol 50 = .ok (.ifCond .ne 11, 3) := by decide +kernel
theorem dX12_symbol_53 : decode cX12_symbol 53 = .ok (.aload_n 0, 1) := by decide +kernel
theorem dX12_symbol_54 : decode cX12_symbol 54 = .ok (.getfield 25, 3) := by decide +kernel
theorem dX12_symbol_57 : decode cX12_symbol 57 = .ok (.iload 4, 2) := by decide +kernel
theorem dX12_symbol_59 : decode cX12_symbol 59 = .ok (.iaload, 1) := by decide +kernel
theorem dX12_symbol_60 : decode cX12_symbol 60 = .ok (.ireturn, 1) := by decide +kernel
theorem dX12_symbol_61 : decode cX12_symbol 61 = .ok (.iload_n 3, 1) := by decide +kernel
theorem dX12_symbol_62 : decode cX12_symbol 62 = .ok (.iconst 1, 1) := by decide +kernel
theorem dX12_symbol_63 : decode cX12_symbol 63 = .ok (.if_icmp .ne 26, 3) := by decide +kernel
theorem dX12_symbol_66 : decode cX12_symbol 66 = .ok (.aload_n 0, 1) := by decide +kernel
theorem dX12_symbol_67 : decode cX12_symbol 67 = .ok (.getfield 25, 3) := by decide +kernel
theorem dX12_symbol_70 : decode cX12_symbol 70 = .ok (.iload 4, 2) := by decide +kernel
theorem dX12_symbol_72 : decode cX12_symbol 72 = .ok (.iaload, 1) := by decide +kernel
theorem dX12_symbol_73 : decode cX12_symbol 73 = .ok (.iconst 3, 1) := by decide +kernel
theorem dX12_symbol_74 : decode cX12_symbol 74 = .ok (.if_icmp .ne 7, 3) := by decide +kernel
theorem dX12_symbol_77 : decode cX12_symbol 77 = .ok (.iconst (-1), 1) := by decide +kernel
theorem dX12_symbol_78 : decode cX12_symbol 78 = .ok (.goto 10, 3) := by decide +kernel
theorem dX12_symbol_81 : decode cX12_symbol 81 = .ok (.aload_n 0, 1) := by decide +kernel
theorem dX12_symbol_82 : decode cX12_symbol 82 = .ok (.getfield 28, 3) := by decide +kernel
theorem dX12_symbol_85 : decode cX12_symbol 85 = .ok (.iload 4, 2) := by decide +kernel
theorem dX12_symbol_87 : decode cX12_symbol 87 = .ok (.iaload, 1) := by decide +kernel
theorem dX12_symbol_88 : decode cX12_symbol 88 = .ok (.ireturn, 1) := by decide +kernel
theorem dX12_symbol_89 : decode cX12_symbol 89 = .ok (.aload_n 0, 1) := by decide +kernel
theorem dX12_symbol_90 : decode cX12_symbol 90 = .ok (.getfield 25, 3) := by decide +kernel
theorem dX12_symbol_93 : decode cX12_symbol 93 = .ok (.iload 4, 2) := by decide +kernel
theorem dX12_symbol_95 : decode cX12_symbol 95 = .ok (.iaload, 1) := by decide +kernel
theorem dX12_symbol_96 : decode cX12_symbol 96 = .ok (.iconst 1, 1) := by decide +kernel
theorem dX12_symbol_97 : decode cX12_symbol 97 = .ok (.if_icmp .eq 7, 3) := by decide +kernel
theorem dX12_symbol_100 : decode cX12_symbol 100 = .ok (.iconst (-1), 1) := by decide +kernel
theorem dX12_symbol_101 : decode cX12_symbol 101 = .ok (.goto 33, 3) := by decide +kernel
theorem dX12_symbol_104 : decode cX12_symbol 104 = .ok (.iload_n 3, 1) := by decide +kernel
theorem dX12_symbol_105 : decode cX12_symbol 105 = .ok (.iconst 2, 1) := by decide +kernel
theorem dX12_symbol_106 : decode cX12_symbol 106 = .ok (.if_icmp .ne 13, 3) := by decide +kernel
theorem dX12_symbol_109 : decode cX12_symbol 109 = .ok (.aload_n 0, 1) := by decide +kernel
theorem dX12_symbol_110 : decode cX12_symbol 110 = .ok (.getfield 31, 3) := by decide +kernel
theorem dX12_symbol_113 : decode cX12_symbol 113 = .ok (.iload 4, 2) := by decide +kernel
theorem dX12_symbol_115 : decode cX12_symbol 115 = .ok (.iaload, 1) := by decide +kernel
theorem dX12_symbol_116 : decode cX12_symbol 116 = .ok (.goto 18, 3) := by decide +kernel
theorem dX12_symbol_119 : decode cX12_symbol 119 = .ok (.aload_n 0, 1) := by decide +kernel
theorem dX12_symbol_120 : decode cX12_symbol 120 = .ok (.getfield 34, 3) := by decide +kernel
theorem dX12_symbol_123 : decode cX12_symbol 123 = .ok (.iload 4, 2) := by decide +kernel
theorem dX12_symbol_125 : decode cX12_symbol 125 = .ok (.baload, 1) := by decide +kernel
theorem dX12_symbol_126 : decode cX12_symbol 126 = .ok (.ifCond .eq 7, 3) := by decide +kernel
theorem dX12_symbol_129 : decode cX12_symbol 129 = .ok (.iconst 1, 1) := by decide +kernel
theorem dX12_symbol_130 : decode cX12_symbol 130 = .ok (.goto 4, 3) := by decide +kernel
theorem dX12_symbol_133 : decode cX12_symbol 133 = .ok (.iconst 0, 1) := by decide +kernel
theorem dX12_symbol_134 : decode cX12_symbol 134 = .ok (.ireturn, 1) := by decide +kernel
theorem dX12_isPlain_0 : decode cX12_isPlain 0 = .ok (.iload_n 1, 1) := by decide +kernel
theorem dX12_isPlain_1 : decode cX12_isPlain 1 = .ok (.aload_n 0, 1) := by decide +kernel
theorem dX12_isPlain_2 : decode cX12_isPlain 2 = .ok (.getfield 175, 3) := by decide +kernel
theorem dX12_isPlain_5 : decode cX12_isPlain 5 = .ok (.if_icmp .ge 36, 3) := by decide +kernel
theorem dX12_isPlain_8 : decode cX12_isPlain 8 = .ok (.aload_n 0, 1) := by decide +kernel
theorem dX12_isPlain_9 : decode cX12_isPlain 9 = .ok (.getfield 44, 3) := by decide +kernel
theorem dX12_isPlain_12 : decode cX12_isPlain 12 = .ok (.iload_n 1, 1) := by decide +kernel
theorem dX12_isPlain_13 : decode cX12_isPlain 13 = .ok (.iaload, 1) := by decide +kernel
theorem dX12_isPlain_14 : decode cX12_isPlain 14 = .ok (.iconst 1, 1) := by decide +kernel
theorem dX12_isPlain_15 : decode cX12_isPlain 15 = .ok (.if_icmp .ne 26, 3) := by decide +kernel
theorem dX12_isPlain_18 : decode cX12_isPlain 18 = .ok (.aload_n 0, 1) := by decide +kernel
theorem dX12_isPlain_19 : decode cX12_isPlain 19 = .ok (.getfield 50, 3) := by decide +kernel
theorem dX12_isPlain_22 : decode cX12_isPlain 22 = .ok (.iload_n 1, 1) := by decide +kernel
theorem dX12_isPlain_23 : decode cX12_isPlain 23 = .ok (.baload, 1) := by decide +kernel
theorem dX12_isPlain_24 : decode cX12_isPlain 24 = .ok (.ifCond .ne 17, 3) := by decide +kernel
theorem dX12_isPlain_27 : decode cX12_isPlain 27 = .ok (.aload_n 0, 1) := by decide +kernel
theorem dX12_isPlain_28 : decode cX12_isPlain 28 = .ok (.getfield 47, 3) := by decide +kernel
theorem dX12_isPlain_31 : decode cX12_isPlain 31 = .ok (.iload_n 1, 1) := by decide +kernel
theorem dX12_isPlain_32 : decode cX12_isPlain 32 = .ok (.iaload, 1) := by decide +kernel
theorem dX12_isPlain_33 : decode cX12_isPlain 33 = .ok (.iload_n 2, 1) := by decide +kernel
theorem dX12_isPlain_34 : decode cX12_isPlain 34 = .ok (.if_icmp .ne 7, 3) := by decide +kernel
theorem dX12_isPlain_37 : decode cX12_isPlain 37 = .ok (.iconst 1, 1) := by decide +kernel
theorem dX12_isPlain_38 : decode cX12_isPlain 38 = .ok (.goto 4, 3) := by decide +kernel
theorem dX12_isPlain_41 : decode cX12_isPlain 41 = .ok (.iconst 0, 1) := by decide +kernel
theorem dX12_isPlain_42 : decode cX12_isPlain 42 = .ok (.ireturn, 1) := by decide +kernel
theorem dX12_isDyed_0 : decode cX12_isDyed 0 = .ok (.iload_n 1, 1) := by decide +kernel
theorem dX12_isDyed_1 : decode cX12_isDyed 1 = .ok (.aload_n 0, 1) := by decide +kernel
theorem dX12_isDyed_2 : decode cX12_isDyed 2 = .ok (.getfield 175, 3) := by decide +kernel
theorem dX12_isDyed_5 : decode cX12_isDyed 5 = .ok (.if_icmp .ge 36, 3) := by decide +kernel
theorem dX12_isDyed_8 : decode cX12_isDyed 8 = .ok (.aload_n 0, 1) := by decide +kernel
theorem dX12_isDyed_9 : decode cX12_isDyed 9 = .ok (.getfield 44, 3) := by decide +kernel
theorem dX12_isDyed_12 : decode cX12_isDyed 12 = .ok (.iload_n 1, 1) := by decide +kernel
theorem dX12_isDyed_13 : decode cX12_isDyed 13 = .ok (.iaload, 1) := by decide +kernel
theorem dX12_isDyed_14 : decode cX12_isDyed 14 = .ok (.iconst 1, 1) := by decide +kernel
theorem dX12_isDyed_15 : decode cX12_isDyed 15 = .ok (.if_icmp .ne 26, 3) := by decide +kernel
theorem dX12_isDyed_18 : decode cX12_isDyed 18 = .ok (.aload_n 0, 1) := by decide +kernel
theorem dX12_isDyed_19 : decode cX12_isDyed 19 = .ok (.getfield 50, 3) := by decide +kernel
theorem dX12_isDyed_22 : decode cX12_isDyed 22 = .ok (.iload_n 1, 1) := by decide +kernel
theorem dX12_isDyed_23 : decode cX12_isDyed 23 = .ok (.baload, 1) := by decide +kernel
theorem dX12_isDyed_24 : decode cX12_isDyed 24 = .ok (.ifCond .eq 17, 3) := by decide +kernel
theorem dX12_isDyed_27 : decode cX12_isDyed 27 = .ok (.aload_n 0, 1) := by decide +kernel
theorem dX12_isDyed_28 : decode cX12_isDyed 28 = .ok (.getfield 47, 3) := by decide +kernel
theorem dX12_isDyed_31 : decode cX12_isDyed 31 = .ok (.iload_n 1, 1) := by decide +kernel
theorem dX12_isDyed_32 : decode cX12_isDyed 32 = .ok (.iaload, 1) := by decide +kernel
theorem dX12_isDyed_33 : decode cX12_isDyed 33 = .ok (.iload_n 2, 1) := by decide +kernel
theorem dX12_isDyed_34 : decode cX12_isDyed 34 = .ok (.if_icmp .ne 7, 3) := by decide +kernel
theorem dX12_isDyed_37 : decode cX12_isDyed 37 = .ok (.iconst 1, 1) := by decide +kernel
theorem dX12_isDyed_38 : decode cX12_isDyed 38 = .ok (.goto 4, 3) := by decide +kernel
theorem dX12_isDyed_41 : decode cX12_isDyed 41 = .ok (.iconst 0, 1) := by decide +kernel
theorem dX12_isDyed_42 : decode cX12_isDyed 42 = .ok (.ireturn, 1) := by decide +kernel
theorem dX12_isRest_0 : decode cX12_isRest 0 = .ok (.iload_n 1, 1) := by decide +kernel
theorem dX12_isRest_1 : decode cX12_isRest 1 = .ok (.aload_n 0, 1) := by decide +kernel
theorem dX12_isRest_2 : decode cX12_isRest 2 = .ok (.getfield 175, 3) := by decide +kernel
theorem dX12_isRest_5 : decode cX12_isRest 5 = .ok (.if_icmp .ge 27, 3) := by decide +kernel
theorem dX12_isRest_8 : decode cX12_isRest 8 = .ok (.aload_n 0, 1) := by decide +kernel
theorem dX12_isRest_9 : decode cX12_isRest 9 = .ok (.getfield 44, 3) := by decide +kernel
theorem dX12_isRest_12 : decode cX12_isRest 12 = .ok (.iload_n 1, 1) := by decide +kernel
theorem dX12_isRest_13 : decode cX12_isRest 13 = .ok (.iaload, 1) := by decide +kernel
theorem dX12_isRest_14 : decode cX12_isRest 14 = .ok (.iconst 2, 1) := by decide +kernel
theorem dX12_isRest_15 : decode cX12_isRest 15 = .ok (.if_icmp .ne 17, 3) := by decide +kernel
theorem dX12_isRest_18 : decode cX12_isRest 18 = .ok (.aload_n 0, 1) := by decide +kernel
theorem dX12_isRest_19 : decode cX12_isRest 19 = .ok (.getfield 47, 3) := by decide +kernel
theorem dX12_isRest_22 : decode cX12_isRest 22 = .ok (.iload_n 1, 1) := by decide +kernel
theorem dX12_isRest_23 : decode cX12_isRest 23 = .ok (.iaload, 1) := by decide +kernel
theorem dX12_isRest_24 : decode cX12_isRest 24 = .ok (.iload_n 2, 1) := by decide +kernel
theorem dX12_isRest_25 : decode cX12_isRest 25 = .ok (.if_icmp .ne 7, 3) := by decide +kernel
theorem dX12_isRest_28 : decode cX12_isRest 28 = .ok (.iconst 1, 1) := by decide +kernel
theorem dX12_isRest_29 : decode cX12_isRest 29 = .ok (.goto 4, 3) := by decide +kernel
theorem dX12_isRest_32 : decode cX12_isRest 32 = .ok (.iconst 0, 1) := by decide +kernel
theorem dX12_isRest_33 : decode cX12_isRest 33 = .ok (.ireturn, 1) := by decide +kernel
theorem dX12_isDot_0 : decode cX12_isDot 0 = .ok (.iload_n 1, 1) := by decide +kernel
theorem dX12_isDot_1 : decode cX12_isDot 1 = .ok (.ifCond .lt 25, 3) := by decide +kernel
theorem dX12_isDot_4 : decode cX12_isDot 4 = .ok (.iload_n 1, 1) := by decide +kernel
theorem dX12_isDot_5 : decode cX12_isDot 5 = .ok (.aload_n 0, 1) := by decide +kernel
theorem dX12_isDot_6 : decode cX12_isDot 6 = .ok (.getfield 175, 3) := by decide +kernel
theorem dX12_isDot_9 : decode cX12_isDot 9 = .ok (.if_icmp .ge 17, 3) := by decide +kernel
theorem dX12_isDot_12 : decode cX12_isDot 12 = .ok (.aload_n 0, 1) := by decide +kernel
theorem dX12_isDot_13 : decode cX12_isDot 13 = .ok (.getfield 44, 3) := by decide +kernel
theorem dX12_isDot_16 : decode cX12_isDot 16 = .ok (.iload_n 1, 1) := by decide +kernel
theorem dX12_isDot_17 : decode cX12_isDot 17 = .ok (.iaload, 1) := by decide +kernel
theorem dX12_isDot_18 : decode cX12_isDot 18 = .ok (.iconst 3, 1) := by decide +kernel
theorem dX12_isDot_19 : decode cX12_isDot 19 = .ok (.if_icmp .ne 7, 3) := by decide +kernel
theorem dX12_isDot_22 : decode cX12_isDot 22 = .ok (.iconst 1, 1) := by decide +kernel
theorem dX12_isDot_23 : decode cX12_isDot 23 = .ok (.goto 4, 3) := by decide +kernel
theorem dX12_isDot_26 : decode cX12_isDot 26 = .ok (.iconst 0, 1) := by decide +kernel
theorem dX12_isDot_27 : decode cX12_isDot 27 = .ok (.ireturn, 1) := by decide +kernel
theorem dX12_nextKind_0 : decode cX12_nextKind 0 = .ok (.iload_n 1, 1) := by decide +kernel
theorem dX12_nextKind_1 : decode cX12_nextKind 1 = .ok (.iconst 1, 1) := by decide +kernel
theorem dX12_nextKind_2 : decode cX12_nextKind 2 = .ok (.iadd, 1) := by decide +kernel
theorem dX12_nextKind_3 : decode cX12_nextKind 3 = .ok (.istore_n 2, 1) := by decide +kernel
theorem dX12_nextKind_4 : decode cX12_nextKind 4 = .ok (.aload_n 0, 1) := by decide +kernel
theorem dX12_nextKind_5 : decode cX12_nextKind 5 = .ok (.iload_n 2, 1) := by decide +kernel
theorem dX12_nextKind_6 : decode cX12_nextKind 6 = .ok (.invokevirtual 178, 3) := by decide +kernel
theorem dX12_nextKind_9 : decode cX12_nextKind 9 = .ok (.ifCond .eq 9, 3) := by decide +kernel
theorem dX12_nextKind_12 : decode cX12_nextKind 12 = .ok (.iinc 2 1, 3) := by decide +kernel
theorem dX12_nextKind_15 : decode cX12_nextKind 15 = .ok (.goto (-11), 3) := by decide +kernel
theorem dX12_nextKind_18 : decode cX12_nextKind 18 = .ok (.iload_n 2, 1) := by decide +kernel
theorem dX12_nextKind_19 : decode cX12_nextKind 19 = .ok (.aload_n 0, 1) := by decide +kernel
theorem dX12_nextKind_20 : decode cX12_nextKind 20 = .ok (.getfield 175, 3) := by decide +kernel
theorem dX12_nextKind_23 : decode cX12_nextKind 23 = .ok (.if_icmp .ge 12, 3) := by decide +kernel
theorem dX12_nextKind_26 : decode cX12_nextKind 26 = .ok (.aload_n 0, 1) := by decide +kernel
theorem dX12_nextKind_27 : decode cX12_nextKind 27 = .ok (.getfield 47, 3) := by decide +kernel
theorem dX12_nextKind_30 : decode cX12_nextKind 30 = .ok (.iload_n 2, 1) := by decide +kernel
theorem dX12_nextKind_31 : decode cX12_nextKind 31 = .ok (.iaload, 1) := by decide +kernel
theorem dX12_nextKind_32 : decode cX12_nextKind 32 = .ok (.goto 4, 3) := by decide +kernel
theorem dX12_nextKind_35 : decode cX12_nextKind 35 = .ok (.iconst (-1), 1) := by decide +kernel
theorem dX12_nextKind_36 : decode cX12_nextKind 36 = .ok (.ireturn, 1) := by decide +kernel
theorem dX12_waysOf_0 : decode cX12_waysOf 0 = .ok (.iload_n 2, 1) := by decide +kernel
theorem dX12_waysOf_1 : decode cX12_waysOf 1 = .ok (.bipush 6, 2) := by decide +kernel
theorem dX12_waysOf_3 : decode cX12_waysOf 3 = .ok (.if_icmp .gt 9, 3) := by decide +kernel
theorem dX12_waysOf_6 : decode cX12_waysOf 6 = .ok (.iload_n 3, 1) := by decide +kernel
theorem dX12_waysOf_7 : decode cX12_waysOf 7 = .ok (.iload 4, 2) := by decide +kernel
theorem dX12_waysOf_9 : decode cX12_waysOf 9 = .ok (.if_icmp .le 7, 3) := by decide +kernel
theorem dX12_waysOf_12 : decode cX12_waysOf 12 = .ok (.iconst 0, 1) := by decide +kernel
theorem dX12_waysOf_13 : decode cX12_waysOf 13 = .ok (.goto 28, 3) := by decide +kernel
theorem dX12_waysOf_16 : decode cX12_waysOf 16 = .ok (.aload_n 0, 1) := by decide +kernel
theorem dX12_waysOf_17 : decode cX12_waysOf 17 = .ok (.getfield 53, 3) := by decide +kernel
theorem dX12_waysOf_20 : decode cX12_waysOf 20 = .ok (.iload_n 1, 1) := by decide +kernel
theorem dX12_waysOf_21 : decode cX12_waysOf 21 = .ok (.bipush 7, 2) := by decide +kernel
theorem dX12_waysOf_23 : decode cX12_waysOf 23 = .ok (.imul, 1) := by decide +kernel
theorem dX12_waysOf_24 : decode cX12_waysOf 24 = .ok (.iload_n 2, 1) := by decide +kernel
theorem dX12_waysOf_25 : decode cX12_waysOf 25 = .ok (.iadd, 1) := by decide +kernel
theorem dX12_waysOf_26 : decode cX12_waysOf 26 = .ok (.bipush 25, 2) := by decide +kernel
theorem dX12_waysOf_28 : decode cX12_waysOf 28 = .ok (.imul, 1) := by decide +kernel
theorem dX12_waysOf_29 : decode cX12_waysOf 29 = .ok (.bipush 25, 2) := by decide +kernel
theorem dX12_waysOf_31 : decode cX12_waysOf 31 = .ok (.imul, 1) := by decide +kernel
theorem dX12_waysOf_32 : decode cX12_waysOf 32 = .ok (.bipush 25, 2) := by decide +kernel
theorem dX12_waysOf_34 : decode cX12_waysOf 34 = .ok (.iload_n 3, 1) := by decide +kernel
theorem dX12_waysOf_35 : decode cX12_waysOf 35 = .ok (.imul, 1) := by decide +kernel
theorem dX12_waysOf_36 : decode cX12_waysOf 36 = .ok (.iadd, 1) := by decide +kernel
theorem dX12_waysOf_37 : decode cX12_waysOf 37 = .ok (.iload 4, 2) := by decide +kernel
theorem dX12_waysOf_39 : decode cX12_waysOf 39 = .ok (.iadd, 1) := by decide +kernel
theorem dX12_waysOf_40 : decode cX12_waysOf 40 = .ok (.iaload, 1) := by decide +kernel
theorem dX12_waysOf_41 : decode cX12_waysOf 41 = .ok (.ireturn, 1) := by decide +kernel
theorem dX12_cap_0 : decode cX12_cap 0 = .ok (.lload_n 0, 1) := by decide +kernel
theorem dX12_cap_1 : decode cX12_cap 1 = .ok (.ldc2_w 181, 3) := by decide +kernel
theorem dX12_cap_4 : decode cX12_cap 4 = .ok (.lcmp, 1) := by decide +kernel
theorem dX12_cap_5 : decode cX12_cap 5 = .ok (.ifCond .le 9, 3) := by decide +kernel
theorem dX12_cap_8 : decode cX12_cap 8 = .ok (.sipush 3000, 3) := by decide +kernel
theorem dX12_cap_11 : decode cX12_cap 11 = .ok (.goto 5, 3) := by decide +kernel
theorem dX12_cap_14 : decode cX12_cap 14 = .ok (.lload_n 0, 1) := by decide +kernel
theorem dX12_cap_15 : decode cX12_cap 15 = .ok (.l2i, 1) := by decide +kernel
theorem dX12_cap_16 : decode cX12_cap 16 = .ok (.ireturn, 1) := by decide +kernel
theorem dX12_offer_0 : decode cX12_offer 0 = .ok (.lload 5, 2) := by decide +kernel
theorem dX12_offer_2 : decode cX12_offer 2 = .ok (.lconst 0, 1) := by decide +kernel
theorem dX12_offer_3 : decode cX12_offer 3 = .ok (.lcmp, 1) := by decide +kernel
theorem dX12_offer_4 : decode cX12_offer 4 = .ok (.ifCond .ne 4, 3) := by decide +kernel
theorem dX12_offer_7 : decode cX12_offer 7 = .ok (.return_, 1) := by decide +kernel
theorem dX12_offer_8 : decode cX12_offer 8 = .ok (.aload_n 0, 1) := by decide +kernel
theorem dX12_offer_9 : decode cX12_offer 9 = .ok (.getfield 183, 3) := by decide +kernel
theorem dX12_offer_12 : decode cX12_offer 12 = .ok (.ifCond .ne 70, 3) := by decide +kernel
theorem dX12_offer_15 : decode cX12_offer 15 = .ok (.aload_n 0, 1) := by decide +kernel
theorem dX12_offer_16 : decode cX12_offer 16 = .ok (.getfield 187, 3) := by decide +kernel
theorem dX12_offer_19 : decode cX12_offer 19 = .ok (.aload_n 0, 1) := by decide +kernel
theorem dX12_offer_20 : decode cX12_offer 20 = .ok (.getfield 190, 3) := by decide +kernel
theorem dX12_offer_23 : decode cX12_offer 23 = .ok (.if_icmp .lt 59, 3) := by decide +kernel
theorem dX12_offer_26 : decode cX12_offer 26 = .ok (.aload_n 0, 1) := by decide +kernel
theorem dX12_offer_27 : decode cX12_offer 27 = .ok (.getfield 187, 3) := by decide +kernel
theorem dX12_offer_30 : decode cX12_offer 30 = .ok (.i2l, 1) := by decide +kernel
theorem dX12_offer_31 : decode cX12_offer 31 = .ok (.aload_n 0, 1) := by decide +kernel
theorem dX12_offer_32 : decode cX12_offer 32 = .ok (.getfield 190, 3) := by decide +kernel
theorem dX12_offer_35 : decode cX12_offer 35 = .ok (.i2l, 1) := by decide +kernel
theorem dX12_offer_36 : decode cX12_offer 36 = .ok (.lload 5, 2) := by decide +kernel
theorem dX12_offer_38 : decode cX12_offer 38 = .ok (.ladd, 1) := by decide +kernel
theorem dX12_offer_39 : decode cX12_offer 39 = .ok (.lcmp, 1) := by decide +kernel
theorem dX12_offer_40 : decode cX12_offer 40 = .ok (.ifCond .ge 42, 3) := by decide +kernel
theorem dX12_offer_43 : decode cX12_offer 43 = .ok (.aload_n 0, 1) := by decide +kernel
theorem dX12_offer_44 : decode cX12_offer 44 = .ok (.iconst 1, 1) := by decide +kernel
theorem dX12_offer_45 : decode cX12_offer 45 = .ok (.putfield 183, 3) := by decide +kernel
theorem dX12_offer_48 : decode cX12_offer 48 = .ok (.aload_n 0, 1) := by decide +kernel
theorem dX12_offer_49 : decode cX12_offer 49 = .ok (.iload_n 1, 1) := by decide +kernel
theorem dX12_offer_50 : decode cX12_offer 50 = .ok (.putfield 193, 3) := by decide +kernel
theorem dX12_offer_53 : decode cX12_offer 53 = .ok (.aload_n 0, 1) := by decide +kernel
theorem dX12_offer_54 : decode cX12_offer 54 = .ok (.iload_n 2, 1) := by decide +kernel
theorem dX12_offer_55 : decode cX12_offer 55 = .ok (.putfield 196, 3) := by decide +kernel
theorem dX12_offer_58 : decode cX12_offer 58 = .ok (.aload_n 0, 1) := by decide +kernel
theorem dX12_offer_59 : decode cX12_offer 59 = .ok (.iload_n 3, 1) := by decide +kernel
theorem dX12_offer_60 : decode cX12_offer 60 = .ok (.putfield 199, 3) := by decide +kernel
theorem dX12_offer_63 : decode cX12_offer 63 = .ok (.aload_n 0, 1) := by decide +kernel
theorem dX12_offer_64 : decode cX12_offer 64 = .ok (.iload 4, 2) := by decide +kernel
theorem dX12_offer_66 : decode cX12_offer 66 = .ok (.putfield 202, 3) := by decide +kernel
theorem dX12_offer_69 : decode cX12_offer 69 = .ok (.aload_n 0, 1) := by decide +kernel
theorem dX12_offer_70 : decode cX12_offer 70 = .ok (.aload_n 0, 1) := by decide +kernel
theorem dX12_offer_71 : decode cX12_offer 71 = .ok (.getfield 187, 3) := by decide +kernel
theorem dX12_offer_74 : decode cX12_offer 74 = .ok (.aload_n 0, 1) := by decide +kernel
theorem dX12_offer_75 : decode cX12_offer 75 = .ok (.getfield 190, 3) := by decide +kernel
theorem dX12_offer_78 : decode cX12_offer 78 = .ok (.isub, 1) := by decide +kernel
theorem dX12_offer_79 : decode cX12_offer 79 = .ok (.putfield 205, 3) := by decide +kernel
theorem dX12_offer_82 : decode cX12_offer 82 = .ok (.aload_n 0, 1) := by decide +kernel
theorem dX12_offer_83 : decode cX12_offer 83 = .ok (.aload_n 0, 1) := by decide +kernel
theorem dX12_offer_84 : decode cX12_offer 84 = .ok (.getfield 190, 3) := by decide +kernel
theorem dX12_offer_87 : decode cX12_offer 87 = .ok (.i2l, 1) := by decide +kernel
theorem dX12_offer_88 : decode cX12_offer 88 = .ok (.lload 5, 2) := by decide +kernel
theorem dX12_offer_90 : decode cX12_offer 90 = .ok (.ladd, 1) := by decide +kernel
theorem dX12_offer_91 : decode cX12_offer 91 = .ok (.invokestatic 208, 3) := by decide +kernel
theorem dX12_offer_94 : decode cX12_offer 94 = .ok (.putfield 190, 3) := by decide +kernel
theorem dX12_offer_97 : decode cX12_offer 97 = .ok (.return_, 1) := by decide +kernel
theorem dX12_scanUnit_0 : decode cX12_scanUnit 0 = .ok (.iload_n 3, 1) := by decide +kernel
theorem dX12_scanUnit_1 : decode cX12_scanUnit 1 = .ok (.iload_n 2, 1) := by decide +kernel
theorem dX12_scanUnit_2 : decode cX12_scanUnit 2 = .ok (.iconst 1, 1) := by decide +kernel
theorem dX12_scanUnit_3 : decode cX12_scanUnit 3 = .ok (.iadd, 1) := by decide +kernel
theorem dX12_scanUnit_4 : decode cX12_scanUnit 4 = .ok (.if_icmp .ne 47, 3) := by decide +kernel
theorem dX12_scanUnit_7 : decode cX12_scanUnit 7 = .ok (.aload_n 0, 1) := by decide +kernel
theorem dX12_scanUnit_8 : decode cX12_scanUnit 8 = .ok (.iconst 1, 1) := by decide +kernel
theorem dX12_scanUnit_9 : decode cX12_scanUnit 9 = .ok (.iconst 0, 1) := by decide +kernel
theorem dX12_scanUnit_10 : decode cX12_scanUnit 10 = .ok (.iconst 0, 1) := by decide +kernel
theorem dX12_scanUnit_11 : decode cX12_scanUnit 11 = .ok (.iconst 0, 1) := by decide +kernel
theorem dX12_scanUnit_12 : decode cX12_scanUnit 12 = .ok (.aload_n 0, 1) := by decide +kernel
theorem dX12_scanUnit_13 : decode cX12_scanUnit 13 = .ok (.iload_n 2, 1) := by decide +kernel
theorem dX12_scanUnit_14 : decode cX12_scanUnit 14 = .ok (.iload_n 1, 1) := by decide +kernel
theorem dX12_scanUnit_15 : decode cX12_scanUnit 15 = .ok (.invokevirtual 212, 3) := by decide +kernel
theorem dX12_scanUnit_18 : decode cX12_scanUnit 18 = .ok (.ifCond .eq 7, 3) := by decide +kernel
theorem dX12_scanUnit_21 : decode cX12_scanUnit 21 = .ok (.lconst 1, 1) := by decide +kernel
theorem dX12_scanUnit_22 : decode cX12_scanUnit 22 = .ok (.goto 4, 3) := by decide +kernel
theorem dX12_scanUnit_25 : decode cX12_scanUnit 25 = .ok (.lconst 0, 1) := by decide +kernel
theorem dX12_scanUnit_26 : decode cX12_scanUnit 26 = .ok (.invokevirtual 215, 3) := by decide +kernel
theorem dX12_scanUnit_29 : decode cX12_scanUnit 29 = .ok (.aload_n 0, 1) := by decide +kernel
theorem dX12_scanUnit_30 : decode cX12_scanUnit 30 = .ok (.iconst 2, 1) := by decide +kernel
theorem dX12_scanUnit_31 : decode cX12_scanUnit 31 = .ok (.iconst 0, 1) := by decide +kernel
theorem dX12_scanUnit_32 : decode cX12_scanUnit 32 = .ok (.iconst 0, 1) := by decide +kernel
theorem dX12_scanUnit_33 : decode cX12_scanUnit 33 = .ok (.iconst 0, 1) := by decide +kernel
theorem dX12_scanUnit_34 : decode cX12_scanUnit 34 = .ok (.aload_n 0, 1) := by decide +kernel
theorem dX12_scanUnit_35 : decode cX12_scanUnit 35 = .ok (.iload_n 2, 1) := by decide +kernel
theorem dX12_scanUnit_36 : decode cX12_scanUnit 36 = .ok (.iload_n 1, 1) := by decide +kernel
theorem dX12_scanUnit_37 : decode cX12_scanUnit 37 = .ok (.invokevirtual 219, 3) := by decide +kernel
theorem dX12_scanUnit_40 : decode cX12_scanUnit 40 = .ok (.ifCond .eq 7, 3) := by decide +kernel
theorem dX12_scanUnit_43 : decode cX12_scanUnit 43 = .ok (.lconst 1, 1) := by decide +kernel
theorem dX12_scanUnit_44 : decode cX12_scanUnit 44 = .ok (.goto 4, 3) := by decide +kernel
theorem dX12_scanUnit_47 : decode cX12_scanUnit 47 = .ok (.lconst 0, 1) := by decide +kernel
theorem dX12_scanUnit_48 : decode cX12_scanUnit 48 = .ok (.invokevirtual 215, 3) := by decide +kernel
theorem dX12_scanUnit_51 : decode cX12_scanUnit 51 = .ok (.aload_n 0, 1) := by decide +kernel
theorem dX12_scanUnit_52 : decode cX12_scanUnit 52 = .ok (.getfield 222, 3) := by decide +kernel
theorem dX12_scanUnit_55 : decode cX12_scanUnit 55 = .ok (.iload_n 1, 1) := by decide +kernel
theorem dX12_scanUnit_56 : decode cX12_scanUnit 56 = .ok (.invokestatic 161, 3) := by decide +kernel
theorem dX12_scanUnit_59 : decode cX12_scanUnit 59 = .ok (.istore 4, 2) := by decide +kernel
theorem dX12_scanUnit_61 : decode cX12_scanUnit 61 = .ok (.iload 4, 2) := by decide +kernel
theorem dX12_scanUnit_63 : decode cX12_scanUnit 63 = .ok (.ifCond .ne 86, 3) := by decide +kernel
theorem dX12_scanUnit_66 : decode cX12_scanUnit 66 = .ok (.iload_n 2, 1) := by decide +kernel
theorem dX12_scanUnit_67 : decode cX12_scanUnit 67 = .ok (.iconst 1, 1) := by decide +kernel
theorem dX12_scanUnit_68 : decode cX12_scanUnit 68 = .ok (.iadd, 1) := by decide +kernel
theorem dX12_scanUnit_69 : decode cX12_scanUnit 69 = .ok (.istore 5, 2) := by decide +kernel
theorem dX12_scanUnit_71 : decode cX12_scanUnit 71 = .ok (.iload 5, 2) := by decide +kernel
theorem dX12_scanUnit_73 : decode cX12_scanUnit 73 = .ok (.iload_n 3, 1) := by decide +kernel
theorem dX12_scanUnit_74 : decode cX12_scanUnit 74 = .ok (.if_icmp .ge 49, 3) := by decide +kernel
theorem dX12_scanUnit_77 : decode cX12_scanUnit 77 = .ok (.iload_n 1, 1) := by decide +kernel
theorem dX12_scanUnit_78 : decode cX12_scanUnit 78 = .ok (.bipush 6, 2) := by decide +kernel
theorem dX12_scanUnit_80 : decode cX12_scanUnit 80 = .ok (.if_icmp .ge 43, 3) := by decide +kernel
theorem dX12_scanUnit_83 : decode cX12_scanUnit 83 = .ok (.aload_n 0, 1) := by decide +kernel
theorem dX12_scanUnit_84 : decode cX12_scanUnit 84 = .ok (.iconst 4, 1) := by decide +kernel
theorem dX12_scanUnit_85 : decode cX12_scanUnit 85 = .ok (.iload 5, 2) := by decide +kernel
theorem dX12_scanUnit_87 : decode cX12_scanUnit 87 = .ok (.iconst 0, 1) := by decide +kernel
theorem dX12_scanUnit_88 : decode cX12_scanUnit 88 = .ok (.iconst 0, 1) := by decide +kernel
theorem dX12_scanUnit_89 : decode cX12_scanUnit 89 = .ok (.aload_n 0, 1) := by decide +kernel
theorem dX12_scanUnit_90 : decode cX12_scanUnit 90 = .ok (.iconst 0, 1) := by decide +kernel
theorem dX12_scanUnit_91 : decode cX12_scanUnit 91 = .ok (.iload_n 1, 1) := by decide +kernel
theorem dX12_scanUnit_92 : decode cX12_scanUnit 92 = .ok (.iconst 1, 1) := by decide +kernel
theorem dX12_scanUnit_93 : decode cX12_scanUnit 93 = .ok (.iadd, 1) := by decide +kernel
theorem dX12_scanUnit_94 : decode cX12_scanUnit 94 = .ok (.iload_n 2, 1) := by decide +kernel
theorem dX12_scanUnit_95 : decode cX12_scanUnit 95 = .ok (.iload 5, 2) := by decide +kernel
theorem dX12_scanUnit_97 : decode cX12_scanUnit 97 = .ok (.invokevirtual 225, 3) := by decide +kernel
theorem dX12_scanUnit_100 : decode cX12_scanUnit 100 = .ok (.i2l, 1) := by decide +kernel
theorem dX12_scanUnit_101 : decode cX12_scanUnit 101 = .ok (.aload_n 0, 1) := by decide +kernel
theorem dX12_scanUnit_102 : decode cX12_scanUnit 102 = .ok (.iconst 0, 1) := by decide +kernel
theorem dX12_scanUnit_103 : decode cX12_scanUnit 103 = .ok (.iload_n 1, 1) := by decide +kernel
theorem dX12_scanUnit_104 : decode cX12_scanUnit 104 = .ok (.iconst 1, 1) := by decide +kernel
theorem dX12_scanUnit_105 : decode cX12_scanUnit 105 = .ok (.iadd, 1) := by decide +kernel
theorem dX12_scanUnit_106 : decode cX12_scanUnit 106 = .ok (.iload 5, 2) := by decide +kernel
theorem dX12_scanUnit_108 : decode cX12_scanUnit 108 = .ok (.iload_n 3, 1) := by decide +kernel
theorem dX12_scanUnit_109 : decode cX12_scanUnit 109 = .ok (.invokevirtual 225, 3) := by decide +kernel
theorem dX12_scanUnit_112 : decode cX12_scanUnit 112 = .ok (.i2l, 1) := by decide +kernel
theorem dX12_scanUnit_113 : decode cX12_scanUnit 113 = .ok (.lmul, 1) := by decide +kernel
theorem dX12_scanUnit_114 : decode cX12_scanUnit 114 = .ok (.invokevirtual 215, 3) := by decide +kernel
theorem dX12_scanUnit_117 : decode cX12_scanUnit 117 = .ok (.iinc 5 1, 3) := by decide +kernel
theorem dX12_scanUnit_120 : decode cX12_scanUnit 120 = .ok (.goto (-49), 3) := by decide +kernel
theorem dX12_scanUnit_123 : decode cX12_scanUnit 123 = .ok (.iload_n 1, 1) := by decide +kernel
theorem dX12_scanUnit_124 : decode cX12_scanUnit 124 = .ok (.bipush 6, 2) := by decide +kernel
theorem dX12_scanUnit_126 : decode cX12_scanUnit 126 = .ok (.if_icmp .ge 22, 3) := by decide +kernel
theorem dX12_scanUnit_129 : decode cX12_scanUnit 129 = .ok (.aload_n 0, 1) := by decide +kernel
theorem dX12_scanUnit_130 : decode cX12_scanUnit 130 = .ok (.iconst 5, 1) := by decide +kernel
theorem dX12_scanUnit_131 : decode cX12_scanUnit 131 = .ok (.iconst 0, 1) := by decide +kernel
theorem dX12_scanUnit_132 : decode cX12_scanUnit 132 = .ok (.iconst 0, 1) := by decide +kernel
theorem dX12_scanUnit_133 : decode cX12_scanUnit 133 = .ok (.iconst 0, 1) := by decide +kernel
theorem dX12_scanUnit_134 : decode cX12_scanUnit 134 = .ok (.aload_n 0, 1) := by decide +kernel
theorem dX12_scanUnit_135 : decode cX12_scanUnit 135 = .ok (.iconst 1, 1) := by decide +kernel
theorem dX12_scanUnit_136 : decode cX12_scanUnit 136 = .ok (.iload_n 1, 1) := by decide +kernel
theorem dX12_scanUnit_137 : decode cX12_scanUnit 137 = .ok (.iconst 1, 1) := by decide +kernel
theorem dX12_scanUnit_138 : decode cX12_scanUnit 138 = .ok (.iadd, 1) := by decide +kernel
theorem dX12_scanUnit_139 : decode cX12_scanUnit 139 = .ok (.iload_n 2, 1) := by decide +kernel
theorem dX12_scanUnit_140 : decode cX12_scanUnit 140 = .ok (.iload_n 3, 1) := by decide +kernel
theorem dX12_scanUnit_141 : decode cX12_scanUnit 141 = .ok (.invokevirtual 225, 3) := by decide +kernel
theorem dX12_scanUnit_144 : decode cX12_scanUnit 144 = .ok (.i2l, 1) := by decide +kernel
theorem dX12_scanUnit_145 : decode cX12_scanUnit 145 = .ok (.invokevirtual 215, 3) := by decide +kernel
theorem dX12_scanUnit_148 : decode cX12_scanUnit 148 = .ok (.return_, 1) := by decide +kernel
theorem dX12_scanUnit_149 : decode cX12_scanUnit 149 = .ok (.iload_n 3, 1) := by decide +kernel
theorem dX12_scanUnit_150 : decode cX12_scanUnit 150 = .ok (.iload_n 2, 1) := by decide +kernel
theorem dX12_scanUnit_151 : decode cX12_scanUnit 151 = .ok (.iconst 2, 1) := by decide +kernel
theorem dX12_scanUnit_152 : decode cX12_scanUnit 152 = .ok (.iadd, 1) := by decide +kernel
theorem dX12_scanUnit_153 : decode cX12_scanUnit 153 = .ok (.if_icmp .ne 99, 3) := by decide +kernel
theorem dX12_scanUnit_156 : decode cX12_scanUnit 156 = .ok (.aload_n 0, 1) := by decide +kernel
theorem dX12_scanUnit_157 : decode cX12_scanUnit 157 = .ok (.iconst 3, 1) := by decide +kernel
theorem dX12_scanUnit_158 : decode cX12_scanUnit 158 = .ok (.iconst 0, 1) := by decide +kernel
theorem dX12_scanUnit_159 : decode cX12_scanUnit 159 = .ok (.iconst 0, 1) := by decide +kernel
theorem dX12_scanUnit_160 : decode cX12_scanUnit 160 = .ok (.iconst 0, 1) := by decide +kernel
theorem dX12_scanUnit_161 : decode cX12_scanUnit 161 = .ok (.aload_n 0, 1) := by decide +kernel
theorem dX12_scanUnit_162 : decode cX12_scanUnit 162 = .ok (.iload_n 2, 1) := by decide +kernel
theorem dX12_scanUnit_163 : decode cX12_scanUnit 163 = .ok (.iload_n 1, 1) := by decide +kernel
theorem dX12_scanUnit_164 : decode cX12_scanUnit 164 = .ok (.invokevirtual 212, 3) := by decide +kernel
theorem dX12_scanUnit_167 : decode cX12_scanUnit 167 = .ok (.ifCond .eq 17, 3) := by decide +kernel
theorem dX12_scanUnit_170 : decode cX12_scanUnit 170 = .ok (.aload_n 0, 1) := by decide +kernel
theorem dX12_scanUnit_171 : decode cX12_scanUnit 171 = .ok (.iload_n 2, 1) := by decide +kernel
theorem dX12_scanUnit_172 : decode cX12_scanUnit 172 = .ok (.iconst 1, 1) := by decide +kernel
theorem dX12_scanUnit_173 : decode cX12_scanUnit 173 = .ok (.iadd, 1) := by decide +kernel
theorem dX12_scanUnit_174 : decode cX12_scanUnit 174 = .ok (.invokevirtual 178, 3) := by decide +kernel
theorem dX12_scanUnit_177 : decode cX12_scanUnit 177 = .ok (.ifCond .eq 7, 3) := by decide +kernel
theorem dX12_scanUnit_180 : decode cX12_scanUnit 180 = .ok (.lconst 1, 1) := by decide +kernel
theorem dX12_scanUnit_181 : decode cX12_scanUnit 181 = .ok (.goto 4, 3) := by decide +kernel
theorem dX12_scanUnit_184 : decode cX12_scanUnit 184 = .ok (.lconst 0, 1) := by decide +kernel
theorem dX12_scanUnit_185 : decode cX12_scanUnit 185 = .ok (.invokevirtual 215, 3) := by decide +kernel
theorem dX12_scanUnit_188 : decode cX12_scanUnit 188 = .ok (.aload_n 0, 1) := by decide +kernel
theorem dX12_scanUnit_189 : decode cX12_scanUnit 189 = .ok (.iconst 1, 1) := by decide +kernel
theorem dX12_scanUnit_190 : decode cX12_scanUnit 190 = .ok (.iconst 0, 1) := by decide +kernel
theorem dX12_scanUnit_191 : decode cX12_scanUnit 191 = .ok (.iconst 0, 1) := by decide +kernel
theorem dX12_scanUnit_192 : decode cX12_scanUnit 192 = .ok (.iconst 1, 1) := by decide +kernel
theorem dX12_scanUnit_193 : decode cX12_scanUnit 193 = .ok (.aload_n 0, 1) := by decide +kernel
theorem dX12_scanUnit_194 : decode cX12_scanUnit 194 = .ok (.iload_n 2, 1) := by decide +kernel
theorem dX12_scanUnit_195 : decode cX12_scanUnit 195 = .ok (.iload_n 1, 1) := by decide +kernel
theorem dX12_scanUnit_196 : decode cX12_scanUnit 196 = .ok (.invokevirtual 212, 3) := by decide +kernel
theorem dX12_scanUnit_199 : decode cX12_scanUnit 199 = .ok (.ifCond .eq 17, 3) := by decide +kernel
theorem dX12_scanUnit_202 : decode cX12_scanUnit 202 = .ok (.aload_n 0, 1) := by decide +kernel
theorem dX12_scanUnit_203 : decode cX12_scanUnit 203 = .ok (.iload_n 2, 1) := by decide +kernel
theorem dX12_scanUnit_204 : decode cX12_scanUnit 204 = .ok (.iconst 1, 1) := by decide +kernel
theorem dX12_scanUnit_205 : decode cX12_scanUnit 205 = .ok (.iadd, 1) := by decide +kernel
theorem dX12_scanUnit_206 : decode cX12_scanUnit 206 = .ok (.invokevirtual 178, 3) := by decide +kernel
theorem dX12_scanUnit_209 : decode cX12_scanUnit 209 = .ok (.ifCond .eq 7, 3) := by decide +kernel
theorem dX12_scanUnit_212 : decode cX12_scanUnit 212 = .ok (.lconst 1, 1) := by decide +kernel
theorem dX12_scanUnit_213 : decode cX12_scanUnit 213 = .ok (.goto 4, 3) := by decide +kernel
theorem dX12_scanUnit_216 : decode cX12_scanUnit 216 = .ok (.lconst 0, 1) := by decide +kernel
theorem dX12_scanUnit_217 : decode cX12_scanUnit 217 = .ok (.invokevirtual 215, 3) := by decide +kernel
theorem dX12_scanUnit_220 : decode cX12_scanUnit 220 = .ok (.aload_n 0, 1) := by decide +kernel
theorem dX12_scanUnit_221 : decode cX12_scanUnit 221 = .ok (.iconst 2, 1) := by decide +kernel
theorem dX12_scanUnit_222 : decode cX12_scanUnit 222 = .ok (.iconst 0, 1) := by decide +kernel
theorem dX12_scanUnit_223 : decode cX12_scanUnit 223 = .ok (.iconst 0, 1) := by decide +kernel
theorem dX12_scanUnit_224 : decode cX12_scanUnit 224 = .ok (.iconst 1, 1) := by decide +kernel
theorem dX12_scanUnit_225 : decode cX12_scanUnit 225 = .ok (.aload_n 0, 1) := by decide +kernel
theorem dX12_scanUnit_226 : decode cX12_scanUnit 226 = .ok (.iload_n 2, 1) := by decide +kernel
theorem dX12_scanUnit_227 : decode cX12_scanUnit 227 = .ok (.iload_n 1, 1) := by decide +kernel
theorem dX12_scanUnit_228 : decode cX12_scanUnit 228 = .ok (.invokevirtual 219, 3) := by decide +kernel
theorem dX12_scanUnit_231 : decode cX12_scanUnit 231 = .ok (.ifCond .eq 17, 3) := by decide +kernel
theorem dX12_scanUnit_234 : decode cX12_scanUnit 234 = .ok (.aload_n 0, 1) := by decide +kernel
theorem dX12_scanUnit_235 : decode cX12_scanUnit 235 = .ok (.iload_n 2, 1) := by decide +kernel
theorem dX12_scanUnit_236 : decode cX12_scanUnit 236 = .ok (.iconst 1, 1) := by decide +kernel
theorem dX12_scanUnit_237 : decode cX12_scanUnit 237 = .ok (.iadd, 1) := by decide +kernel
theorem dX12_scanUnit_238 : decode cX12_scanUnit 238 = .ok (.invokevirtual 178, 3) := by decide +kernel
theorem dX12_scanUnit_241 : decode cX12_scanUnit 241 = .ok (.ifCond .eq 7, 3) := by decide +kernel
theorem dX12_scanUnit_244 : decode cX12_scanUnit 244 = .ok (.lconst 1, 1) := by decide +kernel
theorem dX12_scanUnit_245 : decode cX12_scanUnit 245 = .ok (.goto 4, 3) := by decide +kernel
theorem dX12_scanUnit_248 : decode cX12_scanUnit 248 = .ok (.lconst 0, 1) := by decide +kernel
theorem dX12_scanUnit_249 : decode cX12_scanUnit 249 = .ok (.invokevirtual 215, 3) := by decide +kernel
theorem dX12_scanUnit_252 : decode cX12_scanUnit 252 = .ok (.aload_n 0, 1) := by decide +kernel
theorem dX12_scanUnit_253 : decode cX12_scanUnit 253 = .ok (.iload_n 1, 1) := by decide +kernel
theorem dX12_scanUnit_254 : decode cX12_scanUnit 254 = .ok (.iload_n 2, 1) := by decide +kernel
theorem dX12_scanUnit_255 : decode cX12_scanUnit 255 = .ok (.iload_n 3, 1) := by decide +kernel
theorem dX12_scanUnit_256 : decode cX12_scanUnit 256 = .ok (.iconst 0, 1) := by decide +kernel
theorem dX12_scanUnit_257 : decode cX12_scanUnit 257 = .ok (.invokevirtual 229, 3) := by decide +kernel
theorem dX12_scanUnit_260 : decode cX12_scanUnit 260 = .ok (.aload_n 0, 1) := by decide +kernel
theorem dX12_scanUnit_261 : decode cX12_scanUnit 261 = .ok (.iload_n 3, 1) := by decide +kernel
theorem dX12_scanUnit_262 : decode cX12_scanUnit 262 = .ok (.iconst 1, 1) := by decide +kernel
theorem dX12_scanUnit_263 : decode cX12_scanUnit 263 = .ok (.isub, 1) := by decide +kernel
theorem dX12_scanUnit_264 : decode cX12_scanUnit 264 = .ok (.invokevirtual 178, 3) := by decide +kernel
theorem dX12_scanUnit_267 : decode cX12_scanUnit 267 = .ok (.ifCond .eq 13, 3) := by decide +kernel
theorem dX12_scanUnit_270 : decode cX12_scanUnit 270 = .ok (.aload_n 0, 1) := by decide +kernel
theorem dX12_scanUnit_271 : decode cX12_scanUnit 271 = .ok (.iload_n 1, 1) := by decide +kernel
theorem dX12_scanUnit_272 : decode cX12_scanUnit 272 = .ok (.iload_n 2, 1) := by decide +kernel
theorem dX12_scanUnit_273 : decode cX12_scanUnit 273 = .ok (.iload_n 3, 1) := by decide +kernel
theorem dX12_scanUnit_274 : decode cX12_scanUnit 274 = .ok (.iconst 1, 1) := by decide +kernel
theorem dX12_scanUnit_275 : decode cX12_scanUnit 275 = .ok (.isub, 1) := by decide +kernel
theorem dX12_scanUnit_276 : decode cX12_scanUnit 276 = .ok (.iconst 1, 1) := by decide +kernel
theorem dX12_scanUnit_277 : decode cX12_scanUnit 277 = .ok (.invokevirtual 229, 3) := by decide +kernel
theorem dX12_scanUnit_280 : decode cX12_scanUnit 280 = .ok (.return_, 1) := by decide +kernel
theorem dX12_scanPerfect_0 : decode cX12_scanPerfect 0 = .ok (.iload_n 2, 1) := by decide +kernel
theorem dX12_scanPerfect_1 : decode cX12_scanPerfect 1 = .ok (.iconst 1, 1) := by decide +kernel
theorem dX12_scanPerfect_2 : decode cX12_scanPerfect 2 = .ok (.iadd, 1) := by decide +kernel
theorem dX12_scanPerfect_3 : decode cX12_scanPerfect 3 = .ok (.istore 5, 2) := by decide +kernel
theorem dX12_scanPerfect_5 : decode cX12_scanPerfect 5 = .ok (.iload 5, 2) := by decide +kernel
theorem dX12_scanPerfect_7 : decode cX12_scanPerfect 7 = .ok (.iload_n 3, 1) := by decide +kernel
theorem dX12_scanPerfect_8 : decode cX12_scanPerfect 8 = .ok (.if_icmp .ge 91, 3) := by decide +kernel
theorem dX12_scanPerfect_11 : decode cX12_scanPerfect 11 = .ok (.aload_n 0, 1) := by decide +kernel
theorem dX12_scanPerfect_12 : decode cX12_scanPerfect 12 = .ok (.iconst 0, 1) := by decide +kernel
theorem dX12_scanPerfect_13 : decode cX12_scanPerfect 13 = .ok (.iload_n 1, 1) := by decide +kernel
theorem dX12_scanPerfect_14 : decode cX12_scanPerfect 14 = .ok (.iconst 1, 1) := by decide +kernel
theorem dX12_scanPerfect_15 : decode cX12_scanPerfect 15 = .ok (.iadd, 1) := by decide +kernel
theorem dX12_scanPerfect_16 : decode cX12_scanPerfect 16 = .ok (.iload_n 2, 1) := by decide +kernel
theorem dX12_scanPerfect_17 : decode cX12_scanPerfect 17 = .ok (.iload 5, 2) := by decide +kernel
theorem dX12_scanPerfect_19 : decode cX12_scanPerfect 19 = .ok (.invokevirtual 225, 3) := by decide +kernel
theorem dX12_scanPerfect_22 : decode cX12_scanPerfect 22 = .ok (.istore 6, 2) := by decide +kernel
theorem dX12_scanPerfect_24 : decode cX12_scanPerfect 24 = .ok (.iload 5, 2) := by decide +kernel
theorem dX12_scanPerfect_26 : decode cX12_scanPerfect 26 = .ok (.iconst 1, 1) := by decide +kernel
theorem dX12_scanPerfect_27 : decode cX12_scanPerfect 27 = .ok (.iadd, 1) := by decide +kernel
theorem dX12_scanPerfect_28 : decode cX12_scanPerfect 28 = .ok (.istore 7, 2) := by decide +kernel
theorem dX12_scanPerfect_30 : decode cX12_scanPerfect 30 = .ok (.iload 7, 2) := by decide +kernel
theorem dX12_scanPerfect_32 : decode cX12_scanPerfect 32 = .ok (.iload_n 3, 1) := by decide +kernel
theorem dX12_scanPerfect_33 : decode cX12_scanPerfect 33 = .ok (.if_icmp .ge 60, 3) := by decide +kernel
theorem dX12_scanPerfect_36 : decode cX12_scanPerfect 36 = .ok (.iload 6, 2) := by decide +kernel
theorem dX12_scanPerfect_38 : decode cX12_scanPerfect 38 = .ok (.ifCond .le 55, 3) := by decide +kernel
theorem dX12_scanPerfect_41 : decode cX12_scanPerfect 41 = .ok (.aload_n 0, 1) := by decide +kernel
theorem dX12_scanPerfect_42 : decode cX12_scanPerfect 42 = .ok (.bipush 6, 2) := by decide +kernel
theorem dX12_scanPerfect_44 : decode cX12_scanPerfect 44 = .ok (.iload 5, 2) := by decide +kernel
theorem dX12_scanPerfect_46 : decode cX12_scanPerfect 46 = .ok (.iload 7, 2) := by decide +kernel
theorem dX12_scanPerfect_48 : decode cX12_scanPerfect 48 = .ok (.iload 4, 2) := by decide +kernel
theorem dX12_scanPerfect_50 : decode cX12_scanPerfect 50 = .ok (.iload 6, 2) := by decide +kernel
theorem dX12_scanPerfect_52 : decode cX12_scanPerfect 52 = .ok (.i2l, 1) := by decide +kernel
theorem dX12_scanPerfect_53 : decode cX12_scanPerfect 53 = .ok (.aload_n 0, 1) := by decide +kernel
theorem dX12_scanPerfect_54 : decode cX12_scanPerfect 54 = .ok (.iconst 0, 1) := by decide +kernel
theorem dX12_scanPerfect_55 : decode cX12_scanPerfect 55 = .ok (.iload_n 1, 1) := by decide +kernel
theorem dX12_scanPerfect_56 : decode cX12_scanPerfect 56 = .ok (.iconst 1, 1) := by decide +kernel
theorem dX12_scanPerfect_57 : decode cX12_scanPerfect 57 = .ok (.iadd, 1) := by decide +kernel
theorem dX12_scanPerfect_58 : decode cX12_scanPerfect 58 = .ok (.iload 5, 2) := by decide +kernel
theorem dX12_scanPerfect_60 : decode cX12_scanPerfect 60 = .ok (.iload 7, 2) := by decide +kernel
theorem dX12_scanPerfect_62 : decode cX12_scanPerfect 62 = .ok (.invokevirtual 225, 3) := by decide +kernel
theorem dX12_scanPerfect_65 : decode cX12_scanPerfect 65 = .ok (.i2l, 1) := by decide +kernel
theorem dX12_scanPerfect_66 : decode cX12_scanPerfect 66 = .ok (.lmul, 1) := by decide +kernel
theorem dX12_scanPerfect_67 : decode cX12_scanPerfect 67 = .ok (.invokestatic 208, 3) := by decide +kernel
theorem dX12_scanPerfect_70 : decode cX12_scanPerfect 70 = .ok (.i2l, 1) := by decide +kernel
theorem dX12_scanPerfect_71 : decode cX12_scanPerfect 71 = .ok (.aload_n 0, 1) := by decide +kernel
theorem dX12_scanPerfect_72 : decode cX12_scanPerfect 72 = .ok (.iconst 0, 1) := by decide +kernel
theorem dX12_scanPerfect_73 : decode cX12_scanPerfect 73 = .ok (.iload_n 1, 1) := by decide +kernel
theorem dX12_scanPerfect_74 : decode cX12_scanPerfect 74 = .ok (.iconst 1, 1) := by decide +kernel
theorem dX12_scanPerfect_75 : decode cX12_scanPerfect 75 = .ok (.iadd, 1) := by decide +kernel
theorem dX12_scanPerfect_76 : decode cX12_scanPerfect 76 = .ok (.iload 7, 2) := by decide +kernel
theorem dX12_scanPerfect_78 : decode cX12_scanPerfect 78 = .ok (.iload_n 3, 1) := by decide +kernel
theorem dX12_scanPerfect_79 : decode cX12_scanPerfect 79 = .ok (.invokevirtual 225, 3) := by decide +kernel
theorem dX12_scanPerfect_82 : decode cX12_scanPerfect 82 = .ok (.i2l, 1) := by decide +kernel
theorem dX12_scanPerfect_83 : decode cX12_scanPerfect 83 = .ok (.lmul, 1) := by decide +kernel
theorem dX12_scanPerfect_84 : decode cX12_scanPerfect 84 = .ok (.invokevirtual 215, 3) := by decide +kernel
theorem dX12_scanPerfect_87 : decode cX12_scanPerfect 87 = .ok (.iinc 7 1, 3) := by decide +kernel
theorem dX12_scanPerfect_90 : decode cX12_scanPerfect 90 = .ok (.goto (-60), 3) := by decide +kernel
theorem dX12_scanPerfect_93 : decode cX12_scanPerfect 93 = .ok (.iinc 5 1, 3) := by decide +kernel
theorem dX12_scanPerfect_96 : decode cX12_scanPerfect 96 = .ok (.goto (-91), 3) := by decide +kernel
theorem dX12_scanPerfect_99 : decode cX12_scanPerfect 99 = .ok (.aload_n 0, 1) := by decide +kernel
theorem dX12_scanPerfect_100 : decode cX12_scanPerfect 100 = .ok (.iload_n 2, 1) := by decide +kernel
theorem dX12_scanPerfect_101 : decode cX12_scanPerfect 101 = .ok (.iload_n 1, 1) := by decide +kernel
theorem dX12_scanPerfect_102 : decode cX12_scanPerfect 102 = .ok (.invokevirtual 212, 3) := by decide +kernel
theorem dX12_scanPerfect_105 : decode cX12_scanPerfect 105 = .ok (.ifCond .eq 28, 3) := by decide +kernel
theorem dX12_scanPerfect_108 : decode cX12_scanPerfect 108 = .ok (.aload_n 0, 1) := by decide +kernel
theorem dX12_scanPerfect_109 : decode cX12_scanPerfect 109 = .ok (.bipush 7, 2) := by decide +kernel
theorem dX12_scanPerfect_111 : decode cX12_scanPerfect 111 = .ok (.iload_n 2, 1) := by decide +kernel
theorem dX12_scanPerfect_112 : decode cX12_scanPerfect 112 = .ok (.iconst 1, 1) := by decide +kernel
theorem dX12_scanPerfect_113 : decode cX12_scanPerfect 113 = .ok (.iadd, 1) := by decide +kernel
theorem dX12_scanPerfect_114 : decode cX12_scanPerfect 114 = .ok (.iconst 0, 1) := by decide +kernel
theorem dX12_scanPerfect_115 : decode cX12_scanPerfect 115 = .ok (.iload 4, 2) := by decide +kernel
theorem dX12_scanPerfect_117 : decode cX12_scanPerfect 117 = .ok (.aload_n 0, 1) := by decide +kernel
theorem dX12_scanPerfect_118 : decode cX12_scanPerfect 118 = .ok (.iconst 0, 1) := by decide +kernel
theorem dX12_scanPerfect_119 : decode cX12_scanPerfect 119 = .ok (.iload_n 1, 1) := by decide +kernel
theorem dX12_scanPerfect_120 : decode cX12_scanPerfect 120 = .ok (.iconst 1, 1) := by decide +kernel
theorem dX12_scanPerfect_121 : decode cX12_scanPerfect 121 = .ok (.iadd, 1) := by decide +kernel
theorem dX12_scanPerfect_122 : decode cX12_scanPerfect 122 = .ok (.iload_n 2, 1) := by decide +kernel
theorem dX12_scanPerfect_123 : decode cX12_scanPerfect 123 = .ok (.iconst 1, 1) := by decide +kernel
theorem dX12_scanPerfect_124 : decode cX12_scanPerfect 124 = .ok (.iadd, 1) := by decide +kernel
theorem dX12_scanPerfect_125 : decode cX12_scanPerfect 125 = .ok (.iload_n 3, 1) := by decide +kernel
theorem dX12_scanPerfect_126 : decode cX12_scanPerfect 126 = .ok (.invokevirtual 225, 3) := by decide +kernel
theorem dX12_scanPerfect_129 : decode cX12_scanPerfect 129 = .ok (.i2l, 1) := by decide +kernel
theorem dX12_scanPerfect_130 : decode cX12_scanPerfect 130 = .ok (.invokevirtual 215, 3) := by decide +kernel
theorem dX12_scanPerfect_133 : decode cX12_scanPerfect 133 = .ok (.iload_n 3, 1) := by decide +kernel
theorem dX12_scanPerfect_134 : decode cX12_scanPerfect 134 = .ok (.iconst 1, 1) := by decide +kernel
theorem dX12_scanPerfect_135 : decode cX12_scanPerfect 135 = .ok (.isub, 1) := by decide +kernel
theorem dX12_scanPerfect_136 : decode cX12_scanPerfect 136 = .ok (.istore 5, 2) := by decide +kernel
theorem dX12_scanPerfect_138 : decode cX12_scanPerfect 138 = .ok (.aload_n 0, 1) := by decide +kernel
theorem dX12_scanPerfect_139 : decode cX12_scanPerfect 139 = .ok (.iload 5, 2) := by decide +kernel
theorem dX12_scanPerfect_141 : decode cX12_scanPerfect 141 = .ok (.invokevirtual 233, 3) := by decide +kernel
theorem dX12_scanPerfect_144 : decode cX12_scanPerfect 144 = .ok (.istore 6, 2) := by decide +kernel
theorem dX12_scanPerfect_146 : decode cX12_scanPerfect 146 = .ok (.iload 5, 2) := by decide +kernel
theorem dX12_scanPerfect_148 : decode cX12_scanPerfect 148 = .ok (.iload_n 2, 1) := by decide +kernel
theorem dX12_scanPerfect_149 : decode cX12_scanPerfect 149 = .ok (.if_icmp .le 49, 3) := by decide +kernel
theorem dX12_scanPerfect_152 : decode cX12_scanPerfect 152 = .ok (.aload_n 0, 1) := by decide +kernel
theorem dX12_scanPerfect_153 : decode cX12_scanPerfect 153 = .ok (.iload 5, 2) := by decide +kernel
theorem dX12_scanPerfect_155 : decode cX12_scanPerfect 155 = .ok (.iload_n 1, 1) := by decide +kernel
theorem dX12_scanPerfect_156 : decode cX12_scanPerfect 156 = .ok (.iconst 1, 1) := by decide +kernel
theorem dX12_scanPerfect_157 : decode cX12_scanPerfect 157 = .ok (.iadd, 1) := by decide +kernel
theorem dX12_scanPerfect_158 : decode cX12_scanPerfect 158 = .ok (.invokevirtual 212, 3) := by decide +kernel
theorem dX12_scanPerfect_161 : decode cX12_scanPerfect 161 = .ok (.ifCond .eq 37, 3) := by decide +kernel
theorem dX12_scanPerfect_164 : decode cX12_scanPerfect 164 = .ok (.iload 6, 2) := by decide +kernel
theorem dX12_scanPerfect_166 : decode cX12_scanPerfect 166 = .ok (.ifCond .lt 32, 3) := by decide +kernel
theorem dX12_scanPerfect_169 : decode cX12_scanPerfect 169 = .ok (.iload 6, 2) := by decide +kernel
theorem dX12_scanPerfect_171 : decode cX12_scanPerfect 171 = .ok (.iload_n 1, 1) := by decide +kernel
theorem dX12_scanPerfect_172 : decode cX12_scanPerfect 172 = .ok (.if_icmp .gt 26, 3) := by decide +kernel
theorem dX12_scanPerfect_175 : decode cX12_scanPerfect 175 = .ok (.aload_n 0, 1) := by decide +kernel
theorem dX12_scanPerfect_176 : decode cX12_scanPerfect 176 = .ok (.bipush 8, 2) := by decide +kernel
theorem dX12_scanPerfect_178 : decode cX12_scanPerfect 178 = .ok (.iload 5, 2) := by decide +kernel
theorem dX12_scanPerfect_180 : decode cX12_scanPerfect 180 = .ok (.iconst 0, 1) := by decide +kernel
theorem dX12_scanPerfect_181 : decode cX12_scanPerfect 181 = .ok (.iload 4, 2) := by decide +kernel
theorem dX12_scanPerfect_183 : decode cX12_scanPerfect 183 = .ok (.aload_n 0, 1) := by decide +kernel
theorem dX12_scanPerfect_184 : decode cX12_scanPerfect 184 = .ok (.iconst 0, 1) := by decide +kernel
theorem dX12_scanPerfect_185 : decode cX12_scanPerfect 185 = .ok (.iload_n 1, 1) := by decide +kernel
theorem dX12_scanPerfect_186 : decode cX12_scanPerfect 186 = .ok (.iconst 1, 1) := by decide +kernel
theorem dX12_scanPerfect_187 : decode cX12_scanPerfect 187 = .ok (.iadd, 1) := by decide +kernel
theorem dX12_scanPerfect_188 : decode cX12_scanPerfect 188 = .ok (.iload_n 2, 1) := by decide +kernel
theorem dX12_scanPerfect_189 : decode cX12_scanPerfect 189 = .ok (.iload 5, 2) := by decide +kernel
theorem dX12_scanPerfect_191 : decode cX12_scanPerfect 191 = .ok (.invokevirtual 225, 3) := by decide +kernel
theorem dX12_scanPerfect_194 : decode cX12_scanPerfect 194 = .ok (.i2l, 1) := by decide +kernel
theorem dX12_scanPerfect_195 : decode cX12_scanPerfect 195 = .ok (.invokevirtual 215, 3) := by decide +kernel
theorem dX12_scanPerfect_198 : decode cX12_scanPerfect 198 = .ok (.iload 5, 2) := by decide +kernel
theorem dX12_scanPerfect_200 : decode cX12_scanPerfect 200 = .ok (.iload_n 2, 1) := by decide +kernel
theorem dX12_scanPerfect_201 : decode cX12_scanPerfect 201 = .ok (.if_icmp .le 42, 3) := by decide +kernel
theorem dX12_scanPerfect_204 : decode cX12_scanPerfect 204 = .ok (.aload_n 0, 1) := by decide +kernel
theorem dX12_scanPerfect_205 : decode cX12_scanPerfect 205 = .ok (.iload 5, 2) := by decide +kernel
theorem dX12_scanPerfect_207 : decode cX12_scanPerfect 207 = .ok (.iload_n 1, 1) := by decide +kernel
theorem dX12_scanPerfect_208 : decode cX12_scanPerfect 208 = .ok (.invokevirtual 212, 3) := by decide +kernel
theorem dX12_scanPerfect_211 : decode cX12_scanPerfect 211 = .ok (.ifCond .eq 32, 3) := by decide +kernel
theorem dX12_scanPerfect_214 : decode cX12_scanPerfect 214 = .ok (.iload 6, 2) := by decide +kernel
theorem dX12_scanPerfect_216 : decode cX12_scanPerfect 216 = .ok (.iload_n 1, 1) := by decide +kernel
theorem dX12_scanPerfect_217 : decode cX12_scanPerfect 217 = .ok (.if_icmp .eq 26, 3) := by decide +kernel
theorem dX12_scanPerfect_220 : decode cX12_scanPerfect 220 = .ok (.aload_n 0, 1) := by decide +kernel
theorem dX12_scanPerfect_221 : decode cX12_scanPerfect 221 = .ok (.bipush 9, 2) := by decide +kernel
theorem dX12_scanPerfect_223 : decode cX12_scanPerfect 223 = .ok (.iload 5, 2) := by decide +kernel
theorem dX12_scanPerfect_225 : decode cX12_scanPerfect 225 = .ok (.iconst 0, 1) := by decide +kernel
theorem dX12_scanPerfect_226 : decode cX12_scanPerfect 226 = .ok (.iload 4, 2) := by decide +kernel
theorem dX12_scanPerfect_228 : decode cX12_scanPerfect 228 = .ok (.aload_n 0, 1) := by decide +kernel
theorem dX12_scanPerfect_229 : decode cX12_scanPerfect 229 = .ok (.iconst 0, 1) := by decide +kernel
theorem dX12_scanPerfect_230 : decode cX12_scanPerfect 230 = .ok (.iload_n 1, 1) := by decide +kernel
theorem dX12_scanPerfect_231 : decode cX12_scanPerfect 231 = .ok (.iconst 1, 1) := by decide +kernel
theorem dX12_scanPerfect_232 : decode cX12_scanPerfect 232 = .ok (.iadd, 1) := by decide +kernel
theorem dX12_scanPerfect_233 : decode cX12_scanPerfect 233 = .ok (.iload_n 2, 1) := by decide +kernel
theorem dX12_scanPerfect_234 : decode cX12_scanPerfect 234 = .ok (.iload 5, 2) := by decide +kernel
theorem dX12_scanPerfect_236 : decode cX12_scanPerfect 236 = .ok (.invokevirtual 225, 3) := by decide +kernel
theorem dX12_scanPerfect_239 : decode cX12_scanPerfect 239 = .ok (.i2l, 1) := by decide +kernel
theorem dX12_scanPerfect_240 : decode cX12_scanPerfect 240 = .ok (.invokevirtual 215, 3) := by decide +kernel
theorem dX12_scanPerfect_243 : decode cX12_scanPerfect 243 = .ok (.iload_n 2, 1) := by decide +kernel
theorem dX12_scanPerfect_244 : decode cX12_scanPerfect 244 = .ok (.iconst 1, 1) := by decide +kernel
theorem dX12_scanPerfect_245 : decode cX12_scanPerfect 245 = .ok (.iadd, 1) := by decide +kernel
theorem dX12_scanPerfect_246 : decode cX12_scanPerfect 246 = .ok (.istore 7, 2) := by decide +kernel
theorem dX12_scanPerfect_248 : decode cX12_scanPerfect 248 = .ok (.iload 7, 2) := by decide +kernel
theorem dX12_scanPerfect_250 : decode cX12_scanPerfect 250 = .ok (.iload_n 3, 1) := by decide +kernel
theorem dX12_scanPerfect_251 : decode cX12_scanPerfect 251 = .ok (.if_icmp .ge 45, 3) := by decide +kernel
theorem dX12_scanPerfect_254 : decode cX12_scanPerfect 254 = .ok (.aload_n 0, 1) := by decide +kernel
theorem dX12_scanPerfect_255 : decode cX12_scanPerfect 255 = .ok (.bipush 10, 2) := by decide +kernel
theorem dX12_scanPerfect_257 : decode cX12_scanPerfect 257 = .ok (.iload 7, 2) := by decide +kernel
theorem dX12_scanPerfect_259 : decode cX12_scanPerfect 259 = .ok (.iconst 0, 1) := by decide +kernel
theorem dX12_scanPerfect_260 : decode cX12_scanPerfect 260 = .ok (.iload 4, 2) := by decide +kernel
theorem dX12_scanPerfect_262 : decode cX12_scanPerfect 262 = .ok (.aload_n 0, 1) := by decide +kernel
theorem dX12_scanPerfect_263 : decode cX12_scanPerfect 263 = .ok (.iconst 0, 1) := by decide +kernel
theorem dX12_scanPerfect_264 : decode cX12_scanPerfect 264 = .ok (.iload_n 1, 1) := by decide +kernel
theorem dX12_scanPerfect_265 : decode cX12_scanPerfect 265 = .ok (.iconst 1, 1) := by decide +kernel
theorem dX12_scanPerfect_266 : decode cX12_scanPerfect 266 = .ok (.iadd, 1) := by decide +kernel
theorem dX12_scanPerfect_267 : decode cX12_scanPerfect 267 = .ok (.iload_n 2, 1) := by decide +kernel
theorem dX12_scanPerfect_268 : decode cX12_scanPerfect 268 = .ok (.iload 7, 2) := by decide +kernel
theorem dX12_scanPerfect_270 : decode cX12_scanPerfect 270 = .ok (.invokevirtual 225, 3) := by decide +kernel
theorem dX12_scanPerfect_273 : decode cX12_scanPerfect 273 = .ok (.i2l, 1) := by decide +kernel
theorem dX12_scanPerfect_274 : decode cX12_scanPerfect 274 = .ok (.aload_n 0, 1) := by decide +kernel
theorem dX12_scanPerfect_275 : decode cX12_scanPerfect 275 = .ok (.iconst 1, 1) := by decide +kernel
theorem dX12_scanPerfect_276 : decode cX12_scanPerfect 276 = .ok (.iload_n 1, 1) := by decide +kernel
theorem dX12_scanPerfect_277 : decode cX12_scanPerfect 277 = .ok (.iconst 1, 1) := by decide +kernel
theorem dX12_scanPerfect_278 : decode cX12_scanPerfect 278 = .ok (.iadd, 1) := by decide +kernel
theorem dX12_scanPerfect_279 : decode cX12_scanPerfect 279 = .ok (.iload 7, 2) := by decide +kernel
theorem dX12_scanPerfect_281 : decode cX12_scanPerfect 281 = .ok (.iload_n 3, 1) := by decide +kernel
theorem dX12_scanPerfect_282 : decode cX12_scanPerfect 282 = .ok (.invokevirtual 225, 3) := by decide +kernel
theorem dX12_scanPerfect_285 : decode cX12_scanPerfect 285 = .ok (.i2l, 1) := by decide +kernel
theorem dX12_scanPerfect_286 : decode cX12_scanPerfect 286 = .ok (.lmul, 1) := by decide +kernel
theorem dX12_scanPerfect_287 : decode cX12_scanPerfect 287 = .ok (.invokevirtual 215, 3) := by decide +kernel
theorem dX12_scanPerfect_290 : decode cX12_scanPerfect 290 = .ok (.iinc 7 1, 3) := by decide +kernel
theorem dX12_scanPerfect_293 : decode cX12_scanPerfect 293 = .ok (.goto (-45), 3) := by decide +kernel
theorem dX12_scanPerfect_296 : decode cX12_scanPerfect 296 = .ok (.iload_n 2, 1) := by decide +kernel
theorem dX12_scanPerfect_297 : decode cX12_scanPerfect 297 = .ok (.iconst 1, 1) := by decide +kernel
theorem dX12_scanPerfect_298 : decode cX12_scanPerfect 298 = .ok (.iadd, 1) := by decide +kernel
theorem dX12_scanPerfect_299 : decode cX12_scanPerfect 299 = .ok (.istore 7, 2) := by decide +kernel
theorem dX12_scanPerfect_301 : decode cX12_scanPerfect 301 = .ok (.iload 7, 2) := by decide +kernel
theorem dX12_scanPerfect_303 : decode cX12_scanPerfect 303 = .ok (.iload_n 3, 1) := by decide +kernel
theorem dX12_scanPerfect_304 : decode cX12_scanPerfect 304 = .ok (.if_icmp .ge 45, 3) := by decide +kernel
theorem dX12_scanPerfect_307 : decode cX12_scanPerfect 307 = .ok (.aload_n 0, 1) := by decide +kernel
theorem dX12_scanPerfect_308 : decode cX12_scanPerfect 308 = .ok (.bipush 11, 2) := by decide +kernel
theorem dX12_scanPerfect_310 : decode cX12_scanPerfect 310 = .ok (.iload 7, 2) := by decide +kernel
theorem dX12_scanPerfect_312 : decode cX12_scanPerfect 312 = .ok (.iconst 0, 1) := by decide +kernel
theorem dX12_scanPerfect_313 : decode cX12_scanPerfect 313 = .ok (.iload 4, 2) := by decide +kernel
theorem dX12_scanPerfect_315 : decode cX12_scanPerfect 315 = .ok (.aload_n 0, 1) := by decide +kernel
theorem dX12_scanPerfect_316 : decode cX12_scanPerfect 316 = .ok (.iconst 1, 1) := by decide +kernel
theorem dX12_scanPerfect_317 : decode cX12_scanPerfect 317 = .ok (.iload_n 1, 1) := by decide +kernel
theorem dX12_scanPerfect_318 : decode cX12_scanPerfect 318 = .ok (.iconst 1, 1) := by decide +kernel
theorem dX12_scanPerfect_319 : decode cX12_scanPerfect 319 = .ok (.iadd, 1) := by decide +kernel
theorem dX12_scanPerfect_320 : decode cX12_scanPerfect 320 = .ok (.iload_n 2, 1) := by decide +kernel
theorem dX12_scanPerfect_321 : decode cX12_scanPerfect 321 = .ok (.iload 7, 2) := by decide +kernel
theorem dX12_scanPerfect_323 : decode cX12_scanPerfect 323 = .ok (.invokevirtual 225, 3) := by decide +kernel
theorem dX12_scanPerfect_326 : decode cX12_scanPerfect 326 = .ok (.i2l, 1) := by decide +kernel
theorem dX12_scanPerfect_327 : decode cX12_scanPerfect 327 = .ok (.aload_n 0, 1) := by decide +kernel
theorem dX12_scanPerfect_328 : decode cX12_scanPerfect 328 = .ok (.iconst 0, 1) := by decide +kernel
theorem dX12_scanPerfect_329 : decode cX12_scanPerfect 329 = .ok (.iload_n 1, 1) := by decide +kernel
theorem dX12_scanPerfect_330 : decode cX12_scanPerfect 330 = .ok (.iconst 1, 1) := by decide +kernel
theorem dX12_scanPerfect_331 : decode cX12_scanPerfect 331 = .ok (.iadd, 1) := by decide +kernel
theorem dX12_scanPerfect_332 : decode cX12_scanPerfect 332 = .ok (.iload 7, 2) := by decide +kernel
theorem dX12_scanPerfect_334 : decode cX12_scanPerfect 334 = .ok (.iload_n 3, 1) := by decide +kernel
theorem dX12_scanPerfect_335 : decode cX12_scanPerfect 335 = .ok (.invokevirtual 225, 3) := by decide +kernel
theorem dX12_scanPerfect_338 : decode cX12_scanPerfect 338 = .ok (.i2l, 1) := by decide +kernel
theorem dX12_scanPerfect_339 : decode cX12_scanPerfect 339 = .ok (.lmul, 1) := by decide +kernel
theorem dX12_scanPerfect_340 : decode cX12_scanPerfect 340 = .ok (.invokevirtual 215, 3) := by decide +kernel
theorem dX12_scanPerfect_343 : decode cX12_scanPerfect 343 = .ok (.iinc 7 1, 3) := by decide +kernel
theorem dX12_scanPerfect_346 : decode cX12_scanPerfect 346 = .ok (.goto (-45), 3) := by decide +kernel
theorem dX12_scanPerfect_349 : decode cX12_scanPerfect 349 = .ok (.return_, 1) := by decide +kernel
theorem dX12_thirdWays_0 : decode cX12_thirdWays 0 = .ok (.iload_n 3, 1) := by decide +kernel
theorem dX12_thirdWays_1 : decode cX12_thirdWays 1 = .ok (.iload_n 2, 1) := by decide +kernel
theorem dX12_thirdWays_2 : decode cX12_thirdWays 2 = .ok (.iconst 1, 1) := by decide +kernel
theorem dX12_thirdWays_3 : decode cX12_thirdWays 3 = .ok (.iadd, 1) := by decide +kernel
theorem dX12_thirdWays_4 : decode cX12_thirdWays 4 = .ok (.if_icmp .ne 18, 3) := by decide +kernel
theorem dX12_thirdWays_7 : decode cX12_thirdWays 7 = .ok (.aload_n 0, 1) := by decide +kernel
theorem dX12_thirdWays_8 : decode cX12_thirdWays 8 = .ok (.iload_n 2, 1) := by decide +kernel
theorem dX12_thirdWays_9 : decode cX12_thirdWays 9 = .ok (.iload_n 1, 1) := by decide +kernel
theorem dX12_thirdWays_10 : decode cX12_thirdWays 10 = .ok (.invokevirtual 236, 3) := by decide +kernel
theorem dX12_thirdWays_13 : decode cX12_thirdWays 13 = .ok (.ifCond .eq 7, 3) := by decide +kernel
theorem dX12_thirdWays_16 : decode cX12_thirdWays 16 = .ok (.iconst 1, 1) := by decide +kernel
theorem dX12_thirdWays_17 : decode cX12_thirdWays 17 = .ok (.goto 4, 3) := by decide +kernel
theorem dX12_thirdWays_20 : decode cX12_thirdWays 20 = .ok (.iconst 0, 1) := by decide +kernel
theorem dX12_thirdWays_21 : decode cX12_thirdWays 21 = .ok (.ireturn, 1) := by decide +kernel
theorem dX12_thirdWays_22 : decode cX12_thirdWays 22 = .ok (.iload_n 3, 1) := by decide +kernel
theorem dX12_thirdWays_23 : decode cX12_thirdWays 23 = .ok (.iload_n 2, 1) := by decide +kernel
theorem dX12_thirdWays_24 : decode cX12_thirdWays 24 = .ok (.iconst 2, 1) := by decide +kernel
theorem dX12_thirdWays_25 : decode cX12_thirdWays 25 = .ok (.iadd, 1) := by decide +kernel
theorem dX12_thirdWays_26 : decode cX12_thirdWays 26 = .ok (.if_icmp .ne 37, 3) := by decide +kernel
theorem dX12_thirdWays_29 : decode cX12_thirdWays 29 = .ok (.iload_n 1, 1) := by decide +kernel
theorem dX12_thirdWays_30 : decode cX12_thirdWays 30 = .ok (.bipush 6, 2) := by decide +kernel
theorem dX12_thirdWays_32 : decode cX12_thirdWays 32 = .ok (.if_icmp .ge 31, 3) := by decide +kernel
theorem dX12_thirdWays_35 : decode cX12_thirdWays 35 = .ok (.aload_n 0, 1) := by decide +kernel
theorem dX12_thirdWays_36 : decode cX12_thirdWays 36 = .ok (.iload_n 2, 1) := by decide +kernel
theorem dX12_thirdWays_37 : decode cX12_thirdWays 37 = .ok (.iload_n 1, 1) := by decide +kernel
theorem dX12_thirdWays_38 : decode cX12_thirdWays 38 = .ok (.iconst 1, 1) := by decide +kernel
theorem dX12_thirdWays_39 : decode cX12_thirdWays 39 = .ok (.iadd, 1) := by decide +kernel
theorem dX12_thirdWays_40 : decode cX12_thirdWays 40 = .ok (.invokevirtual 236, 3) := by decide +kernel
theorem dX12_thirdWays_43 : decode cX12_thirdWays 43 = .ok (.ifCond .eq 20, 3) := by decide +kernel
theorem dX12_thirdWays_46 : decode cX12_thirdWays 46 = .ok (.aload_n 0, 1) := by decide +kernel
theorem dX12_thirdWays_47 : decode cX12_thirdWays 47 = .ok (.iload_n 2, 1) := by decide +kernel
theorem dX12_thirdWays_48 : decode cX12_thirdWays 48 = .ok (.iconst 1, 1) := by decide +kernel
theorem dX12_thirdWays_49 : decode cX12_thirdWays 49 = .ok (.iadd, 1) := by decide +kernel
theorem dX12_thirdWays_50 : decode cX12_thirdWays 50 = .ok (.iload_n 1, 1) := by decide +kernel
theorem dX12_thirdWays_51 : decode cX12_thirdWays 51 = .ok (.iconst 1, 1) := by decide +kernel
theorem dX12_thirdWays_52 : decode cX12_thirdWays 52 = .ok (.iadd, 1) := by decide +kernel
theorem dX12_thirdWays_53 : decode cX12_thirdWays 53 = .ok (.invokevirtual 236, 3) := by decide +kernel
theorem dX12_thirdWays_56 : decode cX12_thirdWays 56 = .ok (.ifCond .eq 7, 3) := by decide +kernel
theorem dX12_thirdWays_59 : decode cX12_thirdWays 59 = .ok (.iconst 1, 1) := by decide +kernel
theorem dX12_thirdWays_60 : decode cX12_thirdWays 60 = .ok (.goto 4, 3) := by decide +kernel
theorem dX12_thirdWays_63 : decode cX12_thirdWays 63 = .ok (.iconst 0, 1) := by decide +kernel
theorem dX12_thirdWays_64 : decode cX12_thirdWays 64 = .ok (.ireturn, 1) := by decide +kernel
theorem dX12_scanPair_0 : decode cX12_scanPair 0 = .ok (.aload_n 0, 1) := by decide +kernel
theorem dX12_scanPair_1 : decode cX12_scanPair 1 = .ok (.getfield 222, 3) := by decide +kernel
theorem dX12_scanPair_4 : decode cX12_scanPair 4 = .ok (.iload_n 1, 1) := by decide +kernel
theorem dX12_scanPair_5 : decode cX12_scanPair 5 = .ok (.invokestatic 161, 3) := by decide +kernel
theorem dX12_scanPair_8 : decode cX12_scanPair 8 = .ok (.ifCond .ne 104, 3) := by decide +kernel
theorem dX12_scanPair_11 : decode cX12_scanPair 11 = .ok (.iload_n 1, 1) := by decide +kernel
theorem dX12_scanPair_12 : decode cX12_scanPair 12 = .ok (.bipush 6, 2) := by decide +kernel
theorem dX12_scanPair_14 : decode cX12_scanPair 14 = .ok (.if_icmp .ge 98, 3) := by decide +kernel
theorem dX12_scanPair_17 : decode cX12_scanPair 17 = .ok (.aload_n 0, 1) := by decide +kernel
theorem dX12_scanPair_18 : decode cX12_scanPair 18 = .ok (.iload_n 2, 1) := by decide +kernel
theorem dX12_scanPair_19 : decode cX12_scanPair 19 = .ok (.iload_n 1, 1) := by decide +kernel
theorem dX12_scanPair_20 : decode cX12_scanPair 20 = .ok (.invokevirtual 212, 3) := by decide +kernel
theorem dX12_scanPair_23 : decode cX12_scanPair 23 = .ok (.ifCond .eq 37, 3) := by decide +kernel
theorem dX12_scanPair_26 : decode cX12_scanPair 26 = .ok (.aload_n 0, 1) := by decide +kernel
theorem dX12_scanPair_27 : decode cX12_scanPair 27 = .ok (.iload_n 2, 1) := by decide +kernel
theorem dX12_scanPair_28 : decode cX12_scanPair 28 = .ok (.iconst 1, 1) := by decide +kernel
theorem dX12_scanPair_29 : decode cX12_scanPair 29 = .ok (.iadd, 1) := by decide +kernel
theorem dX12_scanPair_30 : decode cX12_scanPair 30 = .ok (.invokevirtual 178, 3) := by decide +kernel
theorem dX12_scanPair_33 : decode cX12_scanPair 33 = .ok (.ifCond .eq 27, 3) := by decide +kernel
theorem dX12_scanPair_36 : decode cX12_scanPair 36 = .ok (.aload_n 0, 1) := by decide +kernel
theorem dX12_scanPair_37 : decode cX12_scanPair 37 = .ok (.bipush 13, 2) := by decide +kernel
theorem dX12_scanPair_39 : decode cX12_scanPair 39 = .ok (.iload_n 2, 1) := by decide +kernel
theorem dX12_scanPair_40 : decode cX12_scanPair 40 = .ok (.iconst 2, 1) := by decide +kernel
theorem dX12_scanPair_41 : decode cX12_scanPair 41 = .ok (.iadd, 1) := by decide +kernel
theorem dX12_scanPair_42 : decode cX12_scanPair 42 = .ok (.iconst 0, 1) := by decide +kernel
theorem dX12_scanPair_43 : decode cX12_scanPair 43 = .ok (.iconst 0, 1) := by decide +kernel
theorem dX12_scanPair_44 : decode cX12_scanPair 44 = .ok (.aload_n 0, 1) := by decide +kernel
theorem dX12_scanPair_45 : decode cX12_scanPair 45 = .ok (.iconst 0, 1) := by decide +kernel
theorem dX12_scanPair_46 : decode cX12_scanPair 46 = .ok (.iload_n 1, 1) := by decide +kernel
theorem dX12_scanPair_47 : decode cX12_scanPair 47 = .ok (.iconst 1, 1) := by decide +kernel
theorem dX12_scanPair_48 : decode cX12_scanPair 48 = .ok (.iadd, 1) := by decide +kernel
theorem dX12_scanPair_49 : decode cX12_scanPair 49 = .ok (.iload_n 2, 1) := by decide +kernel
theorem dX12_scanPair_50 : decode cX12_scanPair 50 = .ok (.iconst 2, 1) := by decide +kernel
theorem dX12_scanPair_51 : decode cX12_scanPair 51 = .ok (.iadd, 1) := by decide +kernel
theorem dX12_scanPair_52 : decode cX12_scanPair 52 = .ok (.iload_n 3, 1) := by decide +kernel
theorem dX12_scanPair_53 : decode cX12_scanPair 53 = .ok (.invokevirtual 225, 3) := by decide +kernel
theorem dX12_scanPair_56 : decode cX12_scanPair 56 = .ok (.i2l, 1) := by decide +kernel
theorem dX12_scanPair_57 : decode cX12_scanPair 57 = .ok (.invokevirtual 215, 3) := by decide +kernel
theorem dX12_scanPair_60 : decode cX12_scanPair 60 = .ok (.iload_n 3, 1) := by decide +kernel
theorem dX12_scanPair_61 : decode cX12_scanPair 61 = .ok (.iconst 2, 1) := by decide +kernel
theorem dX12_scanPair_62 : decode cX12_scanPair 62 = .ok (.isub, 1) := by decide +kernel
theorem dX12_scanPair_63 : decode cX12_scanPair 63 = .ok (.iload_n 2, 1) := by decide +kernel
theorem dX12_scanPair_64 : decode cX12_scanPair 64 = .ok (.if_icmp .le 48, 3) := by decide +kernel
theorem dX12_scanPair_67 : decode cX12_scanPair 67 = .ok (.aload_n 0, 1) := by decide +kernel
theorem dX12_scanPair_68 : decode cX12_scanPair 68 = .ok (.iload_n 3, 1) := by decide +kernel
theorem dX12_scanPair_69 : decode cX12_scanPair 69 = .ok (.iconst 2, 1) := by decide +kernel
theorem dX12_scanPair_70 : decode cX12_scanPair 70 = .ok (.isub, 1) := by decide +kernel
theorem dX12_scanPair_71 : decode cX12_scanPair 71 = .ok (.iload_n 1, 1) := by decide +kernel
theorem dX12_scanPair_72 : decode cX12_scanPair 72 = .ok (.invokevirtual 212, 3) := by decide +kernel
theorem dX12_scanPair_75 : decode cX12_scanPair 75 = .ok (.ifCond .eq 37, 3) := by decide +kernel
theorem dX12_scanPair_78 : decode cX12_scanPair 78 = .ok (.aload_n 0, 1) := by decide +kernel
theorem dX12_scanPair_79 : decode cX12_scanPair 79 = .ok (.iload_n 3, 1) := by decide +kernel
theorem dX12_scanPair_80 : decode cX12_scanPair 80 = .ok (.iconst 1, 1) := by decide +kernel
theorem dX12_scanPair_81 : decode cX12_scanPair 81 = .ok (.isub, 1) := by decide +kernel
theorem dX12_scanPair_82 : decode cX12_scanPair 82 = .ok (.invokevirtual 178, 3) := by decide +kernel
theorem dX12_scanPair_85 : decode cX12_scanPair 85 = .ok (.ifCond .eq 27, 3) := by decide +kernel
theorem dX12_scanPair_88 : decode cX12_scanPair 88 = .ok (.aload_n 0, 1) := by decide +kernel
theorem dX12_scanPair_89 : decode cX12_scanPair 89 = .ok (.bipush 14, 2) := by decide +kernel
theorem dX12_scanPair_91 : decode cX12_scanPair 91 = .ok (.iload_n 3, 1) := by decide +kernel
theorem dX12_scanPair_92 : decode cX12_scanPair 92 = .ok (.iconst 2, 1) := by decide +kernel
theorem dX12_scanPair_93 : decode cX12_scanPair 93 = .ok (.isub, 1) := by decide +kernel
theorem dX12_scanPair_94 : decode cX12_scanPair 94 = .ok (.iconst 0, 1) := by decide +kernel
theorem dX12_scanPair_95 : decode cX12_scanPair 95 = .ok (.iconst 0, 1) := by decide +kernel
theorem dX12_scanPair_96 : decode cX12_scanPair 96 = .ok (.aload_n 0, 1) := by decide +kernel
theorem dX12_scanPair_97 : decode cX12_scanPair 97 = .ok (.iconst 0, 1) := by decide +kernel
theorem dX12_scanPair_98 : decode cX12_scanPair 98 = .ok (.iload_n 1, 1) := by decide +kernel
theorem dX12_scanPair_99 : decode cX12_scanPair 99 = .ok (.iconst 1, 1) := by decide +kernel
theorem dX12_scanPair_100 : decode cX12_scanPair 100 = .ok (.iadd, 1) := by decide +kernel
theorem dX12_scanPair_101 : decode cX12_scanPair 101 = .ok (.iload_n 2, 1) := by decide +kernel
theorem dX12_scanPair_102 : decode cX12_scanPair 102 = .ok (.iload_n 3, 1) := by decide +kernel
theorem dX12_scanPair_103 : decode cX12_scanPair 103 = .ok (.iconst 2, 1) := by decide +kernel
theorem dX12_scanPair_104 : decode cX12_scanPair 104 = .ok (.isub, 1) := by decide +kernel
theorem dX12_scanPair_105 : decode cX12_scanPair 105 = .ok (.invokevirtual 225, 3) := by decide +kernel
theorem dX12_scanPair_108 : decode cX12_scanPair 108 = .ok (.i2l, 1) := by decide +kernel
theorem dX12_scanPair_109 : decode cX12_scanPair 109 = .ok (.invokevirtual 215, 3) := by decide +kernel
theorem dX12_scanPair_112 : decode cX12_scanPair 112 = .ok (.aload_n 0, 1) := by decide +kernel
theorem dX12_scanPair_113 : decode cX12_scanPair 113 = .ok (.iload_n 1, 1) := by decide +kernel
theorem dX12_scanPair_114 : decode cX12_scanPair 114 = .ok (.iload_n 2, 1) := by decide +kernel
theorem dX12_scanPair_115 : decode cX12_scanPair 115 = .ok (.iload_n 3, 1) := by decide +kernel
theorem dX12_scanPair_116 : decode cX12_scanPair 116 = .ok (.invokevirtual 239, 3) := by decide +kernel
theorem dX12_scanPair_119 : decode cX12_scanPair 119 = .ok (.return_, 1) := by decide +kernel
theorem dX12_scanThirds_0 : decode cX12_scanThirds 0 = .ok (.iload_n 2, 1) := by decide +kernel
theorem dX12_scanThirds_1 : decode cX12_scanThirds 1 = .ok (.iconst 1, 1) := by decide +kernel
theorem dX12_scanThirds_2 : decode cX12_scanThirds 2 = .ok (.iadd, 1) := by decide +kernel
theorem dX12_scanThirds_3 : decode cX12_scanThirds 3 = .ok (.istore 4, 2) := by decide +kernel
theorem dX12_scanThirds_5 : decode cX12_scanThirds 5 = .ok (.iload 4, 2) := by decide +kernel
theorem dX12_scanThirds_7 : decode cX12_scanThirds 7 = .ok (.iload_n 3, 1) := by decide +kernel
theorem dX12_scanThirds_8 : decode cX12_scanThirds 8 = .ok (.if_icmp .ge 66, 3) := by decide +kernel
theorem dX12_scanThirds_11 : decode cX12_scanThirds 11 = .ok (.iload 4, 2) := by decide +kernel
theorem dX12_scanThirds_13 : decode cX12_scanThirds 13 = .ok (.iconst 1, 1) := by decide +kernel
theorem dX12_scanThirds_14 : decode cX12_scanThirds 14 = .ok (.iadd, 1) := by decide +kernel
theorem dX12_scanThirds_15 : decode cX12_scanThirds 15 = .ok (.istore 5, 2) := by decide +kernel
theorem dX12_scanThirds_17 : decode cX12_scanThirds 17 = .ok (.iload 5, 2) := by decide +kernel
theorem dX12_scanThirds_19 : decode cX12_scanThirds 19 = .ok (.iload_n 3, 1) := by decide +kernel
theorem dX12_scanThirds_20 : decode cX12_scanThirds 20 = .ok (.if_icmp .ge 48, 3) := by decide +kernel
theorem dX12_scanThirds_23 : decode cX12_scanThirds 23 = .ok (.aload_n 0, 1) := by decide +kernel
theorem dX12_scanThirds_24 : decode cX12_scanThirds 24 = .ok (.bipush 15, 2) := by decide +kernel
theorem dX12_scanThirds_26 : decode cX12_scanThirds 26 = .ok (.iload 4, 2) := by decide +kernel
theorem dX12_scanThirds_28 : decode cX12_scanThirds 28 = .ok (.iload 5, 2) := by decide +kernel
theorem dX12_scanThirds_30 : decode cX12_scanThirds 30 = .ok (.iconst 0, 1) := by decide +kernel
theorem dX12_scanThirds_31 : decode cX12_scanThirds 31 = .ok (.aload_n 0, 1) := by decide +kernel
theorem dX12_scanThirds_32 : decode cX12_scanThirds 32 = .ok (.iload_n 1, 1) := by decide +kernel
theorem dX12_scanThirds_33 : decode cX12_scanThirds 33 = .ok (.iload_n 2, 1) := by decide +kernel
theorem dX12_scanThirds_34 : decode cX12_scanThirds 34 = .ok (.iload 4, 2) := by decide +kernel
theorem dX12_scanThirds_36 : decode cX12_scanThirds 36 = .ok (.invokevirtual 243, 3) := by decide +kernel
theorem dX12_scanThirds_39 : decode cX12_scanThirds 39 = .ok (.aload_n 0, 1) := by decide +kernel
theorem dX12_scanThirds_40 : decode cX12_scanThirds 40 = .ok (.iload_n 1, 1) := by decide +kernel
theorem dX12_scanThirds_41 : decode cX12_scanThirds 41 = .ok (.iload 4, 2) := by decide +kernel
theorem dX12_scanThirds_43 : decode cX12_scanThirds 43 = .ok (.iload 5, 2) := by decide +kernel
theorem dX12_scanThirds_45 : decode cX12_scanThirds 45 = .ok (.invokevirtual 243, 3) := by decide +kernel
theorem dX12_scanThirds_48 : decode cX12_scanThirds 48 = .ok (.imul, 1) := by decide +kernel
theorem dX12_scanThirds_49 : decode cX12_scanThirds 49 = .ok (.aload_n 0, 1) := by decide +kernel
theorem dX12_scanThirds_50 : decode cX12_scanThirds 50 = .ok (.iload_n 1, 1) := by decide +kernel
theorem dX12_scanThirds_51 : decode cX12_scanThirds 51 = .ok (.iload 5, 2) := by decide +kernel
theorem dX12_scanThirds_53 : decode cX12_scanThirds 53 = .ok (.iload_n 3, 1) := by decide +kernel
theorem dX12_scanThirds_54 : decode cX12_scanThirds 54 = .ok (.invokevirtual 243, 3) := by decide +kernel
theorem dX12_scanThirds_57 : decode cX12_scanThirds 57 = .ok (.imul, 1) := by decide +kernel
theorem dX12_scanThirds_58 : decode cX12_scanThirds 58 = .ok (.i2l, 1) := by decide +kernel
theorem dX12_scanThirds_59 : decode cX12_scanThirds 59 = .ok (.invokevirtual 215, 3) := by decide +kernel
theorem dX12_scanThirds_62 : decode cX12_scanThirds 62 = .ok (.iinc 5 1, 3) := by decide +kernel
theorem dX12_scanThirds_65 : decode cX12_scanThirds 65 = .ok (.goto (-48), 3) := by decide +kernel
theorem dX12_scanThirds_68 : decode cX12_scanThirds 68 = .ok (.iinc 4 1, 3) := by decide +kernel
theorem dX12_scanThirds_71 : decode cX12_scanThirds 71 = .ok (.goto (-66), 3) := by decide +kernel
theorem dX12_scanThirds_74 : decode cX12_scanThirds 74 = .ok (.return_, 1) := by decide +kernel
theorem dX12_countThirds_0 : decode cX12_countThirds 0 = .ok (.iconst 0, 1) := by decide +kernel
theorem dX12_countThirds_1 : decode cX12_countThirds 1 = .ok (.istore 4, 2) := by decide +kernel
theorem dX12_countThirds_3 : decode cX12_countThirds 3 = .ok (.iload_n 2, 1) := by decide +kernel
theorem dX12_countThirds_4 : decode cX12_countThirds 4 = .ok (.iconst 1, 1) := by decide +kernel
theorem dX12_countThirds_5 : decode cX12_countThirds 5 = .ok (.iadd, 1) := by decide +kernel
theorem dX12_countThirds_6 : decode cX12_countThirds 6 = .ok (.istore 5, 2) := by decide +kernel
theorem dX12_countThirds_8 : decode cX12_countThirds 8 = .ok (.iload 5, 2) := by decide +kernel
theorem dX12_countThirds_10 : decode cX12_countThirds 10 = .ok (.iload_n 3, 1) := by decide +kernel
theorem dX12_countThirds_11 : decode cX12_countThirds 11 = .ok (.if_icmp .ge 59, 3) := by decide +kernel
theorem dX12_countThirds_14 : decode cX12_countThirds 14 = .ok (.iload 5, 2) := by decide +kernel
theorem dX12_countThirds_16 : decode cX12_countThirds 16 = .ok (.iconst 1, 1) := by decide +kernel
theorem dX12_countThirds_17 : decode cX12_countThirds 17 = .ok (.iadd, 1) := by decide +kernel
theorem dX12_countThirds_18 : decode cX12_countThirds 18 = .ok (.istore 6, 2) := by decide +kernel
theorem dX12_countThirds_20 : decode cX12_countThirds 20 = .ok (.iload 6, 2) := by decide +kernel
theorem dX12_countThirds_22 : decode cX12_countThirds 22 = .ok (.iload_n 3, 1) := by decide +kernel
theorem dX12_countThirds_23 : decode cX12_countThirds 23 = .ok (.if_icmp .ge 41, 3) := by decide +kernel
theorem dX12_countThirds_26 : decode cX12_countThirds 26 = .ok (.iload 4, 2) := by decide +kernel
theorem dX12_countThirds_28 : decode cX12_countThirds 28 = .ok (.aload_n 0, 1) := by decide +kernel
theorem dX12_countThirds_29 : decode cX12_countThirds 29 = .ok (.iload_n 1, 1) := by decide +kernel
theorem dX12_countThirds_30 : decode cX12_countThirds 30 = .ok (.iload_n 2, 1) := by decide +kernel
theorem dX12_countThirds_31 : decode cX12_countThirds 31 = .ok (.iload 5, 2) := by decide +kernel
theorem dX12_countThirds_33 : decode cX12_countThirds 33 = .ok (.invokevirtual 243, 3) := by decide +kernel
theorem dX12_countThirds_36 : decode cX12_countThirds 36 = .ok (.aload_n 0, 1) := by decide +kernel
theorem dX12_countThirds_37 : decode cX12_countThirds 37 = .ok (.iload_n 1, 1) := by decide +kernel
theorem dX12_countThirds_38 : decode cX12_countThirds 38 = .ok (.iload 5, 2) := by decide +kernel
theorem dX12_countThirds_40 : decode cX12_countThirds 40 = .ok (.iload 6, 2) := by decide +kernel
theorem dX12_countThirds_42 : decode cX12_countThirds 42 = .ok (.invokevirtual 243, 3) := by decide +kernel
theorem dX12_countThirds_45 : decode cX12_countThirds 45 = .ok (.imul, 1) := by decide +kernel
theorem dX12_countThirds_46 : decode cX12_countThirds 46 = .ok (.aload_n 0, 1) := by decide +kernel
theorem dX12_countThirds_47 : decode cX12_countThirds 47 = .ok (.iload_n 1, 1) := by decide +kernel
theorem dX12_countThirds_48 : decode cX12_countThirds 48 = .ok (.iload 6, 2) := by decide +kernel
theorem dX12_countThirds_50 : decode cX12_countThirds 50 = .ok (.iload_n 3, 1) := by decide +kernel
theorem dX12_countThirds_51 : decode cX12_countThirds 51 = .ok (.invokevirtual 243, 3) := by decide +kernel
theorem dX12_countThirds_54 : decode cX12_countThirds 54 = .ok (.imul, 1) := by decide +kernel
theorem dX12_countThirds_55 : decode cX12_countThirds 55 = .ok (.iadd, 1) := by decide +kernel
theorem dX12_countThirds_56 : decode cX12_countThirds 56 = .ok (.istore 4, 2) := by decide +kernel
theorem dX12_countThirds_58 : decode cX12_countThirds 58 = .ok (.iinc 6 1, 3) := by decide +kernel
theorem dX12_countThirds_61 : decode cX12_countThirds 61 = .ok (.goto (-41), 3) := by decide +kernel
theorem dX12_countThirds_64 : decode cX12_countThirds 64 = .ok (.iinc 5 1, 3) := by decide +kernel
theorem dX12_countThirds_67 : decode cX12_countThirds 67 = .ok (.goto (-59), 3) := by decide +kernel
theorem dX12_countThirds_70 : decode cX12_countThirds 70 = .ok (.iload 4, 2) := by decide +kernel
theorem dX12_countThirds_72 : decode cX12_countThirds 72 = .ok (.ireturn, 1) := by decide +kernel
theorem dX12_countGreater_0 : decode cX12_countGreater 0 = .ok (.aload_n 0, 1) := by decide +kernel
theorem dX12_countGreater_1 : decode cX12_countGreater 1 = .ok (.iload_n 1, 1) := by decide +kernel
theorem dX12_countGreater_2 : decode cX12_countGreater 2 = .ok (.iload_n 2, 1) := by decide +kernel
theorem dX12_countGreater_3 : decode cX12_countGreater 3 = .ok (.iload_n 3, 1) := by decide +kernel
theorem dX12_countGreater_4 : decode cX12_countGreater 4 = .ok (.invokevirtual 247, 3) := by decide +kernel
theorem dX12_countGreater_7 : decode cX12_countGreater 7 = .ok (.istore 4, 2) := by decide +kernel
theorem dX12_countGreater_9 : decode cX12_countGreater 9 = .ok (.iload_n 3, 1) := by decide +kernel
theorem dX12_countGreater_10 : decode cX12_countGreater 10 = .ok (.iload_n 2, 1) := by decide +kernel
theorem dX12_countGreater_11 : decode cX12_countGreater 11 = .ok (.iconst 1, 1) := by decide +kernel
theorem dX12_countGreater_12 : decode cX12_countGreater 12 = .ok (.iadd, 1) := by decide +kernel
theorem dX12_countGreater_13 : decode cX12_countGreater 13 = .ok (.if_icmp .ne 31, 3) := by decide +kernel
theorem dX12_countGreater_16 : decode cX12_countGreater 16 = .ok (.iload 4, 2) := by decide +kernel
theorem dX12_countGreater_18 : decode cX12_countGreater 18 = .ok (.aload_n 0, 1) := by decide +kernel
theorem dX12_countGreater_19 : decode cX12_countGreater 19 = .ok (.iload_n 2, 1) := by decide +kernel
theorem dX12_countGreater_20 : decode cX12_countGreater 20 = .ok (.iload_n 1, 1) := by decide +kernel
theorem dX12_countGreater_21 : decode cX12_countGreater 21 = .ok (.invokevirtual 212, 3) := by decide +kernel
theorem dX12_countGreater_24 : decode cX12_countGreater 24 = .ok (.ifCond .ne 12, 3) := by decide +kernel
theorem dX12_countGreater_27 : decode cX12_countGreater 27 = .ok (.aload_n 0, 1) := by decide +kernel
theorem dX12_countGreater_28 : decode cX12_countGreater 28 = .ok (.iload_n 2, 1) := by decide +kernel
theorem dX12_countGreater_29 : decode cX12_countGreater 29 = .ok (.iload_n 1, 1) := by decide +kernel
theorem dX12_countGreater_30 : decode cX12_countGreater 30 = .ok (.invokevirtual 219, 3) := by decide +kernel
theorem dX12_countGreater_33 : decode cX12_countGreater 33 = .ok (.ifCond .eq 7, 3) := by decide +kernel
theorem dX12_countGreater_36 : decode cX12_countGreater 36 = .ok (.iconst 1, 1) := by decide +kernel
theorem dX12_countGreater_37 : decode cX12_countGreater 37 = .ok (.goto 4, 3) := by decide +kernel
theorem dX12_countGreater_40 : decode cX12_countGreater 40 = .ok (.iconst 0, 1) := by decide +kernel
theorem dX12_countGreater_41 : decode cX12_countGreater 41 = .ok (.iadd, 1) := by decide +kernel
theorem dX12_countGreater_42 : decode cX12_countGreater 42 = .ok (.istore 4, 2) := by decide +kernel
theorem dX12_countGreater_44 : decode cX12_countGreater 44 = .ok (.iload_n 3, 1) := by decide +kernel
theorem dX12_countGreater_45 : decode cX12_countGreater 45 = .ok (.iload_n 2, 1) := by decide +kernel
theorem dX12_countGreater_46 : decode cX12_countGreater 46 = .ok (.iconst 2, 1) := by decide +kernel
theorem dX12_countGreater_47 : decode cX12_countGreater 47 = .ok (.iadd, 1) := by decide +kernel
theorem dX12_countGreater_48 : decode cX12_countGreater 48 = .ok (.if_icmp .ne 29, 3) := by decide +kernel
theorem dX12_countGreater_51 : decode cX12_countGreater 51 = .ok (.aload_n 0, 1) := by decide +kernel
theorem dX12_countGreater_52 : decode cX12_countGreater 52 = .ok (.iload_n 2, 1) := by decide +kernel
theorem dX12_countGreater_53 : decode cX12_countGreater 53 = .ok (.iload_n 1, 1) := by decide +kernel
theorem dX12_countGreater_54 : decode cX12_countGreater 54 = .ok (.invokevirtual 212, 3) := by decide +kernel
theorem dX12_countGreater_57 : decode cX12_countGreater 57 = .ok (.ifCond .eq 20, 3) := by decide +kernel
theorem dX12_countGreater_60 : decode cX12_countGreater 60 = .ok (.aload_n 0, 1) := by decide +kernel
theorem dX12_countGreater_61 : decode cX12_countGreater 61 = .ok (.iload_n 2, 1) := by decide +kernel
theorem dX12_countGreater_62 : decode cX12_countGreater 62 = .ok (.iconst 1, 1) := by decide +kernel
theorem dX12_countGreater_63 : decode cX12_countGreater 63 = .ok (.iadd, 1) := by decide +kernel
theorem dX12_countGreater_64 : decode cX12_countGreater 64 = .ok (.invokevirtual 178, 3) := by decide +kernel
theorem dX12_countGreater_67 : decode cX12_countGreater 67 = .ok (.ifCond .eq 10, 3) := by decide +kernel
theorem dX12_countGreater_70 : decode cX12_countGreater 70 = .ok (.iload 4, 2) := by decide +kernel
theorem dX12_countGreater_72 : decode cX12_countGreater 72 = .ok (.iconst 1, 1) := by decide +kernel
theorem dX12_countGreater_73 : decode cX12_countGreater 73 = .ok (.iadd, 1) := by decide +kernel
theorem dX12_countGreater_74 : decode cX12_countGreater 74 = .ok (.goto 5, 3) := by decide +kernel
theorem dX12_countGreater_77 : decode cX12_countGreater 77 = .ok (.iload 4, 2) := by decide +kernel
theorem dX12_countGreater_79 : decode cX12_countGreater 79 = .ok (.ireturn, 1) := by decide +kernel
theorem dX12_countItem_0 : decode cX12_countItem 0 = .ok (.aload_n 0, 1) := by decide +kernel
theorem dX12_countItem_1 : decode cX12_countItem 1 = .ok (.iconst 0, 1) := by decide +kernel
theorem dX12_countItem_2 : decode cX12_countItem 2 = .ok (.aload_n 0, 1) := by decide +kernel
theorem dX12_countItem_3 : decode cX12_countItem 3 = .ok (.getfield 250, 3) := by decide +kernel
theorem dX12_countItem_6 : decode cX12_countItem 6 = .ok (.iload_n 1, 1) := by decide +kernel
theorem dX12_countItem_7 : decode cX12_countItem 7 = .ok (.iload_n 2, 1) := by decide +kernel
theorem dX12_countItem_8 : decode cX12_countItem 8 = .ok (.invokevirtual 225, 3) := by decide +kernel
theorem dX12_countItem_11 : decode cX12_countItem 11 = .ok (.i2l, 1) := by decide +kernel
theorem dX12_countItem_12 : decode cX12_countItem 12 = .ok (.aload_n 0, 1) := by decide +kernel
theorem dX12_countItem_13 : decode cX12_countItem 13 = .ok (.iconst 1, 1) := by decide +kernel
theorem dX12_countItem_14 : decode cX12_countItem 14 = .ok (.aload_n 0, 1) := by decide +kernel
theorem dX12_countItem_15 : decode cX12_countItem 15 = .ok (.getfield 250, 3) := by decide +kernel
theorem dX12_countItem_18 : decode cX12_countItem 18 = .ok (.iload_n 1, 1) := by decide +kernel
theorem dX12_countItem_19 : decode cX12_countItem 19 = .ok (.iload_n 2, 1) := by decide +kernel
theorem dX12_countItem_20 : decode cX12_countItem 20 = .ok (.invokevirtual 225, 3) := by decide +kernel
theorem dX12_countItem_23 : decode cX12_countItem 23 = .ok (.i2l, 1) := by decide +kernel
theorem dX12_countItem_24 : decode cX12_countItem 24 = .ok (.ladd, 1) := by decide +kernel
theorem dX12_countItem_25 : decode cX12_countItem 25 = .ok (.lstore_n 3, 1) := by decide +kernel
theorem dX12_countItem_26 : decode cX12_countItem 26 = .ok (.iconst 0, 1) := by decide +kernel
theorem dX12_countItem_27 : decode cX12_countItem 27 = .ok (.istore 5, 2) := by decide +kernel
theorem dX12_countItem_29 : decode cX12_countItem 29 = .ok (.iload 5, 2) := by decide +kernel
theorem dX12_countItem_31 : decode cX12_countItem 31 = .ok (.aload_n 0, 1) := by decide +kernel
theorem dX12_countItem_32 : decode cX12_countItem 32 = .ok (.getfield 250, 3) := by decide +kernel
theorem dX12_countItem_35 : decode cX12_countItem 35 = .ok (.if_icmp .ge 21, 3) := by decide +kernel
theorem dX12_countItem_38 : decode cX12_countItem 38 = .ok (.lload_n 3, 1) := by decide +kernel
theorem dX12_countItem_39 : decode cX12_countItem 39 = .ok (.aload_n 0, 1) := by decide +kernel
theorem dX12_countItem_40 : decode cX12_countItem 40 = .ok (.iload 5, 2) := by decide +kernel
theorem dX12_countItem_42 : decode cX12_countItem 42 = .ok (.iload_n 1, 1) := by decide +kernel
theorem dX12_countItem_43 : decode cX12_countItem 43 = .ok (.iload_n 2, 1) := by decide +kernel
theorem dX12_countItem_44 : decode cX12_countItem 44 = .ok (.invokevirtual 253, 3) := by decide +kernel
theorem dX12_countItem_47 : decode cX12_countItem 47 = .ok (.i2l, 1) := by decide +kernel
theorem dX12_countItem_48 : decode cX12_countItem 48 = .ok (.ladd, 1) := by decide +kernel
theorem dX12_countItem_49 : decode cX12_countItem 49 = .ok (.lstore_n 3, 1) := by decide +kernel
theorem dX12_countItem_50 : decode cX12_countItem 50 = .ok (.iinc 5 1, 3) := by decide +kernel
theorem dX12_countItem_53 : decode cX12_countItem 53 = .ok (.goto (-24), 3) := by decide +kernel
theorem dX12_countItem_56 : decode cX12_countItem 56 = .ok (.lload_n 3, 1) := by decide +kernel
theorem dX12_countItem_57 : decode cX12_countItem 57 = .ok (.invokestatic 208, 3) := by decide +kernel
theorem dX12_countItem_60 : decode cX12_countItem 60 = .ok (.ireturn, 1) := by decide +kernel
theorem dX12_beginScan_0 : decode cX12_beginScan 0 = .ok (.aload_n 0, 1) := by decide +kernel
theorem dX12_beginScan_1 : decode cX12_beginScan 1 = .ok (.iconst 0, 1) := by decide +kernel
theorem dX12_beginScan_2 : decode cX12_beginScan 2 = .ok (.putfield 190, 3) := by decide +kernel
theorem dX12_beginScan_5 : decode cX12_beginScan 5 = .ok (.aload_n 0, 1) := by decide +kernel
theorem dX12_beginScan_6 : decode cX12_beginScan 6 = .ok (.iload_n 1, 1) := by decide +kernel
theorem dX12_beginScan_7 : decode cX12_beginScan 7 = .ok (.putfield 187, 3) := by decide +kernel
theorem dX12_beginScan_10 : decode cX12_beginScan 10 = .ok (.aload_n 0, 1) := by decide +kernel
theorem dX12_beginScan_11 : decode cX12_beginScan 11 = .ok (.iconst 0, 1) := by decide +kernel
theorem dX12_beginScan_12 : decode cX12_beginScan 12 = .ok (.putfield 183, 3) := by decide +kernel
theorem dX12_beginScan_15 : decode cX12_beginScan 15 = .ok (.return_, 1) := by decide +kernel
theorem dX12_countAll_0 : decode cX12_countAll 0 = .ok (.bipush 6, 2) := by decide +kernel
theorem dX12_countAll_2 : decode cX12_countAll 2 = .ok (.istore_n 1, 1) := by decide +kernel
theorem dX12_countAll_3 : decode cX12_countAll 3 = .ok (.iload_n 1, 1) := by decide +kernel
theorem dX12_countAll_4 : decode cX12_countAll 4 = .ok (.ifCond .lt 116, 3) := by decide +kernel
theorem dX12_countAll_7 : decode cX12_countAll 7 = .ok (.iconst 0, 1) := by decide +kernel
theorem dX12_countAll_8 : decode cX12_countAll 8 = .ok (.istore_n 2, 1) := by decide +kernel
theorem dX12_countAll_9 : decode cX12_countAll 9 = .ok (.iload_n 2, 1) := by decide +kernel
theorem dX12_countAll_10 : decode cX12_countAll 10 = .ok (.aload_n 0, 1) := by decide +kernel
theorem dX12_countAll_11 : decode cX12_countAll 11 = .ok (.getfield 175, 3) := by decide +kernel
theorem dX12_countAll_14 : decode cX12_countAll 14 = .ok (.if_icmp .ge 100, 3) := by decide +kernel
theorem dX12_countAll_17 : decode cX12_countAll 17 = .ok (.iload_n 2, 1) := by decide +kernel
theorem dX12_countAll_18 : decode cX12_countAll 18 = .ok (.iconst 1, 1) := by decide +kernel
theorem dX12_countAll_19 : decode cX12_countAll 19 = .ok (.iadd, 1) := by decide +kernel
theorem dX12_countAll_20 : decode cX12_countAll 20 = .ok (.istore_n 3, 1) := by decide +kernel
theorem dX12_countAll_21 : decode cX12_countAll 21 = .ok (.iload_n 3, 1) := by decide +kernel
theorem dX12_countAll_22 : decode cX12_countAll 22 = .ok (.aload_n 0, 1) := by decide +kernel
theorem dX12_countAll_23 : decode cX12_countAll 23 = .ok (.getfield 175, 3) := by decide +kernel
theorem dX12_countAll_26 : decode cX12_countAll 26 = .ok (.if_icmp .gt 82, 3) := by decide +kernel
theorem dX12_countAll_29 : decode cX12_countAll 29 = .ok (.bipush 25, 2) := by decide +kernel
theorem dX12_countAll_31 : decode cX12_countAll 31 = .ok (.iload_n 2, 1) := by decide +kernel
theorem dX12_countAll_32 : decode cX12_countAll 32 = .ok (.imul, 1) := by decide +kernel
theorem dX12_countAll_33 : decode cX12_countAll 33 = .ok (.iload_n 3, 1) := by decide +kernel
theorem dX12_countAll_34 : decode cX12_countAll 34 = .ok (.iadd, 1) := by decide +kernel
theorem dX12_countAll_35 : decode cX12_countAll 35 = .ok (.istore 4, 2) := by decide +kernel
theorem dX12_countAll_37 : decode cX12_countAll 37 = .ok (.aload_n 0, 1) := by decide +kernel
theorem dX12_countAll_38 : decode cX12_countAll 38 = .ok (.iconst (-1), 1) := by decide +kernel
theorem dX12_countAll_39 : decode cX12_countAll 39 = .ok (.invokevirtual 256, 3) := by decide +kernel
theorem dX12_countAll_42 : decode cX12_countAll 42 = .ok (.aload_n 0, 1) := by decide +kernel
theorem dX12_countAll_43 : decode cX12_countAll 43 = .ok (.iload_n 1, 1) := by decide +kernel
theorem dX12_countAll_44 : decode cX12_countAll 44 = .ok (.iload_n 2, 1) := by decide +kernel
theorem dX12_countAll_45 : decode cX12_countAll 45 = .ok (.iload_n 3, 1) := by decide +kernel
theorem dX12_countAll_46 : decode cX12_countAll 46 = .ok (.invokevirtual 259, 3) := by decide +kernel
theorem dX12_countAll_49 : decode cX12_countAll 49 = .ok (.aload_n 0, 1) := by decide +kernel
theorem dX12_countAll_50 : decode cX12_countAll 50 = .ok (.getfield 53, 3) := by decide +kernel
theorem dX12_countAll_53 : decode cX12_countAll 53 = .ok (.iload_n 1, 1) := by decide +kernel
theorem dX12_countAll_54 : decode cX12_countAll 54 = .ok (.bipush 25, 2) := by decide +kernel
theorem dX12_countAll_56 : decode cX12_countAll 56 = .ok (.imul, 1) := by decide +kernel
theorem dX12_countAll_57 : decode cX12_countAll 57 = .ok (.bipush 25, 2) := by decide +kernel
theorem dX12_countAll_59 : decode cX12_countAll 59 = .ok (.imul, 1) := by decide +kernel
theorem dX12_countAll_60 : decode cX12_countAll 60 = .ok (.iload 4, 2) := by decide +kernel
theorem dX12_countAll_62 : decode cX12_countAll 62 = .ok (.iadd, 1) := by decide +kernel
theorem dX12_countAll_63 : decode cX12_countAll 63 = .ok (.aload_n 0, 1) := by decide +kernel
theorem dX12_countAll_64 : decode cX12_countAll 64 = .ok (.getfield 190, 3) := by decide +kernel
theorem dX12_countAll_67 : decode cX12_countAll 67 = .ok (.iastore, 1) := by decide +kernel
theorem dX12_countAll_68 : decode cX12_countAll 68 = .ok (.aload_n 0, 1) := by decide +kernel
theorem dX12_countAll_69 : decode cX12_countAll 69 = .ok (.iconst (-1), 1) := by decide +kernel
theorem dX12_countAll_70 : decode cX12_countAll 70 = .ok (.invokevirtual 256, 3) := by decide +kernel
theorem dX12_countAll_73 : decode cX12_countAll 73 = .ok (.aload_n 0, 1) := by decide +kernel
theorem dX12_countAll_74 : decode cX12_countAll 74 = .ok (.iload_n 1, 1) := by decide +kernel
theorem dX12_countAll_75 : decode cX12_countAll 75 = .ok (.iload_n 2, 1) := by decide +kernel
theorem dX12_countAll_76 : decode cX12_countAll 76 = .ok (.iload_n 3, 1) := by decide +kernel
theorem dX12_countAll_77 : decode cX12_countAll 77 = .ok (.invokevirtual 262, 3) := by decide +kernel
theorem dX12_countAll_80 : decode cX12_countAll 80 = .ok (.aload_n 0, 1) := by decide +kernel
theorem dX12_countAll_81 : decode cX12_countAll 81 = .ok (.getfield 53, 3) := by decide +kernel
theorem dX12_countAll_84 : decode cX12_countAll 84 = .ok (.bipush 7, 2) := by decide +kernel
theorem dX12_countAll_86 : decode cX12_countAll 86 = .ok (.iload_n 1, 1) := by decide +kernel
theorem dX12_countAll_87 : decode cX12_countAll 87 = .ok (.iadd, 1) := by decide +kernel
theorem dX12_countAll_88 : decode cX12_countAll 88 = .ok (.bipush 25, 2) := by decide +kernel
theorem dX12_countAll_90 : decode cX12_countAll 90 = .ok (.imul, 1) := by decide +kernel
theorem dX12_countAll_91 : decode cX12_countAll 91 = .ok (.bipush 25, 2) := by decide +kernel
theorem dX12_countAll_93 : decode cX12_countAll 93 = .ok (.imul, 1) := by decide +kernel
theorem dX12_countAll_94 : decode cX12_countAll 94 = .ok (.iload 4, 2) := by decide +kernel
theorem dX12_countAll_96 : decode cX12_countAll 96 = .ok (.iadd, 1) := by decide +kernel
theorem dX12_countAll_97 : decode cX12_countAll 97 = .ok (.aload_n 0, 1) := by decide +kernel
theorem dX12_countAll_98 : decode cX12_countAll 98 = .ok (.getfield 190, 3) := by decide +kernel
theorem dX12_countAll_101 : decode cX12_countAll 101 = .ok (.iastore, 1) := by decide +kernel
theorem dX12_countAll_102 : decode cX12_countAll 102 = .ok (.iinc 3 1, 3) := by decide +kernel
theorem dX12_countAll_105 : decode cX12_countAll 105 = .ok (.goto (-84), 3) := by decide +kernel
theorem dX12_countAll_108 : decode cX12_countAll 108 = .ok (.iinc 2 1, 3) := by decide +kernel
theorem dX12_countAll_111 : decode cX12_countAll 111 = .ok (.goto (-102), 3) := by decide +kernel
theorem dX12_countAll_114 : decode cX12_countAll 114 = .ok (.iinc 1 (-1), 3) := by decide +kernel
theorem dX12_countAll_117 : decode cX12_countAll 117 = .ok (.goto (-114), 3) := by decide +kernel
theorem dX12_countAll_120 : decode cX12_countAll 120 = .ok (.aload_n 0, 1) := by decide +kernel
theorem dX12_countAll_121 : decode cX12_countAll 121 = .ok (.getfield 56, 3) := by decide +kernel
theorem dX12_countAll_124 : decode cX12_countAll 124 = .ok (.aload_n 0, 1) := by decide +kernel
theorem dX12_countAll_125 : decode cX12_countAll 125 = .ok (.getfield 175, 3) := by decide +kernel
theorem dX12_countAll_128 : decode cX12_countAll 128 = .ok (.iconst 1, 1) := by decide +kernel
theorem dX12_countAll_129 : decode cX12_countAll 129 = .ok (.iastore, 1) := by decide +kernel
theorem dX12_countAll_130 : decode cX12_countAll 130 = .ok (.aload_n 0, 1) := by decide +kernel
theorem dX12_countAll_131 : decode cX12_countAll 131 = .ok (.getfield 175, 3) := by decide +kernel
theorem dX12_countAll_134 : decode cX12_countAll 134 = .ok (.iconst 1, 1) := by decide +kernel
theorem dX12_countAll_135 : decode cX12_countAll 135 = .ok (.isub, 1) := by decide +kernel
theorem dX12_countAll_136 : decode cX12_countAll 136 = .ok (.istore_n 1, 1) := by decide +kernel
theorem dX12_countAll_137 : decode cX12_countAll 137 = .ok (.iload_n 1, 1) := by decide +kernel
theorem dX12_countAll_138 : decode cX12_countAll 138 = .ok (.ifCond .lt 61, 3) := by decide +kernel
theorem dX12_countAll_141 : decode cX12_countAll 141 = .ok (.lconst 0, 1) := by decide +kernel
theorem dX12_countAll_142 : decode cX12_countAll 142 = .ok (.lstore_n 2, 1) := by decide +kernel
theorem dX12_countAll_143 : decode cX12_countAll 143 = .ok (.iload_n 1, 1) := by decide +kernel
theorem dX12_countAll_144 : decode cX12_countAll 144 = .ok (.iconst 1, 1) := by decide +kernel
theorem dX12_countAll_145 : decode cX12_countAll 145 = .ok (.iadd, 1) := by decide +kernel
theorem dX12_countAll_146 : decode cX12_countAll 146 = .ok (.istore 4, 2) := by decide +kernel
theorem dX12_countAll_148 : decode cX12_countAll 148 = .ok (.iload 4, 2) := by decide +kernel
theorem dX12_countAll_150 : decode cX12_countAll 150 = .ok (.aload_n 0, 1) := by decide +kernel
theorem dX12_countAll_151 : decode cX12_countAll 151 = .ok (.getfield 175, 3) := by decide +kernel
theorem dX12_countAll_154 : decode cX12_countAll 154 = .ok (.if_icmp .gt 29, 3) := by decide +kernel
theorem dX12_countAll_157 : decode cX12_countAll 157 = .ok (.lload_n 2, 1) := by decide +kernel
theorem dX12_countAll_158 : decode cX12_countAll 158 = .ok (.aload_n 0, 1) := by decide +kernel
theorem dX12_countAll_159 : decode cX12_countAll 159 = .ok (.iload_n 1, 1) := by decide +kernel
theorem dX12_countAll_160 : decode cX12_countAll 160 = .ok (.iload 4, 2) := by decide +kernel
theorem dX12_countAll_162 : decode cX12_countAll 162 = .ok (.invokevirtual 265, 3) := by decide +kernel
theorem dX12_countAll_165 : decode cX12_countAll 165 = .ok (.i2l, 1) := by decide +kernel
theorem dX12_countAll_166 : decode cX12_countAll 166 = .ok (.aload_n 0, 1) := by decide +kernel
theorem dX12_countAll_167 : decode cX12_countAll 167 = .ok (.getfield 56, 3) := by decide +kernel
theorem dX12_countAll_170 : decode cX12_countAll 170 = .ok (.iload 4, 2) := by decide +kernel
theorem dX12_countAll_172 : decode cX12_countAll 172 = .ok (.iaload, 1) := by decide +kernel
theorem dX12_countAll_173 : decode cX12_countAll 173 = .ok (.i2l, 1) := by decide +kernel
theorem dX12_countAll_174 : decode cX12_countAll 174 = .ok (.lmul, 1) := by decide +kernel
theorem dX12_countAll_175 : decode cX12_countAll 175 = .ok (.ladd, 1) := by decide +kernel
theorem dX12_countAll_176 : decode cX12_countAll 176 = .ok (.lstore_n 2, 1) := by decide +kernel
theorem dX12_countAll_177 : decode cX12_countAll 177 = .ok (.iinc 4 1, 3) := by decide +kernel
theorem dX12_countAll_180 : decode cX12_countAll 180 = .ok (.goto (-32), 3) := by decide +kernel
theorem dX12_countAll_183 : decode cX12_countAll 183 = .ok (.aload_n 0, 1) := by decide +kernel
theorem dX12_countAll_184 : decode cX12_countAll 184 = .ok (.getfield 56, 3) := by decide +kernel
theorem dX12_countAll_187 : decode cX12_countAll 187 = .ok (.iload_n 1, 1) := by decide +kernel
theorem dX12_countAll_188 : decode cX12_countAll 188 = .ok (.lload_n 2, 1) := by decide +kernel
theorem dX12_countAll_189 : decode cX12_countAll 189 = .ok (.invokestatic 208, 3) := by decide +kernel
theorem dX12_countAll_192 : decode cX12_countAll 192 = .ok (.iastore, 1) := by decide +kernel
theorem dX12_countAll_193 : decode cX12_countAll 193 = .ok (.iinc 1 (-1), 3) := by decide +kernel
theorem dX12_countAll_196 : decode cX12_countAll 196 = .ok (.goto (-59), 3) := by decide +kernel
theorem dX12_countAll_199 : decode cX12_countAll 199 = .ok (.return_, 1) := by decide +kernel
theorem dX12_push_0 : decode cX12_push 0 = .ok (.aload_n 0, 1) := by decide +kernel
theorem dX12_push_1 : decode cX12_push 1 = .ok (.getfield 59, 3) := by decide +kernel
theorem dX12_push_4 : decode cX12_push 4 = .ok (.aload_n 0, 1) := by decide +kernel
theorem dX12_push_5 : decode cX12_push 5 = .ok (.getfield 268, 3) := by decide +kernel
theorem dX12_push_8 : decode cX12_push 8 = .ok (.iload_n 1, 1) := by decide +kernel
theorem dX12_push_9 : decode cX12_push 9 = .ok (.iastore, 1) := by decide +kernel
theorem dX12_push_10 : decode cX12_push 10 = .ok (.aload_n 0, 1) := by decide +kernel
theorem dX12_push_11 : decode cX12_push 11 = .ok (.getfield 62, 3) := by decide +kernel
theorem dX12_push_14 : decode cX12_push 14 = .ok (.aload_n 0, 1) := by decide +kernel
theorem dX12_push_15 : decode cX12_push 15 = .ok (.getfield 268, 3) := by decide +kernel
theorem dX12_push_18 : decode cX12_push 18 = .ok (.iload_n 2, 1) := by decide +kernel
theorem dX12_push_19 : decode cX12_push 19 = .ok (.iastore, 1) := by decide +kernel
theorem dX12_push_20 : decode cX12_push 20 = .ok (.aload_n 0, 1) := by decide +kernel
theorem dX12_push_21 : decode cX12_push 21 = .ok (.getfield 65, 3) := by decide +kernel
theorem dX12_push_24 : decode cX12_push 24 = .ok (.aload_n 0, 1) := by decide +kernel
theorem dX12_push_25 : decode cX12_push 25 = .ok (.getfield 268, 3) := by decide +kernel
theorem dX12_push_28 : decode cX12_push 28 = .ok (.iload_n 3, 1) := by decide +kernel
theorem dX12_push_29 : decode cX12_push 29 = .ok (.iastore, 1) := by decide +kernel
theorem dX12_push_30 : decode cX12_push 30 = .ok (.aload_n 0, 1) := by decide +kernel
theorem dX12_push_31 : decode cX12_push 31 = .ok (.getfield 68, 3) := by decide +kernel
theorem dX12_push_34 : decode cX12_push 34 = .ok (.aload_n 0, 1) := by decide +kernel
theorem dX12_push_35 : decode cX12_push 35 = .ok (.getfield 268, 3) := by decide +kernel
theorem dX12_push_38 : decode cX12_push 38 = .ok (.iload 4, 2) := by decide +kernel
theorem dX12_push_40 : decode cX12_push 40 = .ok (.iastore, 1) := by decide +kernel
theorem dX12_push_41 : decode cX12_push 41 = .ok (.aload_n 0, 1) := by decide +kernel
theorem dX12_push_42 : decode cX12_push 42 = .ok (.getfield 71, 3) := by decide +kernel
theorem dX12_push_45 : decode cX12_push 45 = .ok (.aload_n 0, 1) := by decide +kernel
theorem dX12_push_46 : decode cX12_push 46 = .ok (.getfield 268, 3) := by decide +kernel
theorem dX12_push_49 : decode cX12_push 49 = .ok (.iload 5, 2) := by decide +kernel
theorem dX12_push_51 : decode cX12_push 51 = .ok (.iastore, 1) := by decide +kernel
theorem dX12_push_52 : decode cX12_push 52 = .ok (.aload_n 0, 1) := by decide +kernel
theorem dX12_push_53 : decode cX12_push 53 = .ok (.dup, 1) := by decide +kernel
theorem dX12_push_54 : decode cX12_push 54 = .ok (.getfield 268, 3) := by decide +kernel
theorem dX12_push_57 : decode cX12_push 57 = .ok (.iconst 1, 1) := by decide +kernel
theorem dX12_push_58 : decode cX12_push 58 = .ok (.iadd, 1) := by decide +kernel
theorem dX12_push_59 : decode cX12_push 59 = .ok (.putfield 268, 3) := by decide +kernel
theorem dX12_push_62 : decode cX12_push 62 = .ok (.return_, 1) := by decide +kernel
theorem dX12_tell_0 : decode cX12_tell 0 = .ok (.aload_n 0, 1) := by decide +kernel
theorem dX12_tell_1 : decode cX12_tell 1 = .ok (.getfield 75, 3) := by decide +kernel
theorem dX12_tell_4 : decode cX12_tell 4 = .ok (.bipush 120, 2) := by decide +kernel
theorem dX12_tell_6 : decode cX12_tell 6 = .ok (.aload_n 0, 1) := by decide +kernel
theorem dX12_tell_7 : decode cX12_tell 7 = .ok (.getfield 271, 3) := by decide +kernel
theorem dX12_tell_10 : decode cX12_tell 10 = .ok (.imul, 1) := by decide +kernel
theorem dX12_tell_11 : decode cX12_tell 11 = .ok (.aload_n 0, 1) := by decide +kernel
theorem dX12_tell_12 : decode cX12_tell 12 = .ok (.getfield 78, 3) := by decide +kernel
theorem dX12_tell_15 : decode cX12_tell 15 = .ok (.aload_n 0, 1) := by decide +kernel
theorem dX12_tell_16 : decode cX12_tell 16 = .ok (.getfield 271, 3) := by decide +kernel
theorem dX12_tell_19 : decode cX12_tell 19 = .ok (.iaload, 1) := by decide +kernel
theorem dX12_tell_20 : decode cX12_tell 20 = .ok (.iadd, 1) := by decide +kernel
theorem dX12_tell_21 : decode cX12_tell 21 = .ok (.iload_n 1, 1) := by decide +kernel
theorem dX12_tell_22 : decode cX12_tell 22 = .ok (.iastore, 1) := by decide +kernel
theorem dX12_tell_23 : decode cX12_tell 23 = .ok (.aload_n 0, 1) := by decide +kernel
theorem dX12_tell_24 : decode cX12_tell 24 = .ok (.getfield 78, 3) := by decide +kernel
theorem dX12_tell_27 : decode cX12_tell 27 = .ok (.aload_n 0, 1) := by decide +kernel
theorem dX12_tell_28 : decode cX12_tell 28 = .ok (.getfield 271, 3) := by decide +kernel
theorem dX12_tell_31 : decode cX12_tell 31 = .ok (.dup2, 1) := by decide +kernel
theorem dX12_tell_32 : decode cX12_tell 32 = .ok (.iaload, 1) := by decide +kernel
theorem dX12_tell_33 : decode cX12_tell 33 = .ok (.iconst 1, 1) := by decide +kernel
theorem dX12_tell_34 : decode cX12_tell 34 = .ok (.iadd, 1) := by decide +kernel
theorem dX12_tell_35 : decode cX12_tell 35 = .ok (.iastore, 1) := by decide +kernel
theorem dX12_tell_36 : decode cX12_tell 36 = .ok (.aload_n 0, 1) := by decide +kernel
theorem dX12_tell_37 : decode cX12_tell 37 = .ok (.getfield 81, 3) := by decide +kernel
theorem dX12_tell_40 : decode cX12_tell 40 = .ok (.aload_n 0, 1) := by decide +kernel
theorem dX12_tell_41 : decode cX12_tell 41 = .ok (.getfield 271, 3) := by decide +kernel
theorem dX12_tell_44 : decode cX12_tell 44 = .ok (.dup2, 1) := by decide +kernel
theorem dX12_tell_45 : decode cX12_tell 45 = .ok (.iaload, 1) := by decide +kernel
theorem dX12_tell_46 : decode cX12_tell 46 = .ok (.iload_n 1, 1) := by decide +kernel
theorem dX12_tell_47 : decode cX12_tell 47 = .ok (.bipush 7, 2) := by decide +kernel
theorem dX12_tell_49 : decode cX12_tell 49 = .ok (.if_icmp .eq 9, 3) := by decide +kernel
theorem dX12_tell_52 : decode cX12_tell 52 = .ok (.iload_n 1, 1) := by decide +kernel
theorem dX12_tell_53 : decode cX12_tell 53 = .ok (.bipush 12, 2) := by decide +kernel
theorem dX12_tell_55 : decode cX12_tell 55 = .ok (.if_icmp .ne 7, 3) := by decide +kernel
theorem dX12_tell_58 : decode cX12_tell 58 = .ok (.iconst 1, 1) := by decide +kernel
theorem dX12_tell_59 : decode cX12_tell 59 = .ok (.goto 24, 3) := by decide +kernel
theorem dX12_tell_62 : decode cX12_tell 62 = .ok (.iload_n 1, 1) := by decide +kernel
theorem dX12_tell_63 : decode cX12_tell 63 = .ok (.bipush 8, 2) := by decide +kernel
theorem dX12_tell_65 : decode cX12_tell 65 = .ok (.if_icmp .ne 7, 3) := by decide +kernel
theorem dX12_tell_68 : decode cX12_tell 68 = .ok (.iconst 2, 1) := by decide +kernel
theorem dX12_tell_69 : decode cX12_tell 69 = .ok (.goto 14, 3) := by decide +kernel
theorem dX12_tell_72 : decode cX12_tell 72 = .ok (.iload_n 1, 1) := by decide +kernel
theorem dX12_tell_73 : decode cX12_tell 73 = .ok (.bipush 9, 2) := by decide +kernel
theorem dX12_tell_75 : decode cX12_tell 75 = .ok (.if_icmp .ne 7, 3) := by decide +kernel
theorem dX12_tell_78 : decode cX12_tell 78 = .ok (.iconst 3, 1) := by decide +kernel
theorem dX12_tell_79 : decode cX12_tell 79 = .ok (.goto 4, 3) := by decide +kernel
theorem dX12_tell_82 : decode cX12_tell 82 = .ok (.iconst 0, 1) := by decide +kernel
theorem dX12_tell_83 : decode cX12_tell 83 = .ok (.iadd, 1) := by decide +kernel
theorem dX12_tell_84 : decode cX12_tell 84 = .ok (.iastore, 1) := by decide +kernel
theorem dX12_tell_85 : decode cX12_tell 85 = .ok (.return_, 1) := by decide +kernel
theorem dX12_last_0 : decode cX12_last 0 = .ok (.aload_n 0, 1) := by decide +kernel
theorem dX12_last_1 : decode cX12_last 1 = .ok (.getfield 84, 3) := by decide +kernel
theorem dX12_last_4 : decode cX12_last 4 = .ok (.bipush 24, 2) := by decide +kernel
theorem dX12_last_6 : decode cX12_last 6 = .ok (.aload_n 0, 1) := by decide +kernel
theorem dX12_last_7 : decode cX12_last 7 = .ok (.getfield 271, 3) := by decide +kernel
theorem dX12_last_10 : decode cX12_last 10 = .ok (.imul, 1) := by decide +kernel
theorem dX12_last_11 : decode cX12_last 11 = .ok (.iload_n 1, 1) := by decide +kernel
theorem dX12_last_12 : decode cX12_last 12 = .ok (.iadd, 1) := by decide +kernel
theorem dX12_last_13 : decode cX12_last 13 = .ok (.iload_n 2, 1) := by decide +kernel
theorem dX12_last_14 : decode cX12_last 14 = .ok (.iastore, 1) := by decide +kernel
theorem dX12_last_15 : decode cX12_last 15 = .ok (.return_, 1) := by decide +kernel
theorem dX12_full_0 : decode cX12_full 0 = .ok (.aload_n 0, 1) := by decide +kernel
theorem dX12_full_1 : decode cX12_full 1 = .ok (.getfield 222, 3) := by decide +kernel
theorem dX12_full_4 : decode cX12_full 4 = .ok (.iload_n 1, 1) := by decide +kernel
theorem dX12_full_5 : decode cX12_full 5 = .ok (.invokestatic 169, 3) := by decide +kernel
theorem dX12_full_8 : decode cX12_full 8 = .ok (.ireturn, 1) := by decide +kernel
theorem dX12_doItems_0 : decode cX12_doItems 0 = .ok (.iload_n 1, 1) := by decide +kernel
theorem dX12_doItems_1 : decode cX12_doItems 1 = .ok (.aload_n 0, 1) := by decide +kernel
theorem dX12_doItems_2 : decode cX12_doItems 2 = .ok (.getfield 175, 3) := by decide +kernel
theorem dX12_doItems_5 : decode cX12_doItems 5 = .ok (.if_icmp .ne 4, 3) := by decide +kernel
theorem dX12_doItems_8 : decode cX12_doItems 8 = .ok (.return_, 1) := by decide +kernel
theorem dX12_doItems_9 : decode cX12_doItems 9 = .ok (.iload_n 2, 1) := by decide +kernel
theorem dX12_doItems_10 : decode cX12_doItems 10 = .ok (.istore_n 3, 1) := by decide +kernel
theorem dX12_doItems_11 : decode cX12_doItems 11 = .ok (.iload_n 1, 1) := by decide +kernel
theorem dX12_doItems_12 : decode cX12_doItems 12 = .ok (.iconst 1, 1) := by decide +kernel
theorem dX12_doItems_13 : decode cX12_doItems 13 = .ok (.iadd, 1) := by decide +kernel
theorem dX12_doItems_14 : decode cX12_doItems 14 = .ok (.istore 4, 2) := by decide +kernel
theorem dX12_doItems_16 : decode cX12_doItems 16 = .ok (.iconst 1, 1) := by decide +kernel
theorem dX12_doItems_17 : decode cX12_doItems 17 = .ok (.istore 5, 2) := by decide +kernel
theorem dX12_doItems_19 : decode cX12_doItems 19 = .ok (.iload 5, 2) := by decide +kernel
theorem dX12_doItems_21 : decode cX12_doItems 21 = .ok (.ifCond .eq 66, 3) := by decide +kernel
theorem dX12_doItems_24 : decode cX12_doItems 24 = .ok (.aload_n 0, 1) := by decide +kernel
theorem dX12_doItems_25 : decode cX12_doItems 25 = .ok (.iload_n 1, 1) := by decide +kernel
theorem dX12_doItems_26 : decode cX12_doItems 26 = .ok (.iload 4, 2) := by decide +kernel
theorem dX12_doItems_28 : decode cX12_doItems 28 = .ok (.invokevirtual 265, 3) := by decide +kernel
theorem dX12_doItems_31 : decode cX12_doItems 31 = .ok (.aload_n 0, 1) := by decide +kernel
theorem dX12_doItems_32 : decode cX12_doItems 32 = .ok (.getfield 56, 3) := by decide +kernel
theorem dX12_doItems_35 : decode cX12_doItems 35 = .ok (.iload 4, 2) := by decide +kernel
theorem dX12_doItems_37 : decode cX12_doItems 37 = .ok (.iaload, 1) := by decide +kernel
theorem dX12_doItems_38 : decode cX12_doItems 38 = .ok (.imul, 1) := by decide +kernel
theorem dX12_doItems_39 : decode cX12_doItems 39 = .ok (.istore 6, 2) := by decide +kernel
theorem dX12_doItems_41 : decode cX12_doItems 41 = .ok (.iload_n 3, 1) := by decide +kernel
theorem dX12_doItems_42 : decode cX12_doItems 42 = .ok (.iload 6, 2) := by decide +kernel
theorem dX12_doItems_44 : decode cX12_doItems 44 = .ok (.if_icmp .lt 7, 3) := by decide +kernel
theorem dX12_doItems_47 : decode cX12_doItems 47 = .ok (.iconst 1, 1) := by decide +kernel
theorem dX12_doItems_48 : decode cX12_doItems 48 = .ok (.goto 4, 3) := by decide +kernel
theorem dX12_doItems_51 : decode cX12_doItems 51 = .ok (.iconst 0, 1) := by decide +kernel
theorem dX12_doItems_52 : decode cX12_doItems 52 = .ok (.istore 5, 2) := by decide +kernel
theorem dX12_doItems_54 : decode cX12_doItems 54 = .ok (.iload 5, 2) := by decide +kernel
theorem dX12_doItems_56 : decode cX12_doItems 56 = .ok (.ifCond .eq 10, 3) := by decide +kernel
theorem dX12_doItems_59 : decode cX12_doItems 59 = .ok (.iload_n 3, 1) := by decide +kernel
theorem dX12_doItems_60 : decode cX12_doItems 60 = .ok (.iload 6, 2) := by decide +kernel
theorem dX12_doItems_62 : decode cX12_doItems 62 = .ok (.isub, 1) := by decide +kernel
theorem dX12_doItems_63 : decode cX12_doItems 63 = .ok (.goto 4, 3) := by decide +kernel
theorem dX12_doItems_66 : decode cX12_doItems 66 = .ok (.iload_n 3, 1) := by decide +kernel
theorem dX12_doItems_67 : decode cX12_doItems 67 = .ok (.istore_n 3, 1) := by decide +kernel
theorem dX12_doItems_68 : decode cX12_doItems 68 = .ok (.iload 5, 2) := by decide +kernel
theorem dX12_doItems_70 : decode cX12_doItems 70 = .ok (.ifCond .eq 10, 3) := by decide +kernel
theorem dX12_doItems_73 : decode cX12_doItems 73 = .ok (.iload 4, 2) := by decide +kernel
theorem dX12_doItems_75 : decode cX12_doItems 75 = .ok (.iconst 1, 1) := by decide +kernel
theorem dX12_doItems_76 : decode cX12_doItems 76 = .ok (.iadd, 1) := by decide +kernel
theorem dX12_doItems_77 : decode cX12_doItems 77 = .ok (.goto 5, 3) := by decide +kernel
theorem dX12_doItems_80 : decode cX12_doItems 80 = .ok (.iload 4, 2) := by decide +kernel
theorem dX12_doItems_82 : decode cX12_doItems 82 = .ok (.istore 4, 2) := by decide +kernel
theorem dX12_doItems_84 : decode cX12_doItems 84 = .ok (.goto (-65), 3) := by decide +kernel
theorem dX12_doItems_87 : decode cX12_doItems 87 = .ok (.aload_n 0, 1) := by decide +kernel
theorem dX12_doItems_88 : decode cX12_doItems 88 = .ok (.iconst 3, 1) := by decide +kernel
theorem dX12_doItems_89 : decode cX12_doItems 89 = .ok (.iconst 0, 1) := by decide +kernel
theorem dX12_doItems_90 : decode cX12_doItems 90 = .ok (.iload 4, 2) := by decide +kernel
theorem dX12_doItems_92 : decode cX12_doItems 92 = .ok (.iconst 0, 1) := by decide +kernel
theorem dX12_doItems_93 : decode cX12_doItems 93 = .ok (.iload_n 3, 1) := by decide +kernel
theorem dX12_doItems_94 : decode cX12_doItems 94 = .ok (.aload_n 0, 1) := by decide +kernel
theorem dX12_doItems_95 : decode cX12_doItems 95 = .ok (.getfield 56, 3) := by decide +kernel
theorem dX12_doItems_98 : decode cX12_doItems 98 = .ok (.iload 4, 2) := by decide +kernel
theorem dX12_doItems_100 : decode cX12_doItems 100 = .ok (.iaload, 1) := by decide +kernel
theorem dX12_doItems_101 : decode cX12_doItems 101 = .ok (.irem, 1) := by decide +kernel
theorem dX12_doItems_102 : decode cX12_doItems 102 = .ok (.invokevirtual 274, 3) := by decide +kernel
theorem dX12_doItems_105 : decode cX12_doItems 105 = .ok (.aload_n 0, 1) := by decide +kernel
theorem dX12_doItems_106 : decode cX12_doItems 106 = .ok (.iload_n 1, 1) := by decide +kernel
theorem dX12_doItems_107 : decode cX12_doItems 107 = .ok (.iload 4, 2) := by decide +kernel
theorem dX12_doItems_109 : decode cX12_doItems 109 = .ok (.iload_n 3, 1) := by decide +kernel
theorem dX12_doItems_110 : decode cX12_doItems 110 = .ok (.aload_n 0, 1) := by decide +kernel
theorem dX12_doItems_111 : decode cX12_doItems 111 = .ok (.getfield 56, 3) := by decide +kernel
theorem dX12_doItems_114 : decode cX12_doItems 114 = .ok (.iload 4, 2) := by decide +kernel
theorem dX12_doItems_116 : decode cX12_doItems 116 = .ok (.iaload, 1) := by decide +kernel
theorem dX12_doItems_117 : decode cX12_doItems 117 = .ok (.idiv, 1) := by decide +kernel
theorem dX12_doItems_118 : decode cX12_doItems 118 = .ok (.invokevirtual 278, 3) := by decide +kernel
theorem dX12_doItems_121 : decode cX12_doItems 121 = .ok (.return_, 1) := by decide +kernel
theorem dX12_doItem_0 : decode cX12_doItem 0 = .ok (.aload_n 0, 1) := by decide +kernel
theorem dX12_doItem_1 : decode cX12_doItem 1 = .ok (.iconst 0, 1) := by decide +kernel
theorem dX12_doItem_2 : decode cX12_doItem 2 = .ok (.aload_n 0, 1) := by decide +kernel
theorem dX12_doItem_3 : decode cX12_doItem 3 = .ok (.getfield 250, 3) := by decide +kernel
theorem dX12_doItem_6 : decode cX12_doItem 6 = .ok (.iload_n 1, 1) := by decide +kernel
theorem dX12_doItem_7 : decode cX12_doItem 7 = .ok (.iload_n 2, 1) := by decide +kernel
theorem dX12_doItem_8 : decode cX12_doItem 8 = .ok (.invokevirtual 225, 3) := by decide +kernel
theorem dX12_doItem_11 : decode cX12_doItem 11 = .ok (.istore 4, 2) := by decide +kernel
theorem dX12_doItem_13 : decode cX12_doItem 13 = .ok (.aload_n 0, 1) := by decide +kernel
theorem dX12_doItem_14 : decode cX12_doItem 14 = .ok (.iconst 1, 1) := by decide +kernel
theorem dX12_doItem_15 : decode cX12_doItem 15 = .ok (.aload_n 0, 1) := by decide +kernel
theorem dX12_doItem_16 : decode cX12_doItem 16 = .ok (.getfield 250, 3) := by decide +kernel
theorem dX12_doItem_19 : decode cX12_doItem 19 = .ok (.iload_n 1, 1) := by decide +kernel
theorem dX12_doItem_20 : decode cX12_doItem 20 = .ok (.iload_n 2, 1) := by decide +kernel
theorem dX12_doItem_21 : decode cX12_doItem 21 = .ok (.invokevirtual 225, 3) := by decide +kernel
theorem dX12_doItem_24 : decode cX12_doItem 24 = .ok (.istore 5, 2) := by decide +kernel
theorem dX12_doItem_26 : decode cX12_doItem 26 = .ok (.iload_n 3, 1) := by decide +kernel
theorem dX12_doItem_27 : decode cX12_doItem 27 = .ok (.iload 4, 2) := by decide +kernel
theorem dX12_doItem_29 : decode cX12_doItem 29 = .ok (.if_icmp .ge 16, 3) := by decide +kernel
theorem dX12_doItem_32 : decode cX12_doItem 32 = .ok (.aload_n 0, 1) := by decide +kernel
theorem dX12_doItem_33 : decode cX12_doItem 33 = .ok (.iconst 0, 1) := by decide +kernel
theorem dX12_doItem_34 : decode cX12_doItem 34 = .ok (.aload_n 0, 1) := by decide +kernel
theorem dX12_doItem_35 : decode cX12_doItem 35 = .ok (.getfield 250, 3) := by decide +kernel
theorem dX12_doItem_38 : decode cX12_doItem 38 = .ok (.iload_n 1, 1) := by decide +kernel
theorem dX12_doItem_39 : decode cX12_doItem 39 = .ok (.iload_n 2, 1) := by decide +kernel
theorem dX12_doItem_40 : decode cX12_doItem 40 = .ok (.iload_n 3, 1) := by decide +kernel
theorem dX12_doItem_41 : decode cX12_doItem 41 = .ok (.invokevirtual 274, 3) := by decide +kernel
theorem dX12_doItem_44 : decode cX12_doItem 44 = .ok (.return_, 1) := by decide +kernel
theorem dX12_doItem_45 : decode cX12_doItem 45 = .ok (.iload_n 3, 1) := by decide +kernel
theorem dX12_doItem_46 : decode cX12_doItem 46 = .ok (.iload 4, 2) := by decide +kernel
theorem dX12_doItem_48 : decode cX12_doItem 48 = .ok (.isub, 1) := by decide +kernel
theorem dX12_doItem_49 : decode cX12_doItem 49 = .ok (.istore 6, 2) := by decide +kernel
theorem dX12_doItem_51 : decode cX12_doItem 51 = .ok (.iload 6, 2) := by decide +kernel
theorem dX12_doItem_53 : decode cX12_doItem 53 = .ok (.iload 5, 2) := by decide +kernel
theorem dX12_doItem_55 : decode cX12_doItem 55 = .ok (.if_icmp .ge 17, 3) := by decide +kernel
theorem dX12_doItem_58 : decode cX12_doItem 58 = .ok (.aload_n 0, 1) := by decide +kernel
theorem dX12_doItem_59 : decode cX12_doItem 59 = .ok (.iconst 1, 1) := by decide +kernel
theorem dX12_doItem_60 : decode cX12_doItem 60 = .ok (.aload_n 0, 1) := by decide +kernel
theorem dX12_doItem_61 : decode cX12_doItem 61 = .ok (.getfield 250, 3) := by decide +kernel
theorem dX12_doItem_64 : decode cX12_doItem 64 = .ok (.iload_n 1, 1) := by decide +kernel
theorem dX12_doItem_65 : decode cX12_doItem 65 = .ok (.iload_n 2, 1) := by decide +kernel
theorem dX12_doItem_66 : decode cX12_doItem 66 = .ok (.iload 6, 2) := by decide +kernel
theorem dX12_doItem_68 : decode cX12_doItem 68 = .ok (.invokevirtual 274, 3) := by decide +kernel
theorem dX12_doItem_71 : decode cX12_doItem 71 = .ok (.return_, 1) := by decide +kernel
theorem dX12_doItem_72 : decode cX12_doItem 72 = .ok (.iload 6, 2) := by decide +kernel
theorem dX12_doItem_74 : decode cX12_doItem 74 = .ok (.iload 5, 2) := by decide +kernel
theorem dX12_doItem_76 : decode cX12_doItem 76 = .ok (.isub, 1) := by decide +kernel
theorem dX12_doItem_77 : decode cX12_doItem 77 = .ok (.istore 6, 2) := by decide +kernel
theorem dX12_doItem_79 : decode cX12_doItem 79 = .ok (.iconst 0, 1) := by decide +kernel
theorem dX12_doItem_80 : decode cX12_doItem 80 = .ok (.istore 7, 2) := by decide +kernel
theorem dX12_doItem_82 : decode cX12_doItem 82 = .ok (.iload 6, 2) := by decide +kernel
theorem dX12_doItem_84 : decode cX12_doItem 84 = .ok (.aload_n 0, 1) := by decide +kernel
theorem dX12_doItem_85 : decode cX12_doItem 85 = .ok (.iload 7, 2) := by decide +kernel
theorem dX12_doItem_87 : decode cX12_doItem 87 = .ok (.iload_n 1, 1) := by decide +kernel
theorem dX12_doItem_88 : decode cX12_doItem 88 = .ok (.iload_n 2, 1) := by decide +kernel
theorem dX12_doItem_89 : decode cX12_doItem 89 = .ok (.invokevirtual 253, 3) := by decide +kernel
theorem dX12_doItem_92 : decode cX12_doItem 92 = .ok (.if_icmp .lt 22, 3) := by decide +kernel
theorem dX12_doItem_95 : decode cX12_doItem 95 = .ok (.iload 6, 2) := by decide +kernel
theorem dX12_doItem_97 : decode cX12_doItem 97 = .ok (.aload_n 0, 1) := by decide +kernel
theorem dX12_doItem_98 : decode cX12_doItem 98 = .ok (.iload 7, 2) := by decide +kernel
theorem dX12_doItem_100 : decode cX12_doItem 100 = .ok (.iload_n 1, 1) := by decide +kernel
theorem dX12_doItem_101 : decode cX12_doItem 101 = .ok (.iload_n 2, 1) := by decide +kernel
theorem dX12_doItem_102 : decode cX12_doItem 102 = .ok (.invokevirtual 253, 3) := by decide +kernel
theorem dX12_doItem_105 : decode cX12_doItem 105 = .ok (.isub, 1) := by decide +kernel
theorem dX12_doItem_106 : decode cX12_doItem 106 = .ok (.istore 6, 2) := by decide +kernel
theorem dX12_doItem_108 : decode cX12_doItem 108 = .ok (.iinc 7 1, 3) := by decide +kernel
theorem dX12_doItem_111 : decode cX12_doItem 111 = .ok (.goto (-29), 3) := by decide +kernel
theorem dX12_doItem_114 : decode cX12_doItem 114 = .ok (.aload_n 0, 1) := by decide +kernel
theorem dX12_doItem_115 : decode cX12_doItem 115 = .ok (.iload 7, 2) := by decide +kernel
theorem dX12_doItem_117 : decode cX12_doItem 117 = .ok (.iload_n 1, 1) := by decide +kernel
theorem dX12_doItem_118 : decode cX12_doItem 118 = .ok (.iload_n 2, 1) := by decide +kernel
theorem dX12_doItem_119 : decode cX12_doItem 119 = .ok (.iload 6, 2) := by decide +kernel
theorem dX12_doItem_121 : decode cX12_doItem 121 = .ok (.invokevirtual 281, 3) := by decide +kernel
theorem dX12_doItem_124 : decode cX12_doItem 124 = .ok (.return_, 1) := by decide +kernel
theorem dX12_doGreater_0 : decode cX12_doGreater 0 = .ok (.iload_n 3, 1) := by decide +kernel
theorem dX12_doGreater_1 : decode cX12_doGreater 1 = .ok (.iload_n 2, 1) := by decide +kernel
theorem dX12_doGreater_2 : decode cX12_doGreater 2 = .ok (.iconst 1, 1) := by decide +kernel
theorem dX12_doGreater_3 : decode cX12_doGreater 3 = .ok (.iadd, 1) := by decide +kernel
theorem dX12_doGreater_4 : decode cX12_doGreater 4 = .ok (.if_icmp .ne 34, 3) := by decide +kernel
theorem dX12_doGreater_7 : decode cX12_doGreater 7 = .ok (.aload_n 0, 1) := by decide +kernel
theorem dX12_doGreater_8 : decode cX12_doGreater 8 = .ok (.aload_n 0, 1) := by decide +kernel
theorem dX12_doGreater_9 : decode cX12_doGreater 9 = .ok (.iload_n 2, 1) := by decide +kernel
theorem dX12_doGreater_10 : decode cX12_doGreater 10 = .ok (.iload_n 1, 1) := by decide +kernel
theorem dX12_doGreater_11 : decode cX12_doGreater 11 = .ok (.invokevirtual 219, 3) := by decide +kernel
theorem dX12_doGreater_14 : decode cX12_doGreater 14 = .ok (.ifCond .eq 7, 3) := by decide +kernel
theorem dX12_doGreater_17 : decode cX12_doGreater 17 = .ok (.iconst 2, 1) := by decide +kernel
theorem dX12_doGreater_18 : decode cX12_doGreater 18 = .ok (.goto 4, 3) := by decide +kernel
theorem dX12_doGreater_21 : decode cX12_doGreater 21 = .ok (.iconst 1, 1) := by decide +kernel
theorem dX12_doGreater_22 : decode cX12_doGreater 22 = .ok (.invokevirtual 285, 3) := by decide +kernel
theorem dX12_doGreater_25 : decode cX12_doGreater 25 = .ok (.aload_n 0, 1) := by decide +kernel
theorem dX12_doGreater_26 : decode cX12_doGreater 26 = .ok (.iload_n 2, 1) := by decide +kernel
theorem dX12_doGreater_27 : decode cX12_doGreater 27 = .ok (.aload_n 0, 1) := by decide +kernel
theorem dX12_doGreater_28 : decode cX12_doGreater 28 = .ok (.iload_n 1, 1) := by decide +kernel
theorem dX12_doGreater_29 : decode cX12_doGreater 29 = .ok (.invokevirtual 288, 3) := by decide +kernel
theorem dX12_doGreater_32 : decode cX12_doGreater 32 = .ok (.invokevirtual 291, 3) := by decide +kernel
theorem dX12_doGreater_35 : decode cX12_doGreater 35 = .ok (.goto 66, 3) := by decide +kernel
theorem dX12_doGreater_38 : decode cX12_doGreater 38 = .ok (.iload_n 3, 1) := by decide +kernel
theorem dX12_doGreater_39 : decode cX12_doGreater 39 = .ok (.iload_n 2, 1) := by decide +kernel
theorem dX12_doGreater_40 : decode cX12_doGreater 40 = .ok (.iconst 2, 1) := by decide +kernel
theorem dX12_doGreater_41 : decode cX12_doGreater 41 = .ok (.iadd, 1) := by decide +kernel
theorem dX12_doGreater_42 : decode cX12_doGreater 42 = .ok (.if_icmp .ne 39, 3) := by decide +kernel
theorem dX12_doGreater_45 : decode cX12_doGreater 45 = .ok (.aload_n 0, 1) := by decide +kernel
theorem dX12_doGreater_46 : decode cX12_doGreater 46 = .ok (.iload_n 2, 1) := by decide +kernel
theorem dX12_doGreater_47 : decode cX12_doGreater 47 = .ok (.iload_n 1, 1) := by decide +kernel
theorem dX12_doGreater_48 : decode cX12_doGreater 48 = .ok (.invokevirtual 212, 3) := by decide +kernel
theorem dX12_doGreater_51 : decode cX12_doGreater 51 = .ok (.ifCond .eq 30, 3) := by decide +kernel
theorem dX12_doGreater_54 : decode cX12_doGreater 54 = .ok (.aload_n 0, 1) := by decide +kernel
theorem dX12_doGreater_55 : decode cX12_doGreater 55 = .ok (.bipush 18, 2) := by decide +kernel
theorem dX12_doGreater_57 : decode cX12_doGreater 57 = .ok (.invokevirtual 285, 3) := by decide +kernel
theorem dX12_doGreater_60 : decode cX12_doGreater 60 = .ok (.aload_n 0, 1) := by decide +kernel
theorem dX12_doGreater_61 : decode cX12_doGreater 61 = .ok (.iload_n 2, 1) := by decide +kernel
theorem dX12_doGreater_62 : decode cX12_doGreater 62 = .ok (.aload_n 0, 1) := by decide +kernel
theorem dX12_doGreater_63 : decode cX12_doGreater 63 = .ok (.iload_n 1, 1) := by decide +kernel
theorem dX12_doGreater_64 : decode cX12_doGreater 64 = .ok (.invokevirtual 288, 3) := by decide +kernel
theorem dX12_doGreater_67 : decode cX12_doGreater 67 = .ok (.aload_n 0, 1) := by decide +kernel
theorem dX12_doGreater_68 : decode cX12_doGreater 68 = .ok (.iload_n 1, 1) := by decide +kernel
theorem dX12_doGreater_69 : decode cX12_doGreater 69 = .ok (.invokevirtual 288, 3) := by decide +kernel
theorem dX12_doGreater_72 : decode cX12_doGreater 72 = .ok (.iconst 2, 1) := by decide +kernel
theorem dX12_doGreater_73 : decode cX12_doGreater 73 = .ok (.idiv, 1) := by decide +kernel
theorem dX12_doGreater_74 : decode cX12_doGreater 74 = .ok (.iadd, 1) := by decide +kernel
theorem dX12_doGreater_75 : decode cX12_doGreater 75 = .ok (.invokevirtual 291, 3) := by decide +kernel
theorem dX12_doGreater_78 : decode cX12_doGreater 78 = .ok (.goto 23, 3) := by decide +kernel
theorem dX12_doGreater_81 : decode cX12_doGreater 81 = .ok (.aload_n 0, 1) := by decide +kernel
theorem dX12_doGreater_82 : decode cX12_doGreater 82 = .ok (.iload 4, 2) := by decide +kernel
theorem dX12_doGreater_84 : decode cX12_doGreater 84 = .ok (.invokevirtual 256, 3) := by decide +kernel
theorem dX12_doGreater_87 : decode cX12_doGreater 87 = .ok (.aload_n 0, 1) := by decide +kernel
theorem dX12_doGreater_88 : decode cX12_doGreater 88 = .ok (.iload_n 1, 1) := by decide +kernel
theorem dX12_doGreater_89 : decode cX12_doGreater 89 = .ok (.iload_n 2, 1) := by decide +kernel
theorem dX12_doGreater_90 : decode cX12_doGreater 90 = .ok (.iload_n 3, 1) := by decide +kernel
theorem dX12_doGreater_91 : decode cX12_doGreater 91 = .ok (.invokevirtual 239, 3) := by decide +kernel
theorem dX12_doGreater_94 : decode cX12_doGreater 94 = .ok (.aload_n 0, 1) := by decide +kernel
theorem dX12_doGreater_95 : decode cX12_doGreater 95 = .ok (.iload_n 1, 1) := by decide +kernel
theorem dX12_doGreater_96 : decode cX12_doGreater 96 = .ok (.iload_n 2, 1) := by decide +kernel
theorem dX12_doGreater_97 : decode cX12_doGreater 97 = .ok (.iload_n 3, 1) := by decide +kernel
theorem dX12_doGreater_98 : decode cX12_doGreater 98 = .ok (.invokevirtual 295, 3) := by decide +kernel
theorem dX12_doGreater_101 : decode cX12_doGreater 101 = .ok (.return_, 1) := by decide +kernel
theorem dX12_doThirds_0 : decode cX12_doThirds 0 = .ok (.aload_n 0, 1) := by decide +kernel
theorem dX12_doThirds_1 : decode cX12_doThirds 1 = .ok (.bipush 15, 2) := by decide +kernel
theorem dX12_doThirds_3 : decode cX12_doThirds 3 = .ok (.invokevirtual 285, 3) := by decide +kernel
theorem dX12_doThirds_6 : decode cX12_doThirds 6 = .ok (.aload_n 0, 1) := by decide +kernel
theorem dX12_doThirds_7 : decode cX12_doThirds 7 = .ok (.iconst 2, 1) := by decide +kernel
theorem dX12_doThirds_8 : decode cX12_doThirds 8 = .ok (.iload_n 1, 1) := by decide +kernel
theorem dX12_doThirds_9 : decode cX12_doThirds 9 = .ok (.aload_n 0, 1) := by decide +kernel
theorem dX12_doThirds_10 : decode cX12_doThirds 10 = .ok (.getfield 199, 3) := by decide +kernel
theorem dX12_doThirds_13 : decode cX12_doThirds 13 = .ok (.iload_n 3, 1) := by decide +kernel
theorem dX12_doThirds_14 : decode cX12_doThirds 14 = .ok (.iconst 0, 1) := by decide +kernel
theorem dX12_doThirds_15 : decode cX12_doThirds 15 = .ok (.invokevirtual 274, 3) := by decide +kernel
theorem dX12_doThirds_18 : decode cX12_doThirds 18 = .ok (.aload_n 0, 1) := by decide +kernel
theorem dX12_doThirds_19 : decode cX12_doThirds 19 = .ok (.iconst 2, 1) := by decide +kernel
theorem dX12_doThirds_20 : decode cX12_doThirds 20 = .ok (.iload_n 1, 1) := by decide +kernel
theorem dX12_doThirds_21 : decode cX12_doThirds 21 = .ok (.aload_n 0, 1) := by decide +kernel
theorem dX12_doThirds_22 : decode cX12_doThirds 22 = .ok (.getfield 196, 3) := by decide +kernel
theorem dX12_doThirds_25 : decode cX12_doThirds 25 = .ok (.aload_n 0, 1) := by decide +kernel
theorem dX12_doThirds_26 : decode cX12_doThirds 26 = .ok (.getfield 199, 3) := by decide +kernel
theorem dX12_doThirds_29 : decode cX12_doThirds 29 = .ok (.iconst 0, 1) := by decide +kernel
theorem dX12_doThirds_30 : decode cX12_doThirds 30 = .ok (.invokevirtual 274, 3) := by decide +kernel
theorem dX12_doThirds_33 : decode cX12_doThirds 33 = .ok (.aload_n 0, 1) := by decide +kernel
theorem dX12_doThirds_34 : decode cX12_doThirds 34 = .ok (.iconst 2, 1) := by decide +kernel
theorem dX12_doThirds_35 : decode cX12_doThirds 35 = .ok (.iload_n 1, 1) := by decide +kernel
theorem dX12_doThirds_36 : decode cX12_doThirds 36 = .ok (.iload_n 2, 1) := by decide +kernel
theorem dX12_doThirds_37 : decode cX12_doThirds 37 = .ok (.aload_n 0, 1) := by decide +kernel
theorem dX12_doThirds_38 : decode cX12_doThirds 38 = .ok (.getfield 196, 3) := by decide +kernel
theorem dX12_doThirds_41 : decode cX12_doThirds 41 = .ok (.iconst 0, 1) := by decide +kernel
theorem dX12_doThirds_42 : decode cX12_doThirds 42 = .ok (.invokevirtual 274, 3) := by decide +kernel
theorem dX12_doThirds_45 : decode cX12_doThirds 45 = .ok (.return_, 1) := by decide +kernel
theorem dX12_doThird_0 : decode cX12_doThird 0 = .ok (.iload_n 3, 1) := by decide +kernel
theorem dX12_doThird_1 : decode cX12_doThird 1 = .ok (.iload_n 2, 1) := by decide +kernel
theorem dX12_doThird_2 : decode cX12_doThird 2 = .ok (.iconst 1, 1) := by decide +kernel
theorem dX12_doThird_3 : decode cX12_doThird 3 = .ok (.iadd, 1) := by decide +kernel
theorem dX12_doThird_4 : decode cX12_doThird 4 = .ok (.if_icmp .ne 24, 3) := by decide +kernel
theorem dX12_doThird_7 : decode cX12_doThird 7 = .ok (.aload_n 0, 1) := by decide +kernel
theorem dX12_doThird_8 : decode cX12_doThird 8 = .ok (.bipush 16, 2) := by decide +kernel
theorem dX12_doThird_10 : decode cX12_doThird 10 = .ok (.invokevirtual 285, 3) := by decide +kernel
theorem dX12_doThird_13 : decode cX12_doThird 13 = .ok (.aload_n 0, 1) := by decide +kernel
theorem dX12_doThird_14 : decode cX12_doThird 14 = .ok (.iload_n 2, 1) := by decide +kernel
theorem dX12_doThird_15 : decode cX12_doThird 15 = .ok (.iconst 2, 1) := by decide +kernel
theorem dX12_doThird_16 : decode cX12_doThird 16 = .ok (.aload_n 0, 1) := by decide +kernel
theorem dX12_doThird_17 : decode cX12_doThird 17 = .ok (.iload_n 1, 1) := by decide +kernel
theorem dX12_doThird_18 : decode cX12_doThird 18 = .ok (.invokevirtual 288, 3) := by decide +kernel
theorem dX12_doThird_21 : decode cX12_doThird 21 = .ok (.imul, 1) := by decide +kernel
theorem dX12_doThird_22 : decode cX12_doThird 22 = .ok (.iconst 3, 1) := by decide +kernel
theorem dX12_doThird_23 : decode cX12_doThird 23 = .ok (.idiv, 1) := by decide +kernel
theorem dX12_doThird_24 : decode cX12_doThird 24 = .ok (.invokevirtual 291, 3) := by decide +kernel
theorem dX12_doThird_27 : decode cX12_doThird 27 = .ok (.return_, 1) := by decide +kernel
theorem dX12_doThird_28 : decode cX12_doThird 28 = .ok (.aload_n 0, 1) := by decide +kernel
theorem dX12_doThird_29 : decode cX12_doThird 29 = .ok (.bipush 17, 2) := by decide +kernel
theorem dX12_doThird_31 : decode cX12_doThird 31 = .ok (.invokevirtual 285, 3) := by decide +kernel
theorem dX12_doThird_34 : decode cX12_doThird 34 = .ok (.aload_n 0, 1) := by decide +kernel
theorem dX12_doThird_35 : decode cX12_doThird 35 = .ok (.iload_n 2, 1) := by decide +kernel
theorem dX12_doThird_36 : decode cX12_doThird 36 = .ok (.aload_n 0, 1) := by decide +kernel
theorem dX12_doThird_37 : decode cX12_doThird 37 = .ok (.iload_n 1, 1) := by decide +kernel
theorem dX12_doThird_38 : decode cX12_doThird 38 = .ok (.invokevirtual 288, 3) := by decide +kernel
theorem dX12_doThird_41 : decode cX12_doThird 41 = .ok (.iconst 3, 1) := by decide +kernel
theorem dX12_doThird_42 : decode cX12_doThird 42 = .ok (.idiv, 1) := by decide +kernel
theorem dX12_doThird_43 : decode cX12_doThird 43 = .ok (.invokevirtual 291, 3) := by decide +kernel
theorem dX12_doThird_46 : decode cX12_doThird 46 = .ok (.aload_n 0, 1) := by decide +kernel
theorem dX12_doThird_47 : decode cX12_doThird 47 = .ok (.iload_n 2, 1) := by decide +kernel
theorem dX12_doThird_48 : decode cX12_doThird 48 = .ok (.iconst 1, 1) := by decide +kernel
theorem dX12_doThird_49 : decode cX12_doThird 49 = .ok (.iadd, 1) := by decide +kernel
theorem dX12_doThird_50 : decode cX12_doThird 50 = .ok (.aload_n 0, 1) := by decide +kernel
theorem dX12_doThird_51 : decode cX12_doThird 51 = .ok (.iload_n 1, 1) := by decide +kernel
theorem dX12_doThird_52 : decode cX12_doThird 52 = .ok (.invokevirtual 288, 3) := by decide +kernel
theorem dX12_doThird_55 : decode cX12_doThird 55 = .ok (.iconst 3, 1) := by decide +kernel
theorem dX12_doThird_56 : decode cX12_doThird 56 = .ok (.idiv, 1) := by decide +kernel
theorem dX12_doThird_57 : decode cX12_doThird 57 = .ok (.invokevirtual 291, 3) := by decide +kernel
theorem dX12_doThird_60 : decode cX12_doThird 60 = .ok (.return_, 1) := by decide +kernel
theorem dX12_pushTwo_0 : decode cX12_pushTwo 0 = .ok (.aload_n 0, 1) := by decide +kernel
theorem dX12_pushTwo_1 : decode cX12_pushTwo 1 = .ok (.iload 4, 2) := by decide +kernel
theorem dX12_pushTwo_3 : decode cX12_pushTwo 3 = .ok (.iload 6, 2) := by decide +kernel
theorem dX12_pushTwo_5 : decode cX12_pushTwo 5 = .ok (.iload_n 3, 1) := by decide +kernel
theorem dX12_pushTwo_6 : decode cX12_pushTwo 6 = .ok (.iload 5, 2) := by decide +kernel
theorem dX12_pushTwo_8 : decode cX12_pushTwo 8 = .ok (.invokevirtual 225, 3) := by decide +kernel
theorem dX12_pushTwo_11 : decode cX12_pushTwo 11 = .ok (.istore 7, 2) := by decide +kernel
theorem dX12_pushTwo_13 : decode cX12_pushTwo 13 = .ok (.aload_n 0, 1) := by decide +kernel
theorem dX12_pushTwo_14 : decode cX12_pushTwo 14 = .ok (.iload 4, 2) := by decide +kernel
theorem dX12_pushTwo_16 : decode cX12_pushTwo 16 = .ok (.iload 6, 2) := by decide +kernel
theorem dX12_pushTwo_18 : decode cX12_pushTwo 18 = .ok (.iload_n 3, 1) := by decide +kernel
theorem dX12_pushTwo_19 : decode cX12_pushTwo 19 = .ok (.iload 5, 2) := by decide +kernel
theorem dX12_pushTwo_21 : decode cX12_pushTwo 21 = .ok (.aload_n 0, 1) := by decide +kernel
theorem dX12_pushTwo_22 : decode cX12_pushTwo 22 = .ok (.getfield 205, 3) := by decide +kernel
theorem dX12_pushTwo_25 : decode cX12_pushTwo 25 = .ok (.iload 7, 2) := by decide +kernel
theorem dX12_pushTwo_27 : decode cX12_pushTwo 27 = .ok (.irem, 1) := by decide +kernel
theorem dX12_pushTwo_28 : decode cX12_pushTwo 28 = .ok (.invokevirtual 274, 3) := by decide +kernel
theorem dX12_pushTwo_31 : decode cX12_pushTwo 31 = .ok (.aload_n 0, 1) := by decide +kernel
theorem dX12_pushTwo_32 : decode cX12_pushTwo 32 = .ok (.iload_n 1, 1) := by decide +kernel
theorem dX12_pushTwo_33 : decode cX12_pushTwo 33 = .ok (.iload 6, 2) := by decide +kernel
theorem dX12_pushTwo_35 : decode cX12_pushTwo 35 = .ok (.iload_n 2, 1) := by decide +kernel
theorem dX12_pushTwo_36 : decode cX12_pushTwo 36 = .ok (.iload_n 3, 1) := by decide +kernel
theorem dX12_pushTwo_37 : decode cX12_pushTwo 37 = .ok (.aload_n 0, 1) := by decide +kernel
theorem dX12_pushTwo_38 : decode cX12_pushTwo 38 = .ok (.getfield 205, 3) := by decide +kernel
theorem dX12_pushTwo_41 : decode cX12_pushTwo 41 = .ok (.iload 7, 2) := by decide +kernel
theorem dX12_pushTwo_43 : decode cX12_pushTwo 43 = .ok (.idiv, 1) := by decide +kernel
theorem dX12_pushTwo_44 : decode cX12_pushTwo 44 = .ok (.invokevirtual 274, 3) := by decide +kernel
theorem dX12_pushTwo_47 : decode cX12_pushTwo 47 = .ok (.return_, 1) := by decide +kernel
theorem dX12_doUnit_0 : decode cX12_doUnit 0 = .ok (.aload_n 0, 1) := by decide +kernel
theorem dX12_doUnit_1 : decode cX12_doUnit 1 = .ok (.iload 4, 2) := by decide +kernel
theorem dX12_doUnit_3 : decode cX12_doUnit 3 = .ok (.invokevirtual 256, 3) := by decide +kernel
theorem dX12_doUnit_6 : decode cX12_doUnit 6 = .ok (.aload_n 0, 1) := by decide +kernel
theorem dX12_doUnit_7 : decode cX12_doUnit 7 = .ok (.iload_n 1, 1) := by decide +kernel
theorem dX12_doUnit_8 : decode cX12_doUnit 8 = .ok (.iload_n 2, 1) := by decide +kernel
theorem dX12_doUnit_9 : decode cX12_doUnit 9 = .ok (.iload_n 3, 1) := by decide +kernel
theorem dX12_doUnit_10 : decode cX12_doUnit 10 = .ok (.invokevirtual 259, 3) := by decide +kernel
theorem dX12_doUnit_13 : decode cX12_doUnit 13 = .ok (.aload_n 0, 1) := by decide +kernel
theorem dX12_doUnit_14 : decode cX12_doUnit 14 = .ok (.getfield 193, 3) := by decide +kernel
theorem dX12_doUnit_17 : decode cX12_doUnit 17 = .ok (.istore 5, 2) := by decide +kernel
theorem dX12_doUnit_19 : decode cX12_doUnit 19 = .ok (.aload_n 0, 1) := by decide +kernel
theorem dX12_doUnit_20 : decode cX12_doUnit 20 = .ok (.getfield 202, 3) := by decide +kernel
theorem dX12_doUnit_23 : decode cX12_doUnit 23 = .ok (.ifCond .eq 9, 3) := by decide +kernel
theorem dX12_doUnit_26 : decode cX12_doUnit 26 = .ok (.iload_n 3, 1) := by decide +kernel
theorem dX12_doUnit_27 : decode cX12_doUnit 27 = .ok (.iconst 1, 1) := by decide +kernel
theorem dX12_doUnit_28 : decode cX12_doUnit 28 = .ok (.isub, 1) := by decide +kernel
theorem dX12_doUnit_29 : decode cX12_doUnit 29 = .ok (.goto 4, 3) := by decide +kernel
theorem dX12_doUnit_32 : decode cX12_doUnit 32 = .ok (.iload_n 3, 1) := by decide +kernel
theorem dX12_doUnit_33 : decode cX12_doUnit 33 = .ok (.istore 6, 2) := by decide +kernel
theorem dX12_doUnit_35 : decode cX12_doUnit 35 = .ok (.aload_n 0, 1) := by decide +kernel
theorem dX12_doUnit_36 : decode cX12_doUnit 36 = .ok (.iload 5, 2) := by decide +kernel
theorem dX12_doUnit_38 : decode cX12_doUnit 38 = .ok (.invokevirtual 285, 3) := by decide +kernel
theorem dX12_doUnit_41 : decode cX12_doUnit 41 = .ok (.aload_n 0, 1) := by decide +kernel
theorem dX12_doUnit_42 : decode cX12_doUnit 42 = .ok (.getfield 202, 3) := by decide +kernel
theorem dX12_doUnit_45 : decode cX12_doUnit 45 = .ok (.ifCond .eq 13, 3) := by decide +kernel
theorem dX12_doUnit_48 : decode cX12_doUnit 48 = .ok (.aload_n 0, 1) := by decide +kernel
theorem dX12_doUnit_49 : decode cX12_doUnit 49 = .ok (.iconst 4, 1) := by decide +kernel
theorem dX12_doUnit_50 : decode cX12_doUnit 50 = .ok (.bipush 12, 2) := by decide +kernel
theorem dX12_doUnit_52 : decode cX12_doUnit 52 = .ok (.iconst 0, 1) := by decide +kernel
theorem dX12_doUnit_53 : decode cX12_doUnit 53 = .ok (.iconst 0, 1) := by decide +kernel
theorem dX12_doUnit_54 : decode cX12_doUnit 54 = .ok (.iconst 0, 1) := by decide +kernel
theorem dX12_doUnit_55 : decode cX12_doUnit 55 = .ok (.invokevirtual 274, 3) := by decide +kernel
theorem dX12_doUnit_58 : decode cX12_doUnit 58 = .ok (.aload_n 0, 1) := by decide +kernel
theorem dX12_doUnit_59 : decode cX12_doUnit 59 = .ok (.getfield 196, 3) := by decide +kernel
theorem dX12_doUnit_62 : decode cX12_doUnit 62 = .ok (.istore 7, 2) := by decide +kernel
theorem dX12_doUnit_64 : decode cX12_doUnit 64 = .ok (.iload 5, 2) := by decide +kernel
theorem dX12_doUnit_66 : decode cX12_doUnit 66 = .ok (.tableswitch 287 1 10 #[54, 54, 54, 67, 84, 102, 203, 237, 237, 270], 54) := by decide +kernel
theorem dX12_doUnit_120 : decode cX12_doUnit 120 = .ok (.aload_n 0, 1) := by decide +kernel
theorem dX12_doUnit_121 : decode cX12_doUnit 121 = .ok (.iload_n 2, 1) := by decide +kernel
theorem dX12_doUnit_122 : decode cX12_doUnit 122 = .ok (.aload_n 0, 1) := by decide +kernel
theorem dX12_doUnit_123 : decode cX12_doUnit 123 = .ok (.iload_n 1, 1) := by decide +kernel
theorem dX12_doUnit_124 : decode cX12_doUnit 124 = .ok (.invokevirtual 288, 3) := by decide +kernel
theorem dX12_doUnit_127 : decode cX12_doUnit 127 = .ok (.invokevirtual 291, 3) := by decide +kernel
theorem dX12_doUnit_130 : decode cX12_doUnit 130 = .ok (.goto 237, 3) := by decide +kernel
theorem dX12_doUnit_133 : decode cX12_doUnit 133 = .ok (.aload_n 0, 1) := by decide +kernel
theorem dX12_doUnit_134 : decode cX12_doUnit 134 = .ok (.iconst 0, 1) := by decide +kernel
theorem dX12_doUnit_135 : decode cX12_doUnit 135 = .ok (.iload_n 2, 1) := by decide +kernel
theorem dX12_doUnit_136 : decode cX12_doUnit 136 = .ok (.iload 7, 2) := by decide +kernel
theorem dX12_doUnit_138 : decode cX12_doUnit 138 = .ok (.iconst 0, 1) := by decide +kernel
theorem dX12_doUnit_139 : decode cX12_doUnit 139 = .ok (.iload 6, 2) := by decide +kernel
theorem dX12_doUnit_141 : decode cX12_doUnit 141 = .ok (.iload_n 1, 1) := by decide +kernel
theorem dX12_doUnit_142 : decode cX12_doUnit 142 = .ok (.iconst 1, 1) := by decide +kernel
theorem dX12_doUnit_143 : decode cX12_doUnit 143 = .ok (.iadd, 1) := by decide +kernel
theorem dX12_doUnit_144 : decode cX12_doUnit 144 = .ok (.invokevirtual 298, 3) := by decide +kernel
theorem dX12_doUnit_147 : decode cX12_doUnit 147 = .ok (.goto 220, 3) := by decide +kernel
theorem dX12_doUnit_150 : decode cX12_doUnit 150 = .ok (.aload_n 0, 1) := by decide +kernel
theorem dX12_doUnit_151 : decode cX12_doUnit 151 = .ok (.iconst 1, 1) := by decide +kernel
theorem dX12_doUnit_152 : decode cX12_doUnit 152 = .ok (.iload_n 1, 1) := by decide +kernel
theorem dX12_doUnit_153 : decode cX12_doUnit 153 = .ok (.iconst 1, 1) := by decide +kernel
theorem dX12_doUnit_154 : decode cX12_doUnit 154 = .ok (.iadd, 1) := by decide +kernel
theorem dX12_doUnit_155 : decode cX12_doUnit 155 = .ok (.iload_n 2, 1) := by decide +kernel
theorem dX12_doUnit_156 : decode cX12_doUnit 156 = .ok (.iload 6, 2) := by decide +kernel
theorem dX12_doUnit_158 : decode cX12_doUnit 158 = .ok (.aload_n 0, 1) := by decide +kernel
theorem dX12_doUnit_159 : decode cX12_doUnit 159 = .ok (.getfield 205, 3) := by decide +kernel
theorem dX12_doUnit_162 : decode cX12_doUnit 162 = .ok (.invokevirtual 274, 3) := by decide +kernel
theorem dX12_doUnit_165 : decode cX12_doUnit 165 = .ok (.goto 202, 3) := by decide +kernel
theorem dX12_doUnit_168 : decode cX12_doUnit 168 = .ok (.aload_n 0, 1) := by decide +kernel
theorem dX12_doUnit_169 : decode cX12_doUnit 169 = .ok (.iconst 0, 1) := by decide +kernel
theorem dX12_doUnit_170 : decode cX12_doUnit 170 = .ok (.iload_n 1, 1) := by decide +kernel
theorem dX12_doUnit_171 : decode cX12_doUnit 171 = .ok (.iconst 1, 1) := by decide +kernel
theorem dX12_doUnit_172 : decode cX12_doUnit 172 = .ok (.iadd, 1) := by decide +kernel
theorem dX12_doUnit_173 : decode cX12_doUnit 173 = .ok (.aload_n 0, 1) := by decide +kernel
theorem dX12_doUnit_174 : decode cX12_doUnit 174 = .ok (.getfield 199, 3) := by decide +kernel
theorem dX12_doUnit_177 : decode cX12_doUnit 177 = .ok (.iload 6, 2) := by decide +kernel
theorem dX12_doUnit_179 : decode cX12_doUnit 179 = .ok (.invokevirtual 225, 3) := by decide +kernel
theorem dX12_doUnit_182 : decode cX12_doUnit 182 = .ok (.istore 8, 2) := by decide +kernel
theorem dX12_doUnit_184 : decode cX12_doUnit 184 = .ok (.aload_n 0, 1) := by decide +kernel
theorem dX12_doUnit_185 : decode cX12_doUnit 185 = .ok (.iconst 0, 1) := by decide +kernel
theorem dX12_doUnit_186 : decode cX12_doUnit 186 = .ok (.iload_n 1, 1) := by decide +kernel
theorem dX12_doUnit_187 : decode cX12_doUnit 187 = .ok (.iconst 1, 1) := by decide +kernel
theorem dX12_doUnit_188 : decode cX12_doUnit 188 = .ok (.iadd, 1) := by decide +kernel
theorem dX12_doUnit_189 : decode cX12_doUnit 189 = .ok (.iload 7, 2) := by decide +kernel
theorem dX12_doUnit_191 : decode cX12_doUnit 191 = .ok (.aload_n 0, 1) := by decide +kernel
theorem dX12_doUnit_192 : decode cX12_doUnit 192 = .ok (.getfield 199, 3) := by decide +kernel
theorem dX12_doUnit_195 : decode cX12_doUnit 195 = .ok (.invokevirtual 225, 3) := by decide +kernel
theorem dX12_doUnit_198 : decode cX12_doUnit 198 = .ok (.istore 9, 2) := by decide +kernel
theorem dX12_doUnit_200 : decode cX12_doUnit 200 = .ok (.aload_n 0, 1) := by decide +kernel
theorem dX12_doUnit_201 : decode cX12_doUnit 201 = .ok (.iconst 0, 1) := by decide +kernel
theorem dX12_doUnit_202 : decode cX12_doUnit 202 = .ok (.iload_n 1, 1) := by decide +kernel
theorem dX12_doUnit_203 : decode cX12_doUnit 203 = .ok (.iconst 1, 1) := by decide +kernel
theorem dX12_doUnit_204 : decode cX12_doUnit 204 = .ok (.iadd, 1) := by decide +kernel
theorem dX12_doUnit_205 : decode cX12_doUnit 205 = .ok (.aload_n 0, 1) := by decide +kernel
theorem dX12_doUnit_206 : decode cX12_doUnit 206 = .ok (.getfield 199, 3) := by decide +kernel
theorem dX12_doUnit_209 : decode cX12_doUnit 209 = .ok (.iload 6, 2) := by decide +kernel
theorem dX12_doUnit_211 : decode cX12_doUnit 211 = .ok (.aload_n 0, 1) := by decide +kernel
theorem dX12_doUnit_212 : decode cX12_doUnit 212 = .ok (.getfield 205, 3) := by decide +kernel
theorem dX12_doUnit_215 : decode cX12_doUnit 215 = .ok (.iload 8, 2) := by decide +kernel
theorem dX12_doUnit_217 : decode cX12_doUnit 217 = .ok (.irem, 1) := by decide +kernel
theorem dX12_doUnit_218 : decode cX12_doUnit 218 = .ok (.invokevirtual 274, 3) := by decide +kernel
theorem dX12_doUnit_221 : decode cX12_doUnit 221 = .ok (.aload_n 0, 1) := by decide +kernel
theorem dX12_doUnit_222 : decode cX12_doUnit 222 = .ok (.iconst 0, 1) := by decide +kernel
theorem dX12_doUnit_223 : decode cX12_doUnit 223 = .ok (.iload_n 1, 1) := by decide +kernel
theorem dX12_doUnit_224 : decode cX12_doUnit 224 = .ok (.iconst 1, 1) := by decide +kernel
theorem dX12_doUnit_225 : decode cX12_doUnit 225 = .ok (.iadd, 1) := by decide +kernel
theorem dX12_doUnit_226 : decode cX12_doUnit 226 = .ok (.iload 7, 2) := by decide +kernel
theorem dX12_doUnit_228 : decode cX12_doUnit 228 = .ok (.aload_n 0, 1) := by decide +kernel
theorem dX12_doUnit_229 : decode cX12_doUnit 229 = .ok (.getfield 199, 3) := by decide +kernel
theorem dX12_doUnit_232 : decode cX12_doUnit 232 = .ok (.aload_n 0, 1) := by decide +kernel
theorem dX12_doUnit_233 : decode cX12_doUnit 233 = .ok (.getfield 205, 3) := by decide +kernel
theorem dX12_doUnit_236 : decode cX12_doUnit 236 = .ok (.iload 8, 2) := by decide +kernel
theorem dX12_doUnit_238 : decode cX12_doUnit 238 = .ok (.idiv, 1) := by decide +kernel
theorem dX12_doUnit_239 : decode cX12_doUnit 239 = .ok (.iload 9, 2) := by decide +kernel
theorem dX12_doUnit_241 : decode cX12_doUnit 241 = .ok (.irem, 1) := by decide +kernel
theorem dX12_doUnit_242 : decode cX12_doUnit 242 = .ok (.invokevirtual 274, 3) := by decide +kernel
theorem dX12_doUnit_245 : decode cX12_doUnit 245 = .ok (.aload_n 0, 1) := by decide +kernel
theorem dX12_doUnit_246 : decode cX12_doUnit 246 = .ok (.iconst 0, 1) := by decide +kernel
theorem dX12_doUnit_247 : decode cX12_doUnit 247 = .ok (.iload_n 1, 1) := by decide +kernel
theorem dX12_doUnit_248 : decode cX12_doUnit 248 = .ok (.iconst 1, 1) := by decide +kernel
theorem dX12_doUnit_249 : decode cX12_doUnit 249 = .ok (.iadd, 1) := by decide +kernel
theorem dX12_doUnit_250 : decode cX12_doUnit 250 = .ok (.iload_n 2, 1) := by decide +kernel
theorem dX12_doUnit_251 : decode cX12_doUnit 251 = .ok (.iload 7, 2) := by decide +kernel
theorem dX12_doUnit_253 : decode cX12_doUnit 253 = .ok (.aload_n 0, 1) := by decide +kernel
theorem dX12_doUnit_254 : decode cX12_doUnit 254 = .ok (.getfield 205, 3) := by decide +kernel
theorem dX12_doUnit_257 : decode cX12_doUnit 257 = .ok (.iload 8, 2) := by decide +kernel
theorem dX12_doUnit_259 : decode cX12_doUnit 259 = .ok (.idiv, 1) := by decide +kernel
theorem dX12_doUnit_260 : decode cX12_doUnit 260 = .ok (.iload 9, 2) := by decide +kernel
theorem dX12_doUnit_262 : decode cX12_doUnit 262 = .ok (.idiv, 1) := by decide +kernel
theorem dX12_doUnit_263 : decode cX12_doUnit 263 = .ok (.invokevirtual 274, 3) := by decide +kernel
theorem dX12_doUnit_266 : decode cX12_doUnit 266 = .ok (.goto 101, 3) := by decide +kernel
theorem dX12_doUnit_269 : decode cX12_doUnit 269 = .ok (.aload_n 0, 1) := by decide +kernel
theorem dX12_doUnit_270 : decode cX12_doUnit 270 = .ok (.iload_n 2, 1) := by decide +kernel
theorem dX12_doUnit_271 : decode cX12_doUnit 271 = .ok (.iconst 2, 1) := by decide +kernel
theorem dX12_doUnit_272 : decode cX12_doUnit 272 = .ok (.aload_n 0, 1) := by decide +kernel
theorem dX12_doUnit_273 : decode cX12_doUnit 273 = .ok (.iload_n 1, 1) := by decide +kernel
theorem dX12_doUnit_274 : decode cX12_doUnit 274 = .ok (.iconst 1, 1) := by decide +kernel
theorem dX12_doUnit_275 : decode cX12_doUnit 275 = .ok (.iadd, 1) := by decide +kernel
theorem dX12_doUnit_276 : decode cX12_doUnit 276 = .ok (.invokevirtual 288, 3) := by decide +kernel
theorem dX12_doUnit_279 : decode cX12_doUnit 279 = .ok (.imul, 1) := by decide +kernel
theorem dX12_doUnit_280 : decode cX12_doUnit 280 = .ok (.invokevirtual 291, 3) := by decide +kernel
theorem dX12_doUnit_283 : decode cX12_doUnit 283 = .ok (.aload_n 0, 1) := by decide +kernel
theorem dX12_doUnit_284 : decode cX12_doUnit 284 = .ok (.iconst 0, 1) := by decide +kernel
theorem dX12_doUnit_285 : decode cX12_doUnit 285 = .ok (.iload_n 1, 1) := by decide +kernel
theorem dX12_doUnit_286 : decode cX12_doUnit 286 = .ok (.iconst 1, 1) := by decide +kernel
theorem dX12_doUnit_287 : decode cX12_doUnit 287 = .ok (.iadd, 1) := by decide +kernel
theorem dX12_doUnit_288 : decode cX12_doUnit 288 = .ok (.iload_n 2, 1) := by decide +kernel
theorem dX12_doUnit_289 : decode cX12_doUnit 289 = .ok (.iconst 1, 1) := by decide +kernel
theorem dX12_doUnit_290 : decode cX12_doUnit 290 = .ok (.iadd, 1) := by decide +kernel
theorem dX12_doUnit_291 : decode cX12_doUnit 291 = .ok (.iload 6, 2) := by decide +kernel
theorem dX12_doUnit_293 : decode cX12_doUnit 293 = .ok (.aload_n 0, 1) := by decide +kernel
theorem dX12_doUnit_294 : decode cX12_doUnit 294 = .ok (.getfield 205, 3) := by decide +kernel
theorem dX12_doUnit_297 : decode cX12_doUnit 297 = .ok (.invokevirtual 274, 3) := by decide +kernel
theorem dX12_doUnit_300 : decode cX12_doUnit 300 = .ok (.goto 67, 3) := by decide +kernel
theorem dX12_doUnit_303 : decode cX12_doUnit 303 = .ok (.aload_n 0, 1) := by decide +kernel
theorem dX12_doUnit_304 : decode cX12_doUnit 304 = .ok (.iload 7, 2) := by decide +kernel
theorem dX12_doUnit_306 : decode cX12_doUnit 306 = .ok (.iconst 2, 1) := by decide +kernel
theorem dX12_doUnit_307 : decode cX12_doUnit 307 = .ok (.aload_n 0, 1) := by decide +kernel
theorem dX12_doUnit_308 : decode cX12_doUnit 308 = .ok (.iload_n 1, 1) := by decide +kernel
theorem dX12_doUnit_309 : decode cX12_doUnit 309 = .ok (.iconst 1, 1) := by decide +kernel
theorem dX12_doUnit_310 : decode cX12_doUnit 310 = .ok (.iadd, 1) := by decide +kernel
theorem dX12_doUnit_311 : decode cX12_doUnit 311 = .ok (.invokevirtual 288, 3) := by decide +kernel
theorem dX12_doUnit_314 : decode cX12_doUnit 314 = .ok (.imul, 1) := by decide +kernel
theorem dX12_doUnit_315 : decode cX12_doUnit 315 = .ok (.invokevirtual 291, 3) := by decide +kernel
theorem dX12_doUnit_318 : decode cX12_doUnit 318 = .ok (.aload_n 0, 1) := by decide +kernel
theorem dX12_doUnit_319 : decode cX12_doUnit 319 = .ok (.iconst 0, 1) := by decide +kernel
theorem dX12_doUnit_320 : decode cX12_doUnit 320 = .ok (.iload_n 1, 1) := by decide +kernel
theorem dX12_doUnit_321 : decode cX12_doUnit 321 = .ok (.iconst 1, 1) := by decide +kernel
theorem dX12_doUnit_322 : decode cX12_doUnit 322 = .ok (.iadd, 1) := by decide +kernel
theorem dX12_doUnit_323 : decode cX12_doUnit 323 = .ok (.iload_n 2, 1) := by decide +kernel
theorem dX12_doUnit_324 : decode cX12_doUnit 324 = .ok (.iload 7, 2) := by decide +kernel
theorem dX12_doUnit_326 : decode cX12_doUnit 326 = .ok (.aload_n 0, 1) := by decide +kernel
theorem dX12_doUnit_327 : decode cX12_doUnit 327 = .ok (.getfield 205, 3) := by decide +kernel
theorem dX12_doUnit_330 : decode cX12_doUnit 330 = .ok (.invokevirtual 274, 3) := by decide +kernel
theorem dX12_doUnit_333 : decode cX12_doUnit 333 = .ok (.goto 34, 3) := by decide +kernel
theorem dX12_doUnit_336 : decode cX12_doUnit 336 = .ok (.aload_n 0, 1) := by decide +kernel
theorem dX12_doUnit_337 : decode cX12_doUnit 337 = .ok (.iconst 0, 1) := by decide +kernel
theorem dX12_doUnit_338 : decode cX12_doUnit 338 = .ok (.iload_n 2, 1) := by decide +kernel
theorem dX12_doUnit_339 : decode cX12_doUnit 339 = .ok (.iload 7, 2) := by decide +kernel
theorem dX12_doUnit_341 : decode cX12_doUnit 341 = .ok (.iconst 1, 1) := by decide +kernel
theorem dX12_doUnit_342 : decode cX12_doUnit 342 = .ok (.iload 6, 2) := by decide +kernel
theorem dX12_doUnit_344 : decode cX12_doUnit 344 = .ok (.iload_n 1, 1) := by decide +kernel
theorem dX12_doUnit_345 : decode cX12_doUnit 345 = .ok (.iconst 1, 1) := by decide +kernel
theorem dX12_doUnit_346 : decode cX12_doUnit 346 = .ok (.iadd, 1) := by decide +kernel
theorem dX12_doUnit_347 : decode cX12_doUnit 347 = .ok (.invokevirtual 298, 3) := by decide +kernel
theorem dX12_doUnit_350 : decode cX12_doUnit 350 = .ok (.goto 17, 3) := by decide +kernel
theorem dX12_doUnit_353 : decode cX12_doUnit 353 = .ok (.aload_n 0, 1) := by decide +kernel
theorem dX12_doUnit_354 : decode cX12_doUnit 354 = .ok (.iconst 1, 1) := by decide +kernel
theorem dX12_doUnit_355 : decode cX12_doUnit 355 = .ok (.iload_n 2, 1) := by decide +kernel
theorem dX12_doUnit_356 : decode cX12_doUnit 356 = .ok (.iload 7, 2) := by decide +kernel
theorem dX12_doUnit_358 : decode cX12_doUnit 358 = .ok (.iconst 0, 1) := by decide +kernel
theorem dX12_doUnit_359 : decode cX12_doUnit 359 = .ok (.iload 6, 2) := by decide +kernel
theorem dX12_doUnit_361 : decode cX12_doUnit 361 = .ok (.iload_n 1, 1) := by decide +kernel
theorem dX12_doUnit_362 : decode cX12_doUnit 362 = .ok (.iconst 1, 1) := by decide +kernel
theorem dX12_doUnit_363 : decode cX12_doUnit 363 = .ok (.iadd, 1) := by decide +kernel
theorem dX12_doUnit_364 : decode cX12_doUnit 364 = .ok (.invokevirtual 298, 3) := by decide +kernel
theorem dX12_doUnit_367 : decode cX12_doUnit 367 = .ok (.return_, 1) := by decide +kernel
theorem dX12_doPair_0 : decode cX12_doPair 0 = .ok (.aload_n 0, 1) := by decide +kernel
theorem dX12_doPair_1 : decode cX12_doPair 1 = .ok (.iload 4, 2) := by decide +kernel
theorem dX12_doPair_3 : decode cX12_doPair 3 = .ok (.invokevirtual 256, 3) := by decide +kernel
theorem dX12_doPair_6 : decode cX12_doPair 6 = .ok (.aload_n 0, 1) := by decide +kernel
theorem dX12_doPair_7 : decode cX12_doPair 7 = .ok (.iload_n 1, 1) := by decide +kernel
theorem dX12_doPair_8 : decode cX12_doPair 8 = .ok (.iload_n 2, 1) := by decide +kernel
theorem dX12_doPair_9 : decode cX12_doPair 9 = .ok (.iload_n 3, 1) := by decide +kernel
theorem dX12_doPair_10 : decode cX12_doPair 10 = .ok (.invokevirtual 262, 3) := by decide +kernel
theorem dX12_doPair_13 : decode cX12_doPair 13 = .ok (.aload_n 0, 1) := by decide +kernel
theorem dX12_doPair_14 : decode cX12_doPair 14 = .ok (.getfield 193, 3) := by decide +kernel
theorem dX12_doPair_17 : decode cX12_doPair 17 = .ok (.bipush 15, 2) := by decide +kernel
theorem dX12_doPair_19 : decode cX12_doPair 19 = .ok (.if_icmp .ne 11, 3) := by decide +kernel
theorem dX12_doPair_22 : decode cX12_doPair 22 = .ok (.aload_n 0, 1) := by decide +kernel
theorem dX12_doPair_23 : decode cX12_doPair 23 = .ok (.iload_n 1, 1) := by decide +kernel
theorem dX12_doPair_24 : decode cX12_doPair 24 = .ok (.iload_n 2, 1) := by decide +kernel
theorem dX12_doPair_25 : decode cX12_doPair 25 = .ok (.iload_n 3, 1) := by decide +kernel
theorem dX12_doPair_26 : decode cX12_doPair 26 = .ok (.invokevirtual 295, 3) := by decide +kernel
theorem dX12_doPair_29 : decode cX12_doPair 29 = .ok (.return_, 1) := by decide +kernel
theorem dX12_doPair_30 : decode cX12_doPair 30 = .ok (.aload_n 0, 1) := by decide +kernel
theorem dX12_doPair_31 : decode cX12_doPair 31 = .ok (.aload_n 0, 1) := by decide +kernel
theorem dX12_doPair_32 : decode cX12_doPair 32 = .ok (.getfield 193, 3) := by decide +kernel
theorem dX12_doPair_35 : decode cX12_doPair 35 = .ok (.invokevirtual 285, 3) := by decide +kernel
theorem dX12_doPair_38 : decode cX12_doPair 38 = .ok (.aload_n 0, 1) := by decide +kernel
theorem dX12_doPair_39 : decode cX12_doPair 39 = .ok (.getfield 193, 3) := by decide +kernel
theorem dX12_doPair_42 : decode cX12_doPair 42 = .ok (.bipush 13, 2) := by decide +kernel
theorem dX12_doPair_44 : decode cX12_doPair 44 = .ok (.if_icmp .ne 36, 3) := by decide +kernel
theorem dX12_doPair_47 : decode cX12_doPair 47 = .ok (.aload_n 0, 1) := by decide +kernel
theorem dX12_doPair_48 : decode cX12_doPair 48 = .ok (.iload_n 2, 1) := by decide +kernel
theorem dX12_doPair_49 : decode cX12_doPair 49 = .ok (.iconst 3, 1) := by decide +kernel
theorem dX12_doPair_50 : decode cX12_doPair 50 = .ok (.aload_n 0, 1) := by decide +kernel
theorem dX12_doPair_51 : decode cX12_doPair 51 = .ok (.iload_n 1, 1) := by decide +kernel
theorem dX12_doPair_52 : decode cX12_doPair 52 = .ok (.iconst 1, 1) := by decide +kernel
theorem dX12_doPair_53 : decode cX12_doPair 53 = .ok (.iadd, 1) := by decide +kernel
theorem dX12_doPair_54 : decode cX12_doPair 54 = .ok (.invokevirtual 288, 3) := by decide +kernel
theorem dX12_doPair_57 : decode cX12_doPair 57 = .ok (.imul, 1) := by decide +kernel
theorem dX12_doPair_58 : decode cX12_doPair 58 = .ok (.invokevirtual 291, 3) := by decide +kernel
theorem dX12_doPair_61 : decode cX12_doPair 61 = .ok (.aload_n 0, 1) := by decide +kernel
theorem dX12_doPair_62 : decode cX12_doPair 62 = .ok (.iconst 0, 1) := by decide +kernel
theorem dX12_doPair_63 : decode cX12_doPair 63 = .ok (.iload_n 1, 1) := by decide +kernel
theorem dX12_doPair_64 : decode cX12_doPair 64 = .ok (.iconst 1, 1) := by decide +kernel
theorem dX12_doPair_65 : decode cX12_doPair 65 = .ok (.iadd, 1) := by decide +kernel
theorem dX12_doPair_66 : decode cX12_doPair 66 = .ok (.iload_n 2, 1) := by decide +kernel
theorem dX12_doPair_67 : decode cX12_doPair 67 = .ok (.iconst 2, 1) := by decide +kernel
theorem dX12_doPair_68 : decode cX12_doPair 68 = .ok (.iadd, 1) := by decide +kernel
theorem dX12_doPair_69 : decode cX12_doPair 69 = .ok (.iload_n 3, 1) := by decide +kernel
theorem dX12_doPair_70 : decode cX12_doPair 70 = .ok (.aload_n 0, 1) := by decide +kernel
theorem dX12_doPair_71 : decode cX12_doPair 71 = .ok (.getfield 205, 3) := by decide +kernel
theorem dX12_doPair_74 : decode cX12_doPair 74 = .ok (.invokevirtual 274, 3) := by decide +kernel
theorem dX12_doPair_77 : decode cX12_doPair 77 = .ok (.goto 35, 3) := by decide +kernel
theorem dX12_doPair_80 : decode cX12_doPair 80 = .ok (.aload_n 0, 1) := by decide +kernel
theorem dX12_doPair_81 : decode cX12_doPair 81 = .ok (.iload_n 3, 1) := by decide +kernel
theorem dX12_doPair_82 : decode cX12_doPair 82 = .ok (.iconst 2, 1) := by decide +kernel
theorem dX12_doPair_83 : decode cX12_doPair 83 = .ok (.isub, 1) := by decide +kernel
theorem dX12_doPair_84 : decode cX12_doPair 84 = .ok (.iconst 3, 1) := by decide +kernel
theorem dX12_doPair_85 : decode cX12_doPair 85 = .ok (.aload_n 0, 1) := by decide +kernel
theorem dX12_doPair_86 : decode cX12_doPair 86 = .ok (.iload_n 1, 1) := by decide +kernel
theorem dX12_doPair_87 : decode cX12_doPair 87 = .ok (.iconst 1, 1) := by decide +kernel
theorem dX12_doPair_88 : decode cX12_doPair 88 = .ok (.iadd, 1) := by decide +kernel
theorem dX12_doPair_89 : decode cX12_doPair 89 = .ok (.invokevirtual 288, 3) := by decide +kernel
theorem dX12_doPair_92 : decode cX12_doPair 92 = .ok (.imul, 1) := by decide +kernel
theorem dX12_doPair_93 : decode cX12_doPair 93 = .ok (.invokevirtual 291, 3) := by decide +kernel
theorem dX12_doPair_96 : decode cX12_doPair 96 = .ok (.aload_n 0, 1) := by decide +kernel
theorem dX12_doPair_97 : decode cX12_doPair 97 = .ok (.iconst 0, 1) := by decide +kernel
theorem dX12_doPair_98 : decode cX12_doPair 98 = .ok (.iload_n 1, 1) := by decide +kernel
theorem dX12_doPair_99 : decode cX12_doPair 99 = .ok (.iconst 1, 1) := by decide +kernel
theorem dX12_doPair_100 : decode cX12_doPair 100 = .ok (.iadd, 1) := by decide +kernel
theorem dX12_doPair_101 : decode cX12_doPair 101 = .ok (.iload_n 2, 1) := by decide +kernel
theorem dX12_doPair_102 : decode cX12_doPair 102 = .ok (.iload_n 3, 1) := by decide +kernel
theorem dX12_doPair_103 : decode cX12_doPair 103 = .ok (.iconst 2, 1) := by decide +kernel
theorem dX12_doPair_104 : decode cX12_doPair 104 = .ok (.isub, 1) := by decide +kernel
theorem dX12_doPair_105 : decode cX12_doPair 105 = .ok (.aload_n 0, 1) := by decide +kernel
theorem dX12_doPair_106 : decode cX12_doPair 106 = .ok (.getfield 205, 3) := by decide +kernel
theorem dX12_doPair_109 : decode cX12_doPair 109 = .ok (.invokevirtual 274, 3) := by decide +kernel
theorem dX12_doPair_112 : decode cX12_doPair 112 = .ok (.return_, 1) := by decide +kernel
theorem dX12_takeOut_0 : decode cX12_takeOut 0 = .ok (.aload_n 0, 1) := by decide +kernel
theorem dX12_takeOut_1 : decode cX12_takeOut 1 = .ok (.getfield 78, 3) := by decide +kernel
theorem dX12_takeOut_4 : decode cX12_takeOut 4 = .ok (.aload_n 0, 1) := by decide +kernel
theorem dX12_takeOut_5 : decode cX12_takeOut 5 = .ok (.getfield 271, 3) := by decide +kernel
theorem dX12_takeOut_8 : decode cX12_takeOut 8 = .ok (.iconst 0, 1) := by decide +kernel
theorem dX12_takeOut_9 : decode cX12_takeOut 9 = .ok (.iastore, 1) := by decide +kernel
theorem dX12_takeOut_10 : decode cX12_takeOut 10 = .ok (.aload_n 0, 1) := by decide +kernel
theorem dX12_takeOut_11 : decode cX12_takeOut 11 = .ok (.getfield 81, 3) := by decide +kernel
theorem dX12_takeOut_14 : decode cX12_takeOut 14 = .ok (.aload_n 0, 1) := by decide +kernel
theorem dX12_takeOut_15 : decode cX12_takeOut 15 = .ok (.getfield 271, 3) := by decide +kernel
theorem dX12_takeOut_18 : decode cX12_takeOut 18 = .ok (.iconst 0, 1) := by decide +kernel
theorem dX12_takeOut_19 : decode cX12_takeOut 19 = .ok (.iastore, 1) := by decide +kernel
theorem dX12_takeOut_20 : decode cX12_takeOut 20 = .ok (.iconst 0, 1) := by decide +kernel
theorem dX12_takeOut_21 : decode cX12_takeOut 21 = .ok (.istore_n 2, 1) := by decide +kernel
theorem dX12_takeOut_22 : decode cX12_takeOut 22 = .ok (.iload_n 2, 1) := by decide +kernel
theorem dX12_takeOut_23 : decode cX12_takeOut 23 = .ok (.bipush 24, 2) := by decide +kernel
theorem dX12_takeOut_25 : decode cX12_takeOut 25 = .ok (.if_icmp .ge 15, 3) := by decide +kernel
theorem dX12_takeOut_28 : decode cX12_takeOut 28 = .ok (.aload_n 0, 1) := by decide +kernel
theorem dX12_takeOut_29 : decode cX12_takeOut 29 = .ok (.iload_n 2, 1) := by decide +kernel
theorem dX12_takeOut_30 : decode cX12_takeOut 30 = .ok (.iconst 0, 1) := by decide +kernel
theorem dX12_takeOut_31 : decode cX12_takeOut 31 = .ok (.invokevirtual 291, 3) := by decide +kernel
theorem dX12_takeOut_34 : decode cX12_takeOut 34 = .ok (.iinc 2 1, 3) := by decide +kernel
theorem dX12_takeOut_37 : decode cX12_takeOut 37 = .ok (.goto (-15), 3) := by decide +kernel
theorem dX12_takeOut_40 : decode cX12_takeOut 40 = .ok (.aload_n 0, 1) := by decide +kernel
theorem dX12_takeOut_41 : decode cX12_takeOut 41 = .ok (.iconst 0, 1) := by decide +kernel
theorem dX12_takeOut_42 : decode cX12_takeOut 42 = .ok (.putfield 268, 3) := by decide +kernel
theorem dX12_takeOut_45 : decode cX12_takeOut 45 = .ok (.aload_n 0, 1) := by decide +kernel
theorem dX12_takeOut_46 : decode cX12_takeOut 46 = .ok (.iconst 3, 1) := by decide +kernel
theorem dX12_takeOut_47 : decode cX12_takeOut 47 = .ok (.iconst 0, 1) := by decide +kernel
theorem dX12_takeOut_48 : decode cX12_takeOut 48 = .ok (.iconst 0, 1) := by decide +kernel
theorem dX12_takeOut_49 : decode cX12_takeOut 49 = .ok (.iconst 0, 1) := by decide +kernel
theorem dX12_takeOut_50 : decode cX12_takeOut 50 = .ok (.iload_n 1, 1) := by decide +kernel
theorem dX12_takeOut_51 : decode cX12_takeOut 51 = .ok (.invokevirtual 274, 3) := by decide +kernel
theorem dX12_takeOut_54 : decode cX12_takeOut 54 = .ok (.aload_n 0, 1) := by decide +kernel
theorem dX12_takeOut_55 : decode cX12_takeOut 55 = .ok (.getfield 268, 3) := by decide +kernel
theorem dX12_takeOut_58 : decode cX12_takeOut 58 = .ok (.ifCond .le 154, 3) := by decide +kernel
theorem dX12_takeOut_61 : decode cX12_takeOut 61 = .ok (.aload_n 0, 1) := by decide +kernel
theorem dX12_takeOut_62 : decode cX12_takeOut 62 = .ok (.dup, 1) := by decide +kernel
theorem dX12_takeOut_63 : decode cX12_takeOut 63 = .ok (.getfield 268, 3) := by decide +kernel
theorem dX12_takeOut_66 : decode cX12_takeOut 66 = .ok (.iconst 1, 1) := by decide +kernel
theorem dX12_takeOut_67 : decode cX12_takeOut 67 = .ok (.isub, 1) := by decide +kernel
theorem dX12_takeOut_68 : decode cX12_takeOut 68 = .ok (.putfield 268, 3) := by decide +kernel
theorem dX12_takeOut_71 : decode cX12_takeOut 71 = .ok (.aload_n 0, 1) := by decide +kernel
theorem dX12_takeOut_72 : decode cX12_takeOut 72 = .ok (.getfield 59, 3) := by decide +kernel
theorem dX12_takeOut_75 : decode cX12_takeOut 75 = .ok (.aload_n 0, 1) := by decide +kernel
theorem dX12_takeOut_76 : decode cX12_takeOut 76 = .ok (.getfield 268, 3) := by decide +kernel
theorem dX12_takeOut_79 : decode cX12_takeOut 79 = .ok (.iaload, 1) := by decide +kernel
theorem dX12_takeOut_80 : decode cX12_takeOut 80 = .ok (.istore_n 2, 1) := by decide +kernel
theorem dX12_takeOut_81 : decode cX12_takeOut 81 = .ok (.aload_n 0, 1) := by decide +kernel
theorem dX12_takeOut_82 : decode cX12_takeOut 82 = .ok (.getfield 62, 3) := by decide +kernel
theorem dX12_takeOut_85 : decode cX12_takeOut 85 = .ok (.aload_n 0, 1) := by decide +kernel
theorem dX12_takeOut_86 : decode cX12_takeOut 86 = .ok (.getfield 268, 3) := by decide +kernel
theorem dX12_takeOut_89 : decode cX12_takeOut 89 = .ok (.iaload, 1) := by decide +kernel
theorem dX12_takeOut_90 : decode cX12_takeOut 90 = .ok (.istore_n 3, 1) := by decide +kernel
theorem dX12_takeOut_91 : decode cX12_takeOut 91 = .ok (.aload_n 0, 1) := by decide +kernel
theorem dX12_takeOut_92 : decode cX12_takeOut 92 = .ok (.getfield 65, 3) := by decide +kernel
theorem dX12_takeOut_95 : decode cX12_takeOut 95 = .ok (.aload_n 0, 1) := by decide +kernel
theorem dX12_takeOut_96 : decode cX12_takeOut 96 = .ok (.getfield 268, 3) := by decide +kernel
theorem dX12_takeOut_99 : decode cX12_takeOut 99 = .ok (.iaload, 1) := by decide +kernel
theorem dX12_takeOut_100 : decode cX12_takeOut 100 = .ok (.istore 4, 2) := by decide +kernel
theorem dX12_takeOut_102 : decode cX12_takeOut 102 = .ok (.aload_n 0, 1) := by decide +kernel
theorem dX12_takeOut_103 : decode cX12_takeOut 103 = .ok (.getfield 68, 3) := by decide +kernel
theorem dX12_takeOut_106 : decode cX12_takeOut 106 = .ok (.aload_n 0, 1) := by decide +kernel
theorem dX12_takeOut_107 : decode cX12_takeOut 107 = .ok (.getfield 268, 3) := by decide +kernel
theorem dX12_takeOut_110 : decode cX12_takeOut 110 = .ok (.iaload, 1) := by decide +kernel
theorem dX12_takeOut_111 : decode cX12_takeOut 111 = .ok (.istore 5, 2) := by decide +kernel
theorem dX12_takeOut_113 : decode cX12_takeOut 113 = .ok (.iload_n 2, 1) := by decide +kernel
theorem dX12_takeOut_114 : decode cX12_takeOut 114 = .ok (.iconst 3, 1) := by decide +kernel
theorem dX12_takeOut_115 : decode cX12_takeOut 115 = .ok (.if_icmp .ne 21, 3) := by decide +kernel
theorem dX12_takeOut_118 : decode cX12_takeOut 118 = .ok (.aload_n 0, 1) := by decide +kernel
theorem dX12_takeOut_119 : decode cX12_takeOut 119 = .ok (.iload 4, 2) := by decide +kernel
theorem dX12_takeOut_121 : decode cX12_takeOut 121 = .ok (.aload_n 0, 1) := by decide +kernel
theorem dX12_takeOut_122 : decode cX12_takeOut 122 = .ok (.getfield 71, 3) := by decide +kernel
theorem dX12_takeOut_125 : decode cX12_takeOut 125 = .ok (.aload_n 0, 1) := by decide +kernel
theorem dX12_takeOut_126 : decode cX12_takeOut 126 = .ok (.getfield 268, 3) := by decide +kernel
theorem dX12_takeOut_129 : decode cX12_takeOut 129 = .ok (.iaload, 1) := by decide +kernel
theorem dX12_takeOut_130 : decode cX12_takeOut 130 = .ok (.invokevirtual 302, 3) := by decide +kernel
theorem dX12_takeOut_133 : decode cX12_takeOut 133 = .ok (.goto 76, 3) := by decide +kernel
theorem dX12_takeOut_136 : decode cX12_takeOut 136 = .ok (.iload_n 2, 1) := by decide +kernel
theorem dX12_takeOut_137 : decode cX12_takeOut 137 = .ok (.ifCond .ne 24, 3) := by decide +kernel
theorem dX12_takeOut_140 : decode cX12_takeOut 140 = .ok (.aload_n 0, 1) := by decide +kernel
theorem dX12_takeOut_141 : decode cX12_takeOut 141 = .ok (.iload_n 3, 1) := by decide +kernel
theorem dX12_takeOut_142 : decode cX12_takeOut 142 = .ok (.iload 4, 2) := by decide +kernel
theorem dX12_takeOut_144 : decode cX12_takeOut 144 = .ok (.iload 5, 2) := by decide +kernel
theorem dX12_takeOut_146 : decode cX12_takeOut 146 = .ok (.aload_n 0, 1) := by decide +kernel
theorem dX12_takeOut_147 : decode cX12_takeOut 147 = .ok (.getfield 71, 3) := by decide +kernel
theorem dX12_takeOut_150 : decode cX12_takeOut 150 = .ok (.aload_n 0, 1) := by decide +kernel
theorem dX12_takeOut_151 : decode cX12_takeOut 151 = .ok (.getfield 268, 3) := by decide +kernel
theorem dX12_takeOut_154 : decode cX12_takeOut 154 = .ok (.iaload, 1) := by decide +kernel
theorem dX12_takeOut_155 : decode cX12_takeOut 155 = .ok (.invokevirtual 305, 3) := by decide +kernel
theorem dX12_takeOut_158 : decode cX12_takeOut 158 = .ok (.goto 51, 3) := by decide +kernel
theorem dX12_takeOut_161 : decode cX12_takeOut 161 = .ok (.iload_n 2, 1) := by decide +kernel
theorem dX12_takeOut_162 : decode cX12_takeOut 162 = .ok (.iconst 1, 1) := by decide +kernel
theorem dX12_takeOut_163 : decode cX12_takeOut 163 = .ok (.if_icmp .ne 24, 3) := by decide +kernel
theorem dX12_takeOut_166 : decode cX12_takeOut 166 = .ok (.aload_n 0, 1) := by decide +kernel
theorem dX12_takeOut_167 : decode cX12_takeOut 167 = .ok (.iload_n 3, 1) := by decide +kernel
theorem dX12_takeOut_168 : decode cX12_takeOut 168 = .ok (.iload 4, 2) := by decide +kernel
theorem dX12_takeOut_170 : decode cX12_takeOut 170 = .ok (.iload 5, 2) := by decide +kernel
theorem dX12_takeOut_172 : decode cX12_takeOut 172 = .ok (.aload_n 0, 1) := by decide +kernel
theorem dX12_takeOut_173 : decode cX12_takeOut 173 = .ok (.getfield 71, 3) := by decide +kernel
theorem dX12_takeOut_176 : decode cX12_takeOut 176 = .ok (.aload_n 0, 1) := by decide +kernel
theorem dX12_takeOut_177 : decode cX12_takeOut 177 = .ok (.getfield 268, 3) := by decide +kernel
theorem dX12_takeOut_180 : decode cX12_takeOut 180 = .ok (.iaload, 1) := by decide +kernel
theorem dX12_takeOut_181 : decode cX12_takeOut 181 = .ok (.invokevirtual 308, 3) := by decide +kernel
theorem dX12_takeOut_184 : decode cX12_takeOut 184 = .ok (.goto 25, 3) := by decide +kernel
theorem dX12_takeOut_187 : decode cX12_takeOut 187 = .ok (.iload_n 2, 1) := by decide +kernel
theorem dX12_takeOut_188 : decode cX12_takeOut 188 = .ok (.iconst 2, 1) := by decide +kernel
theorem dX12_takeOut_189 : decode cX12_takeOut 189 = .ok (.if_icmp .ne 15, 3) := by decide +kernel
theorem dX12_takeOut_192 : decode cX12_takeOut 192 = .ok (.aload_n 0, 1) := by decide +kernel
theorem dX12_takeOut_193 : decode cX12_takeOut 193 = .ok (.iload_n 3, 1) := by decide +kernel
theorem dX12_takeOut_194 : decode cX12_takeOut 194 = .ok (.iload 4, 2) := by decide +kernel
theorem dX12_takeOut_196 : decode cX12_takeOut 196 = .ok (.iload 5, 2) := by decide +kernel
theorem dX12_takeOut_198 : decode cX12_takeOut 198 = .ok (.invokevirtual 311, 3) := by decide +kernel
theorem dX12_takeOut_201 : decode cX12_takeOut 201 = .ok (.goto 8, 3) := by decide +kernel
theorem dX12_takeOut_204 : decode cX12_takeOut 204 = .ok (.aload_n 0, 1) := by decide +kernel
theorem dX12_takeOut_205 : decode cX12_takeOut 205 = .ok (.iload_n 3, 1) := by decide +kernel
theorem dX12_takeOut_206 : decode cX12_takeOut 206 = .ok (.invokevirtual 285, 3) := by decide +kernel
theorem dX12_takeOut_209 : decode cX12_takeOut 209 = .ok (.goto (-155), 3) := by decide +kernel
theorem dX12_takeOut_212 : decode cX12_takeOut 212 = .ok (.return_, 1) := by decide +kernel
theorem dX12_isBefore_0 : decode cX12_isBefore 0 = .ok (.aload_n 0, 1) := by decide +kernel
theorem dX12_isBefore_1 : decode cX12_isBefore 1 = .ok (.getfield 81, 3) := by decide +kernel
theorem dX12_isBefore_4 : decode cX12_isBefore 4 = .ok (.iload_n 1, 1) := by decide +kernel
theorem dX12_isBefore_5 : decode cX12_isBefore 5 = .ok (.iaload, 1) := by decide +kernel
theorem dX12_isBefore_6 : decode cX12_isBefore 6 = .ok (.aload_n 0, 1) := by decide +kernel
theorem dX12_isBefore_7 : decode cX12_isBefore 7 = .ok (.getfield 81, 3) := by decide +kernel
theorem dX12_isBefore_10 : decode cX12_isBefore 10 = .ok (.iload_n 2, 1) := by decide +kernel
theorem dX12_isBefore_11 : decode cX12_isBefore 11 = .ok (.iaload, 1) := by decide +kernel
theorem dX12_isBefore_12 : decode cX12_isBefore 12 = .ok (.if_icmp .eq 24, 3) := by decide +kernel
theorem dX12_isBefore_15 : decode cX12_isBefore 15 = .ok (.aload_n 0, 1) := by decide +kernel
theorem dX12_isBefore_16 : decode cX12_isBefore 16 = .ok (.getfield 81, 3) := by decide +kernel
theorem dX12_isBefore_19 : decode cX12_isBefore 19 = .ok (.iload_n 1, 1) := by decide +kernel
theorem dX12_isBefore_20 : decode cX12_isBefore 20 = .ok (.iaload, 1) := by decide +kernel
theorem dX12_isBefore_21 : decode cX12_isBefore 21 = .ok (.aload_n 0, 1) := by decide +kernel
theorem dX12_isBefore_22 : decode cX12_isBefore 22 = .ok (.getfield 81, 3) := by decide +kernel
theorem dX12_isBefore_25 : decode cX12_isBefore 25 = .ok (.iload_n 2, 1) := by decide +kernel
theorem dX12_isBefore_26 : decode cX12_isBefore 26 = .ok (.iaload, 1) := by decide +kernel
theorem dX12_isBefore_27 : decode cX12_isBefore 27 = .ok (.if_icmp .ge 7, 3) := by decide +kernel
theorem dX12_isBefore_30 : decode cX12_isBefore 30 = .ok (.iconst 1, 1) := by decide +kernel
theorem dX12_isBefore_31 : decode cX12_isBefore 31 = .ok (.goto 4, 3) := by decide +kernel
theorem dX12_isBefore_34 : decode cX12_isBefore 34 = .ok (.iconst 0, 1) := by decide +kernel
theorem dX12_isBefore_35 : decode cX12_isBefore 35 = .ok (.ireturn, 1) := by decide +kernel
theorem dX12_isBefore_36 : decode cX12_isBefore 36 = .ok (.aload_n 0, 1) := by decide +kernel
theorem dX12_isBefore_37 : decode cX12_isBefore 37 = .ok (.getfield 78, 3) := by decide +kernel
theorem dX12_isBefore_40 : decode cX12_isBefore 40 = .ok (.iload_n 1, 1) := by decide +kernel
theorem dX12_isBefore_41 : decode cX12_isBefore 41 = .ok (.iaload, 1) := by decide +kernel
theorem dX12_isBefore_42 : decode cX12_isBefore 42 = .ok (.aload_n 0, 1) := by decide +kernel
theorem dX12_isBefore_43 : decode cX12_isBefore 43 = .ok (.getfield 78, 3) := by decide +kernel
theorem dX12_isBefore_46 : decode cX12_isBefore 46 = .ok (.iload_n 2, 1) := by decide +kernel
theorem dX12_isBefore_47 : decode cX12_isBefore 47 = .ok (.iaload, 1) := by decide +kernel
theorem dX12_isBefore_48 : decode cX12_isBefore 48 = .ok (.if_icmp .ge 12, 3) := by decide +kernel
theorem dX12_isBefore_51 : decode cX12_isBefore 51 = .ok (.aload_n 0, 1) := by decide +kernel
theorem dX12_isBefore_52 : decode cX12_isBefore 52 = .ok (.getfield 78, 3) := by decide +kernel
theorem dX12_isBefore_55 : decode cX12_isBefore 55 = .ok (.iload_n 1, 1) := by decide +kernel
theorem dX12_isBefore_56 : decode cX12_isBefore 56 = .ok (.iaload, 1) := by decide +kernel
theorem dX12_isBefore_57 : decode cX12_isBefore 57 = .ok (.goto 9, 3) := by decide +kernel
theorem dX12_isBefore_60 : decode cX12_isBefore 60 = .ok (.aload_n 0, 1) := by decide +kernel
theorem dX12_isBefore_61 : decode cX12_isBefore 61 = .ok (.getfield 78, 3) := by decide +kernel
theorem dX12_isBefore_64 : decode cX12_isBefore 64 = .ok (.iload_n 2, 1) := by decide +kernel
theorem dX12_isBefore_65 : decode cX12_isBefore 65 = .ok (.iaload, 1) := by decide +kernel
theorem dX12_isBefore_66 : decode cX12_isBefore 66 = .ok (.istore_n 3, 1) := by decide +kernel
theorem dX12_isBefore_67 : decode cX12_isBefore 67 = .ok (.iconst 0, 1) := by decide +kernel
theorem dX12_isBefore_68 : decode cX12_isBefore 68 = .ok (.istore 4, 2) := by decide +kernel
theorem dX12_isBefore_70 : decode cX12_isBefore 70 = .ok (.iload 4, 2) := by decide +kernel
theorem dX12_isBefore_72 : decode cX12_isBefore 72 = .ok (.iload_n 3, 1) := by decide +kernel
theorem dX12_isBefore_73 : decode cX12_isBefore 73 = .ok (.if_icmp .ge 36, 3) := by decide +kernel
theorem dX12_isBefore_76 : decode cX12_isBefore 76 = .ok (.aload_n 0, 1) := by decide +kernel
theorem dX12_isBefore_77 : decode cX12_isBefore 77 = .ok (.getfield 75, 3) := by decide +kernel
theorem dX12_isBefore_80 : decode cX12_isBefore 80 = .ok (.bipush 120, 2) := by decide +kernel
theorem dX12_isBefore_82 : decode cX12_isBefore 82 = .ok (.iload_n 1, 1) := by decide +kernel
theorem dX12_isBefore_83 : decode cX12_isBefore 83 = .ok (.imul, 1) := by decide +kernel
theorem dX12_isBefore_84 : decode cX12_isBefore 84 = .ok (.iload 4, 2) := by decide +kernel
theorem dX12_isBefore_86 : decode cX12_isBefore 86 = .ok (.iadd, 1) := by decide +kernel
theorem dX12_isBefore_87 : decode cX12_isBefore 87 = .ok (.iaload, 1) := by decide +kernel
theorem dX12_isBefore_88 : decode cX12_isBefore 88 = .ok (.aload_n 0, 1) := by decide +kernel
theorem dX12_isBefore_89 : decode cX12_isBefore 89 = .ok (.getfield 75, 3) := by decide +kernel
theorem dX12_isBefore_92 : decode cX12_isBefore 92 = .ok (.bipush 120, 2) := by decide +kernel
theorem dX12_isBefore_94 : decode cX12_isBefore 94 = .ok (.iload_n 2, 1) := by decide +kernel
theorem dX12_isBefore_95 : decode cX12_isBefore 95 = .ok (.imul, 1) := by decide +kernel
theorem dX12_isBefore_96 : decode cX12_isBefore 96 = .ok (.iload 4, 2) := by decide +kernel
theorem dX12_isBefore_98 : decode cX12_isBefore 98 = .ok (.iadd, 1) := by decide +kernel
theorem dX12_isBefore_99 : decode cX12_isBefore 99 = .ok (.iaload, 1) := by decide +kernel
theorem dX12_isBefore_100 : decode cX12_isBefore 100 = .ok (.if_icmp .ne 9, 3) := by decide +kernel
theorem dX12_isBefore_103 : decode cX12_isBefore 103 = .ok (.iinc 4 1, 3) := by decide +kernel
theorem dX12_isBefore_106 : decode cX12_isBefore 106 = .ok (.goto (-36), 3) := by decide +kernel
theorem dX12_isBefore_109 : decode cX12_isBefore 109 = .ok (.iload 4, 2) := by decide +kernel
theorem dX12_isBefore_111 : decode cX12_isBefore 111 = .ok (.iload_n 3, 1) := by decide +kernel
theorem dX12_isBefore_112 : decode cX12_isBefore 112 = .ok (.if_icmp .ge 38, 3) := by decide +kernel
theorem dX12_isBefore_115 : decode cX12_isBefore 115 = .ok (.aload_n 0, 1) := by decide +kernel
theorem dX12_isBefore_116 : decode cX12_isBefore 116 = .ok (.getfield 75, 3) := by decide +kernel
theorem dX12_isBefore_119 : decode cX12_isBefore 119 = .ok (.bipush 120, 2) := by decide +kernel
theorem dX12_isBefore_121 : decode cX12_isBefore 121 = .ok (.iload_n 1, 1) := by decide +kernel
theorem dX12_isBefore_122 : decode cX12_isBefore 122 = .ok (.imul, 1) := by decide +kernel
theorem dX12_isBefore_123 : decode cX12_isBefore 123 = .ok (.iload 4, 2) := by decide +kernel
theorem dX12_isBefore_125 : decode cX12_isBefore 125 = .ok (.iadd, 1) := by decide +kernel
theorem dX12_isBefore_126 : decode cX12_isBefore 126 = .ok (.iaload, 1) := by decide +kernel
theorem dX12_isBefore_127 : decode cX12_isBefore 127 = .ok (.aload_n 0, 1) := by decide +kernel
theorem dX12_isBefore_128 : decode cX12_isBefore 128 = .ok (.getfield 75, 3) := by decide +kernel
theorem dX12_isBefore_131 : decode cX12_isBefore 131 = .ok (.bipush 120, 2) := by decide +kernel
theorem dX12_isBefore_133 : decode cX12_isBefore 133 = .ok (.iload_n 2, 1) := by decide +kernel
theorem dX12_isBefore_134 : decode cX12_isBefore 134 = .ok (.imul, 1) := by decide +kernel
theorem dX12_isBefore_135 : decode cX12_isBefore 135 = .ok (.iload 4, 2) := by decide +kernel
theorem dX12_isBefore_137 : decode cX12_isBefore 137 = .ok (.iadd, 1) := by decide +kernel
theorem dX12_isBefore_138 : decode cX12_isBefore 138 = .ok (.iaload, 1) := by decide +kernel
theorem dX12_isBefore_139 : decode cX12_isBefore 139 = .ok (.if_icmp .ge 7, 3) := by decide +kernel
theorem dX12_isBefore_142 : decode cX12_isBefore 142 = .ok (.iconst 1, 1) := by decide +kernel
theorem dX12_isBefore_143 : decode cX12_isBefore 143 = .ok (.goto 27, 3) := by decide +kernel
theorem dX12_isBefore_146 : decode cX12_isBefore 146 = .ok (.iconst 0, 1) := by decide +kernel
theorem dX12_isBefore_147 : decode cX12_isBefore 147 = .ok (.goto 23, 3) := by decide +kernel
theorem dX12_isBefore_150 : decode cX12_isBefore 150 = .ok (.aload_n 0, 1) := by decide +kernel
theorem dX12_isBefore_151 : decode cX12_isBefore 151 = .ok (.getfield 78, 3) := by decide +kernel
theorem dX12_isBefore_154 : decode cX12_isBefore 154 = .ok (.iload_n 1, 1) := by decide +kernel
theorem dX12_isBefore_155 : decode cX12_isBefore 155 = .ok (.iaload, 1) := by decide +kernel
theorem dX12_isBefore_156 : decode cX12_isBefore 156 = .ok (.aload_n 0, 1) := by decide +kernel
theorem dX12_isBefore_157 : decode cX12_isBefore 157 = .ok (.getfield 78, 3) := by decide +kernel
theorem dX12_isBefore_160 : decode cX12_isBefore 160 = .ok (.iload_n 2, 1) := by decide +kernel
theorem dX12_isBefore_161 : decode cX12_isBefore 161 = .ok (.iaload, 1) := by decide +kernel
theorem dX12_isBefore_162 : decode cX12_isBefore 162 = .ok (.if_icmp .ge 7, 3) := by decide +kernel
theorem dX12_isBefore_165 : decode cX12_isBefore 165 = .ok (.iconst 1, 1) := by decide +kernel
theorem dX12_isBefore_166 : decode cX12_isBefore 166 = .ok (.goto 4, 3) := by decide +kernel
theorem dX12_isBefore_169 : decode cX12_isBefore 169 = .ok (.iconst 0, 1) := by decide +kernel
theorem dX12_isBefore_170 : decode cX12_isBefore 170 = .ok (.ireturn, 1) := by decide +kernel
theorem dX12_readAll_0 : decode cX12_readAll 0 = .ok (.aload_n 0, 1) := by decide +kernel
theorem dX12_readAll_1 : decode cX12_readAll 1 = .ok (.invokevirtual 314, 3) := by decide +kernel
theorem dX12_readAll_4 : decode cX12_readAll 4 = .ok (.aload_n 0, 1) := by decide +kernel
theorem dX12_readAll_5 : decode cX12_readAll 5 = .ok (.aload_n 0, 1) := by decide +kernel
theorem dX12_readAll_6 : decode cX12_readAll 6 = .ok (.getfield 56, 3) := by decide +kernel
theorem dX12_readAll_9 : decode cX12_readAll 9 = .ok (.iconst 0, 1) := by decide +kernel
theorem dX12_readAll_10 : decode cX12_readAll 10 = .ok (.iaload, 1) := by decide +kernel
theorem dX12_readAll_11 : decode cX12_readAll 11 = .ok (.putfield 317, 3) := by decide +kernel
theorem dX12_readAll_14 : decode cX12_readAll 14 = .ok (.iconst 0, 1) := by decide +kernel
theorem dX12_readAll_15 : decode cX12_readAll 15 = .ok (.istore_n 1, 1) := by decide +kernel
theorem dX12_readAll_16 : decode cX12_readAll 16 = .ok (.iload_n 1, 1) := by decide +kernel
theorem dX12_readAll_17 : decode cX12_readAll 17 = .ok (.aload_n 0, 1) := by decide +kernel
theorem dX12_readAll_18 : decode cX12_readAll 18 = .ok (.getfield 317, 3) := by decide +kernel
theorem dX12_readAll_21 : decode cX12_readAll 21 = .ok (.if_icmp .ge 78, 3) := by decide +kernel
theorem dX12_readAll_24 : decode cX12_readAll 24 = .ok (.aload_n 0, 1) := by decide +kernel
theorem dX12_readAll_25 : decode cX12_readAll 25 = .ok (.getfield 317, 3) := by decide +kernel
theorem dX12_readAll_28 : decode cX12_readAll 28 = .ok (.sipush 1000, 3) := by decide +kernel
theorem dX12_readAll_31 : decode cX12_readAll 31 = .ok (.if_icmp .gt 68, 3) := by decide +kernel
theorem dX12_readAll_34 : decode cX12_readAll 34 = .ok (.aload_n 0, 1) := by decide +kernel
theorem dX12_readAll_35 : decode cX12_readAll 35 = .ok (.iload_n 1, 1) := by decide +kernel
theorem dX12_readAll_36 : decode cX12_readAll 36 = .ok (.putfield 271, 3) := by decide +kernel
theorem dX12_readAll_39 : decode cX12_readAll 39 = .ok (.aload_n 0, 1) := by decide +kernel
theorem dX12_readAll_40 : decode cX12_readAll 40 = .ok (.iload_n 1, 1) := by decide +kernel
theorem dX12_readAll_41 : decode cX12_readAll 41 = .ok (.invokevirtual 320, 3) := by decide +kernel
theorem dX12_readAll_44 : decode cX12_readAll 44 = .ok (.iload_n 1, 1) := by decide +kernel
theorem dX12_readAll_45 : decode cX12_readAll 45 = .ok (.istore_n 2, 1) := by decide +kernel
theorem dX12_readAll_46 : decode cX12_readAll 46 = .ok (.iload_n 2, 1) := by decide +kernel
theorem dX12_readAll_47 : decode cX12_readAll 47 = .ok (.ifCond .le 39, 3) := by decide +kernel
theorem dX12_readAll_50 : decode cX12_readAll 50 = .ok (.aload_n 0, 1) := by decide +kernel
theorem dX12_readAll_51 : decode cX12_readAll 51 = .ok (.iload_n 1, 1) := by decide +kernel
theorem dX12_readAll_52 : decode cX12_readAll 52 = .ok (.aload_n 0, 1) := by decide +kernel
theorem dX12_readAll_53 : decode cX12_readAll 53 = .ok (.getfield 87, 3) := by decide +kernel
theorem dX12_readAll_56 : decode cX12_readAll 56 = .ok (.iload_n 2, 1) := by decide +kernel
theorem dX12_readAll_57 : decode cX12_readAll 57 = .ok (.iconst 1, 1) := by decide +kernel
theorem dX12_readAll_58 : decode cX12_readAll 58 = .ok (.isub, 1) := by decide +kernel
theorem dX12_readAll_59 : decode cX12_readAll 59 = .ok (.iaload, 1) := by decide +kernel
theorem dX12_readAll_60 : decode cX12_readAll 60 = .ok (.invokevirtual 323, 3) := by decide +kernel
theorem dX12_readAll_63 : decode cX12_readAll 63 = .ok (.ifCond .eq 23, 3) := by decide +kernel
theorem dX12_readAll_66 : decode cX12_readAll 66 = .ok (.aload_n 0, 1) := by decide +kernel
theorem dX12_readAll_67 : decode cX12_readAll 67 = .ok (.getfield 87, 3) := by decide +kernel
theorem dX12_readAll_70 : decode cX12_readAll 70 = .ok (.iload_n 2, 1) := by decide +kernel
theorem dX12_readAll_71 : decode cX12_readAll 71 = .ok (.aload_n 0, 1) := by decide +kernel
theorem dX12_readAll_72 : decode cX12_readAll 72 = .ok (.getfield 87, 3) := by decide +kernel
theorem dX12_readAll_75 : decode cX12_readAll 75 = .ok (.iload_n 2, 1) := by decide +kernel
theorem dX12_readAll_76 : decode cX12_readAll 76 = .ok (.iconst 1, 1) := by decide +kernel
theorem dX12_readAll_77 : decode cX12_readAll 77 = .ok (.isub, 1) := by decide +kernel
theorem dX12_readAll_78 : decode cX12_readAll 78 = .ok (.iaload, 1) := by decide +kernel
theorem dX12_readAll_79 : decode cX12_readAll 79 = .ok (.iastore, 1) := by decide +kernel
theorem dX12_readAll_80 : decode cX12_readAll 80 = .ok (.iinc 2 (-1), 3) := by decide +kernel
theorem dX12_readAll_83 : decode cX12_readAll 83 = .ok (.goto (-37), 3) := by decide +kernel
theorem dX12_readAll_86 : decode cX12_readAll 86 = .ok (.aload_n 0, 1) := by decide +kernel
theorem dX12_readAll_87 : decode cX12_readAll 87 = .ok (.getfield 87, 3) := by decide +kernel
theorem dX12_readAll_90 : decode cX12_readAll 90 = .ok (.iload_n 2, 1) := by decide +kernel
theorem dX12_readAll_91 : decode cX12_readAll 91 = .ok (.iload_n 1, 1) := by decide +kernel
theorem dX12_readAll_92 : decode cX12_readAll 92 = .ok (.iastore, 1) := by decide +kernel
theorem dX12_readAll_93 : decode cX12_readAll 93 = .ok (.iinc 1 1, 3) := by decide +kernel
theorem dX12_readAll_96 : decode cX12_readAll 96 = .ok (.goto (-80), 3) := by decide +kernel
theorem dX12_readAll_99 : decode cX12_readAll 99 = .ok (.return_, 1) := by decide +kernel
theorem dX12_read_0 : decode cX12_read 0 = .ok (.aload_n 0, 1) := by decide +kernel
theorem dX12_read_1 : decode cX12_read 1 = .ok (.getfield 112, 3) := by decide +kernel
theorem dX12_read_4 : decode cX12_read 4 = .ok (.iload_n 1, 1) := by decide +kernel
theorem dX12_read_5 : decode cX12_read 5 = .ok (.if_icmp .eq 110, 3) := by decide +kernel
theorem dX12_read_8 : decode cX12_read 8 = .ok (.aload_n 0, 1) := by decide +kernel
theorem dX12_read_9 : decode cX12_read 9 = .ok (.aload_n 0, 1) := by decide +kernel
theorem dX12_read_10 : decode cX12_read 10 = .ok (.getfield 7, 3) := by decide +kernel
theorem dX12_read_13 : decode cX12_read 13 = .ok (.iload_n 1, 1) := by decide +kernel
theorem dX12_read_14 : decode cX12_read 14 = .ok (.iaload, 1) := by decide +kernel
theorem dX12_read_15 : decode cX12_read 15 = .ok (.putfield 222, 3) := by decide +kernel
theorem dX12_read_18 : decode cX12_read 18 = .ok (.aload_n 0, 1) := by decide +kernel
theorem dX12_read_19 : decode cX12_read 19 = .ok (.aload_n 0, 1) := by decide +kernel
theorem dX12_read_20 : decode cX12_read 20 = .ok (.getfield 222, 3) := by decide +kernel
theorem dX12_read_23 : decode cX12_read 23 = .ok (.invokestatic 165, 3) := by decide +kernel
theorem dX12_read_26 : decode cX12_read 26 = .ok (.putfield 250, 3) := by decide +kernel
theorem dX12_read_29 : decode cX12_read 29 = .ok (.aload_n 0, 1) := by decide +kernel
theorem dX12_read_30 : decode cX12_read 30 = .ok (.aload_n 0, 1) := by decide +kernel
theorem dX12_read_31 : decode cX12_read 31 = .ok (.getfield 13, 3) := by decide +kernel
theorem dX12_read_34 : decode cX12_read 34 = .ok (.iload_n 1, 1) := by decide +kernel
theorem dX12_read_35 : decode cX12_read 35 = .ok (.iaload, 1) := by decide +kernel
theorem dX12_read_36 : decode cX12_read 36 = .ok (.putfield 175, 3) := by decide +kernel
theorem dX12_read_39 : decode cX12_read 39 = .ok (.iconst 0, 1) := by decide +kernel
theorem dX12_read_40 : decode cX12_read 40 = .ok (.istore_n 2, 1) := by decide +kernel
theorem dX12_read_41 : decode cX12_read 41 = .ok (.iload_n 2, 1) := by decide +kernel
theorem dX12_read_42 : decode cX12_read 42 = .ok (.aload_n 0, 1) := by decide +kernel
theorem dX12_read_43 : decode cX12_read 43 = .ok (.getfield 175, 3) := by decide +kernel
theorem dX12_read_46 : decode cX12_read 46 = .ok (.if_icmp .ge 60, 3) := by decide +kernel
theorem dX12_read_49 : decode cX12_read 49 = .ok (.aload_n 0, 1) := by decide +kernel
theorem dX12_read_50 : decode cX12_read 50 = .ok (.getfield 44, 3) := by decide +kernel
theorem dX12_read_53 : decode cX12_read 53 = .ok (.iload_n 2, 1) := by decide +kernel
theorem dX12_read_54 : decode cX12_read 54 = .ok (.aload_n 0, 1) := by decide +kernel
theorem dX12_read_55 : decode cX12_read 55 = .ok (.getfield 25, 3) := by decide +kernel
theorem dX12_read_58 : decode cX12_read 58 = .ok (.bipush 24, 2) := by decide +kernel
theorem dX12_read_60 : decode cX12_read 60 = .ok (.iload_n 1, 1) := by decide +kernel
theorem dX12_read_61 : decode cX12_read 61 = .ok (.imul, 1) := by decide +kernel
theorem dX12_read_62 : decode cX12_read 62 = .ok (.iload_n 2, 1) := by decide +kernel
theorem dX12_read_63 : decode cX12_read 63 = .ok (.iadd, 1) := by decide +kernel
theorem dX12_read_64 : decode cX12_read 64 = .ok (.iaload, 1) := by decide +kernel
theorem dX12_read_65 : decode cX12_read 65 = .ok (.iastore, 1) := by decide +kernel
theorem dX12_read_66 : decode cX12_read 66 = .ok (.aload_n 0, 1) := by decide +kernel
theorem dX12_read_67 : decode cX12_read 67 = .ok (.getfield 47, 3) := by decide +kernel
theorem dX12_read_70 : decode cX12_read 70 = .ok (.iload_n 2, 1) := by decide +kernel
theorem dX12_read_71 : decode cX12_read 71 = .ok (.aload_n 0, 1) := by decide +kernel
theorem dX12_read_72 : decode cX12_read 72 = .ok (.getfield 28, 3) := by decide +kernel
theorem dX12_read_75 : decode cX12_read 75 = .ok (.bipush 24, 2) := by decide +kernel
theorem dX12_read_77 : decode cX12_read 77 = .ok (.iload_n 1, 1) := by decide +kernel
theorem dX12_read_78 : decode cX12_read 78 = .ok (.imul, 1) := by decide +kernel
theorem dX12_read_79 : decode cX12_read 79 = .ok (.iload_n 2, 1) := by decide +kernel
theorem dX12_read_80 : decode cX12_read 80 = .ok (.iadd, 1) := by decide +kernel
theorem dX12_read_81 : decode cX12_read 81 = .ok (.iaload, 1) := by decide +kernel
theorem dX12_read_82 : decode cX12_read 82 = .ok (.iastore, 1) := by decide +kernel
theorem dX12_read_83 : decode cX12_read 83 = .ok (.aload_n 0, 1) := by decide +kernel
theorem dX12_read_84 : decode cX12_read 84 = .ok (.getfield 50, 3) := by decide +kernel
theorem dX12_read_87 : decode cX12_read 87 = .ok (.iload_n 2, 1) := by decide +kernel
theorem dX12_read_88 : decode cX12_read 88 = .ok (.aload_n 0, 1) := by decide +kernel
theorem dX12_read_89 : decode cX12_read 89 = .ok (.getfield 34, 3) := by decide +kernel
theorem dX12_read_92 : decode cX12_read 92 = .ok (.bipush 24, 2) := by decide +kernel
theorem dX12_read_94 : decode cX12_read 94 = .ok (.iload_n 1, 1) := by decide +kernel
theorem dX12_read_95 : decode cX12_read 95 = .ok (.imul, 1) := by decide +kernel
theorem dX12_read_96 : decode cX12_read 96 = .ok (.iload_n 2, 1) := by decide +kernel
theorem dX12_read_97 : decode cX12_read 97 = .ok (.iadd, 1) := by decide +kernel
theorem dX12_read_98 : decode cX12_read 98 = .ok (.baload, 1) := by decide +kernel
theorem dX12_read_99 : decode cX12_read 99 = .ok (.bastore, 1) := by decide +kernel
theorem dX12_read_100 : decode cX12_read 100 = .ok (.iinc 2 1, 3) := by decide +kernel
theorem dX12_read_103 : decode cX12_read 103 = .ok (.goto (-62), 3) := by decide +kernel
theorem dX12_read_106 : decode cX12_read 106 = .ok (.aload_n 0, 1) := by decide +kernel
theorem dX12_read_107 : decode cX12_read 107 = .ok (.invokevirtual 326, 3) := by decide +kernel
theorem dX12_read_110 : decode cX12_read 110 = .ok (.aload_n 0, 1) := by decide +kernel
theorem dX12_read_111 : decode cX12_read 111 = .ok (.iload_n 1, 1) := by decide +kernel
theorem dX12_read_112 : decode cX12_read 112 = .ok (.putfield 112, 3) := by decide +kernel
theorem dX12_read_115 : decode cX12_read 115 = .ok (.aload_n 0, 1) := by decide +kernel
theorem dX12_read_116 : decode cX12_read 116 = .ok (.getfield 317, 3) := by decide +kernel
theorem dX12_read_119 : decode cX12_read 119 = .ok (.sipush 1000, 3) := by decide +kernel
theorem dX12_read_122 : decode cX12_read 122 = .ok (.if_icmp .le 8, 3) := by decide +kernel
theorem dX12_read_125 : decode cX12_read 125 = .ok (.bipush (-4), 2) := by decide +kernel
theorem dX12_read_127 : decode cX12_read 127 = .ok (.goto 7, 3) := by decide +kernel
theorem dX12_read_130 : decode cX12_read 130 = .ok (.aload_n 0, 1) := by decide +kernel
theorem dX12_read_131 : decode cX12_read 131 = .ok (.getfield 317, 3) := by decide +kernel
theorem dX12_read_134 : decode cX12_read 134 = .ok (.ireturn, 1) := by decide +kernel
theorem dX12_readings_0 : decode cX12_readings 0 = .ok (.aload_n 0, 1) := by decide +kernel
theorem dX12_readings_1 : decode cX12_readings 1 = .ok (.iload_n 1, 1) := by decide +kernel
theorem dX12_readings_2 : decode cX12_readings 2 = .ok (.invokevirtual 129, 3) := by decide +kernel
theorem dX12_readings_5 : decode cX12_readings 5 = .ok (.ifCond .eq 11, 3) := by decide +kernel
theorem dX12_readings_8 : decode cX12_readings 8 = .ok (.aload_n 0, 1) := by decide +kernel
theorem dX12_readings_9 : decode cX12_readings 9 = .ok (.iload_n 1, 1) := by decide +kernel
theorem dX12_readings_10 : decode cX12_readings 10 = .ok (.invokevirtual 329, 3) := by decide +kernel
theorem dX12_readings_13 : decode cX12_readings 13 = .ok (.goto 5, 3) := by decide +kernel
theorem dX12_readings_16 : decode cX12_readings 16 = .ok (.bipush (-2), 2) := by decide +kernel
theorem dX12_readings_18 : decode cX12_readings 18 = .ok (.ireturn, 1) := by decide +kernel
theorem dX12_stuck_0 : decode cX12_stuck 0 = .ok (.aload_n 0, 1) := by decide +kernel
theorem dX12_stuck_1 : decode cX12_stuck 1 = .ok (.iload_n 1, 1) := by decide +kernel
theorem dX12_stuck_2 : decode cX12_stuck 2 = .ok (.invokevirtual 129, 3) := by decide +kernel
theorem dX12_stuck_5 : decode cX12_stuck 5 = .ok (.ifCond .ne 6, 3) := by decide +kernel
theorem dX12_stuck_8 : decode cX12_stuck 8 = .ok (.bipush (-2), 2) := by decide +kernel
theorem dX12_stuck_10 : decode cX12_stuck 10 = .ok (.ireturn, 1) := by decide +kernel
theorem dX12_stuck_11 : decode cX12_stuck 11 = .ok (.aload_n 0, 1) := by decide +kernel
theorem dX12_stuck_12 : decode cX12_stuck 12 = .ok (.iload_n 1, 1) := by decide +kernel
theorem dX12_stuck_13 : decode cX12_stuck 13 = .ok (.invokevirtual 329, 3) := by decide +kernel
theorem dX12_stuck_16 : decode cX12_stuck 16 = .ok (.ifCond .eq 5, 3) := by decide +kernel
theorem dX12_stuck_19 : decode cX12_stuck 19 = .ok (.iconst (-1), 1) := by decide +kernel
theorem dX12_stuck_20 : decode cX12_stuck 20 = .ok (.ireturn, 1) := by decide +kernel
theorem dX12_stuck_21 : decode cX12_stuck 21 = .ok (.iconst 0, 1) := by decide +kernel
theorem dX12_stuck_22 : decode cX12_stuck 22 = .ok (.istore_n 2, 1) := by decide +kernel
theorem dX12_stuck_23 : decode cX12_stuck 23 = .ok (.aload_n 0, 1) := by decide +kernel
theorem dX12_stuck_24 : decode cX12_stuck 24 = .ok (.getfield 90, 3) := by decide +kernel
theorem dX12_stuck_27 : decode cX12_stuck 27 = .ok (.iconst 0, 1) := by decide +kernel
theorem dX12_stuck_28 : decode cX12_stuck 28 = .ok (.iconst 1, 1) := by decide +kernel
theorem dX12_stuck_29 : decode cX12_stuck 29 = .ok (.bastore, 1) := by decide +kernel
theorem dX12_stuck_30 : decode cX12_stuck 30 = .ok (.iconst 1, 1) := by decide +kernel
theorem dX12_stuck_31 : decode cX12_stuck 31 = .ok (.istore_n 3, 1) := by decide +kernel
theorem dX12_stuck_32 : decode cX12_stuck 32 = .ok (.iload_n 3, 1) := by decide +kernel
theorem dX12_stuck_33 : decode cX12_stuck 33 = .ok (.aload_n 0, 1) := by decide +kernel
theorem dX12_stuck_34 : decode cX12_stuck 34 = .ok (.getfield 175, 3) := by decide +kernel
theorem dX12_stuck_37 : decode cX12_stuck 37 = .ok (.if_icmp .gt 86, 3) := by decide +kernel
theorem dX12_stuck_40 : decode cX12_stuck 40 = .ok (.aload_n 0, 1) := by decide +kernel
theorem dX12_stuck_41 : decode cX12_stuck 41 = .ok (.getfield 90, 3) := by decide +kernel
theorem dX12_stuck_44 : decode cX12_stuck 44 = .ok (.iload_n 3, 1) := by decide +kernel
theorem dX12_stuck_45 : decode cX12_stuck 45 = .ok (.iconst 0, 1) := by decide +kernel
theorem dX12_stuck_46 : decode cX12_stuck 46 = .ok (.bastore, 1) := by decide +kernel
theorem dX12_stuck_47 : decode cX12_stuck 47 = .ok (.iconst 0, 1) := by decide +kernel
theorem dX12_stuck_48 : decode cX12_stuck 48 = .ok (.istore 4, 2) := by decide +kernel
theorem dX12_stuck_50 : decode cX12_stuck 50 = .ok (.iload 4, 2) := by decide +kernel
theorem dX12_stuck_52 : decode cX12_stuck 52 = .ok (.iload_n 3, 1) := by decide +kernel
theorem dX12_stuck_53 : decode cX12_stuck 53 = .ok (.if_icmp .ge 49, 3) := by decide +kernel
theorem dX12_stuck_56 : decode cX12_stuck 56 = .ok (.aload_n 0, 1) := by decide +kernel
theorem dX12_stuck_57 : decode cX12_stuck 57 = .ok (.getfield 90, 3) := by decide +kernel
theorem dX12_stuck_60 : decode cX12_stuck 60 = .ok (.iload_n 3, 1) := by decide +kernel
theorem dX12_stuck_61 : decode cX12_stuck 61 = .ok (.aload_n 0, 1) := by decide +kernel
theorem dX12_stuck_62 : decode cX12_stuck 62 = .ok (.getfield 90, 3) := by decide +kernel
theorem dX12_stuck_65 : decode cX12_stuck 65 = .ok (.iload_n 3, 1) := by decide +kernel
theorem dX12_stuck_66 : decode cX12_stuck 66 = .ok (.baload, 1) := by decide +kernel
theorem dX12_stuck_67 : decode cX12_stuck 67 = .ok (.ifCond .ne 23, 3) := by decide +kernel
theorem dX12_stuck_70 : decode cX12_stuck 70 = .ok (.aload_n 0, 1) := by decide +kernel
theorem dX12_stuck_71 : decode cX12_stuck 71 = .ok (.getfield 90, 3) := by decide +kernel
theorem dX12_stuck_74 : decode cX12_stuck 74 = .ok (.iload 4, 2) := by decide +kernel
theorem dX12_stuck_76 : decode cX12_stuck 76 = .ok (.baload, 1) := by decide +kernel
theorem dX12_stuck_77 : decode cX12_stuck 77 = .ok (.ifCond .eq 17, 3) := by decide +kernel
theorem dX12_stuck_80 : decode cX12_stuck 80 = .ok (.aload_n 0, 1) := by decide +kernel
theorem dX12_stuck_81 : decode cX12_stuck 81 = .ok (.iload 4, 2) := by decide +kernel
theorem dX12_stuck_83 : decode cX12_stuck 83 = .ok (.iload_n 3, 1) := by decide +kernel
theorem dX12_stuck_84 : decode cX12_stuck 84 = .ok (.invokevirtual 265, 3) := by decide +kernel
theorem dX12_stuck_87 : decode cX12_stuck 87 = .ok (.ifCond .le 7, 3) := by decide +kernel
theorem dX12_stuck_90 : decode cX12_stuck 90 = .ok (.iconst 1, 1) := by decide +kernel
theorem dX12_stuck_91 : decode cX12_stuck 91 = .ok (.goto 4, 3) := by decide +kernel
theorem dX12_stuck_94 : decode cX12_stuck 94 = .ok (.iconst 0, 1) := by decide +kernel
theorem dX12_stuck_95 : decode cX12_stuck 95 = .ok (.bastore, 1) := by decide +kernel
theorem dX12_stuck_96 : decode cX12_stuck 96 = .ok (.iinc 4 1, 3) := by decide +kernel
theorem dX12_stuck_99 : decode cX12_stuck 99 = .ok (.goto (-49), 3) := by decide +kernel
theorem dX12_stuck_102 : decode cX12_stuck 102 = .ok (.aload_n 0, 1) := by decide +kernel
theorem dX12_stuck_103 : decode cX12_stuck 103 = .ok (.getfield 90, 3) := by decide +kernel
theorem dX12_stuck_106 : decode cX12_stuck 106 = .ok (.iload_n 3, 1) := by decide +kernel
theorem dX12_stuck_107 : decode cX12_stuck 107 = .ok (.baload, 1) := by decide +kernel
theorem dX12_stuck_108 : decode cX12_stuck 108 = .ok (.ifCond .eq 7, 3) := by decide +kernel
theorem dX12_stuck_111 : decode cX12_stuck 111 = .ok (.iload_n 3, 1) := by decide +kernel
theorem dX12_stuck_112 : decode cX12_stuck 112 = .ok (.goto 4, 3) := by decide +kernel
theorem dX12_stuck_115 : decode cX12_stuck 115 = .ok (.iload_n 2, 1) := by decide +kernel
theorem dX12_stuck_116 : decode cX12_stuck 116 = .ok (.istore_n 2, 1) := by decide +kernel
theorem dX12_stuck_117 : decode cX12_stuck 117 = .ok (.iinc 3 1, 3) := by decide +kernel
theorem dX12_stuck_120 : decode cX12_stuck 120 = .ok (.goto (-88), 3) := by decide +kernel
theorem dX12_stuck_123 : decode cX12_stuck 123 = .ok (.iload_n 2, 1) := by decide +kernel
theorem dX12_stuck_124 : decode cX12_stuck 124 = .ok (.ireturn, 1) := by decide +kernel
theorem dX12_find_0 : decode cX12_find 0 = .ok (.aload_n 0, 1) := by decide +kernel
theorem dX12_find_1 : decode cX12_find 1 = .ok (.iload_n 1, 1) := by decide +kernel
theorem dX12_find_2 : decode cX12_find 2 = .ok (.invokevirtual 129, 3) := by decide +kernel
theorem dX12_find_5 : decode cX12_find 5 = .ok (.ifCond .ne 6, 3) := by decide +kernel
theorem dX12_find_8 : decode cX12_find 8 = .ok (.bipush (-2), 2) := by decide +kernel
theorem dX12_find_10 : decode cX12_find 10 = .ok (.ireturn, 1) := by decide +kernel
theorem dX12_find_11 : decode cX12_find 11 = .ok (.aload_n 0, 1) := by decide +kernel
theorem dX12_find_12 : decode cX12_find 12 = .ok (.iload_n 1, 1) := by decide +kernel
theorem dX12_find_13 : decode cX12_find 13 = .ok (.invokevirtual 329, 3) := by decide +kernel
theorem dX12_find_16 : decode cX12_find 16 = .ok (.istore_n 3, 1) := by decide +kernel
theorem dX12_find_17 : decode cX12_find 17 = .ok (.iload_n 3, 1) := by decide +kernel
theorem dX12_find_18 : decode cX12_find 18 = .ok (.bipush (-4), 2) := by decide +kernel
theorem dX12_find_20 : decode cX12_find 20 = .ok (.if_icmp .ne 8, 3) := by decide +kernel
theorem dX12_find_23 : decode cX12_find 23 = .ok (.bipush (-4), 2) := by decide +kernel
theorem dX12_find_25 : decode cX12_find 25 = .ok (.goto 26, 3) := by decide +kernel
theorem dX12_find_28 : decode cX12_find 28 = .ok (.iload_n 2, 1) := by decide +kernel
theorem dX12_find_29 : decode cX12_find 29 = .ok (.i2l, 1) := by decide +kernel
theorem dX12_find_30 : decode cX12_find 30 = .ok (.lconst 0, 1) := by decide +kernel
theorem dX12_find_31 : decode cX12_find 31 = .ok (.iload_n 3, 1) := by decide +kernel
theorem dX12_find_32 : decode cX12_find 32 = .ok (.iconst 1, 1) := by decide +kernel
theorem dX12_find_33 : decode cX12_find 33 = .ok (.isub, 1) := by decide +kernel
theorem dX12_find_34 : decode cX12_find 34 = .ok (.i2l, 1) := by decide +kernel
theorem dX12_find_35 : decode cX12_find 35 = .ok (.invokestatic 119, 3) := by decide +kernel
theorem dX12_find_38 : decode cX12_find 38 = .ok (.ifCond .eq 12, 3) := by decide +kernel
theorem dX12_find_41 : decode cX12_find 41 = .ok (.aload_n 0, 1) := by decide +kernel
theorem dX12_find_42 : decode cX12_find 42 = .ok (.getfield 87, 3) := by decide +kernel
theorem dX12_find_45 : decode cX12_find 45 = .ok (.iload_n 2, 1) := by decide +kernel
theorem dX12_find_46 : decode cX12_find 46 = .ok (.iaload, 1) := by decide +kernel
theorem dX12_find_47 : decode cX12_find 47 = .ok (.goto 4, 3) := by decide +kernel
theorem dX12_find_50 : decode cX12_find 50 = .ok (.iconst (-1), 1) := by decide +kernel
theorem dX12_find_51 : decode cX12_find 51 = .ok (.ireturn, 1) := by decide +kernel
theorem dX12_strained_0 : decode cX12_strained 0 = .ok (.aload_n 0, 1) := by decide +kernel
theorem dX12_strained_1 : decode cX12_strained 1 = .ok (.iload_n 1, 1) := by decide +kernel
theorem dX12_strained_2 : decode cX12_strained 2 = .ok (.iload_n 2, 1) := by decide +kernel
theorem dX12_strained_3 : decode cX12_strained 3 = .ok (.invokevirtual 332, 3) := by decide +kernel
theorem dX12_strained_6 : decode cX12_strained 6 = .ok (.istore_n 3, 1) := by decide +kernel
theorem dX12_strained_7 : decode cX12_strained 7 = .ok (.iload_n 3, 1) := by decide +kernel
theorem dX12_strained_8 : decode cX12_strained 8 = .ok (.ifCond .ge 7, 3) := by decide +kernel
theorem dX12_strained_11 : decode cX12_strained 11 = .ok (.iload_n 3, 1) := by decide +kernel
theorem dX12_strained_12 : decode cX12_strained 12 = .ok (.goto 9, 3) := by decide +kernel
theorem dX12_strained_15 : decode cX12_strained 15 = .ok (.aload_n 0, 1) := by decide +kernel
theorem dX12_strained_16 : decode cX12_strained 16 = .ok (.getfield 81, 3) := by decide +kernel
theorem dX12_strained_19 : decode cX12_strained 19 = .ok (.iload_n 3, 1) := by decide +kernel
theorem dX12_strained_20 : decode cX12_strained 20 = .ok (.iaload, 1) := by decide +kernel
theorem dX12_strained_21 : decode cX12_strained 21 = .ok (.ireturn, 1) := by decide +kernel
theorem dX12_form_0 : decode cX12_form 0 = .ok (.aload_n 0, 1) := by decide +kernel
theorem dX12_form_1 : decode cX12_form 1 = .ok (.iload_n 1, 1) := by decide +kernel
theorem dX12_form_2 : decode cX12_form 2 = .ok (.iload_n 2, 1) := by decide +kernel
theorem dX12_form_3 : decode cX12_form 3 = .ok (.invokevirtual 332, 3) := by decide +kernel
theorem dX12_form_6 : decode cX12_form 6 = .ok (.istore 4, 2) := by decide +kernel
theorem dX12_form_8 : decode cX12_form 8 = .ok (.iload 4, 2) := by decide +kernel
theorem dX12_form_10 : decode cX12_form 10 = .ok (.ifCond .ge 8, 3) := by decide +kernel
theorem dX12_form_13 : decode cX12_form 13 = .ok (.iload 4, 2) := by decide +kernel
theorem dX12_form_15 : decode cX12_form 15 = .ok (.goto 38, 3) := by decide +kernel
theorem dX12_form_18 : decode cX12_form 18 = .ok (.iload_n 3, 1) := by decide +kernel
theorem dX12_form_19 : decode cX12_form 19 = .ok (.i2l, 1) := by decide +kernel
theorem dX12_form_20 : decode cX12_form 20 = .ok (.lconst 0, 1) := by decide +kernel
theorem dX12_form_21 : decode cX12_form 21 = .ok (.aload_n 0, 1) := by decide +kernel
theorem dX12_form_22 : decode cX12_form 22 = .ok (.getfield 78, 3) := by decide +kernel
theorem dX12_form_25 : decode cX12_form 25 = .ok (.iload 4, 2) := by decide +kernel
theorem dX12_form_27 : decode cX12_form 27 = .ok (.iaload, 1) := by decide +kernel
theorem dX12_form_28 : decode cX12_form 28 = .ok (.iconst 1, 1) := by decide +kernel
theorem dX12_form_29 : decode cX12_form 29 = .ok (.isub, 1) := by decide +kernel
theorem dX12_form_30 : decode cX12_form 30 = .ok (.i2l, 1) := by decide +kernel
theorem dX12_form_31 : decode cX12_form 31 = .ok (.invokestatic 119, 3) := by decide +kernel
theorem dX12_form_34 : decode cX12_form 34 = .ok (.ifCond .eq 18, 3) := by decide +kernel
theorem dX12_form_37 : decode cX12_form 37 = .ok (.aload_n 0, 1) := by decide +kernel
theorem dX12_form_38 : decode cX12_form 38 = .ok (.getfield 75, 3) := by decide +kernel
theorem dX12_form_41 : decode cX12_form 41 = .ok (.bipush 120, 2) := by decide +kernel
theorem dX12_form_43 : decode cX12_form 43 = .ok (.iload 4, 2) := by decide +kernel
theorem dX12_form_45 : decode cX12_form 45 = .ok (.imul, 1) := by decide +kernel
theorem dX12_form_46 : decode cX12_form 46 = .ok (.iload_n 3, 1) := by decide +kernel
theorem dX12_form_47 : decode cX12_form 47 = .ok (.iadd, 1) := by decide +kernel
theorem dX12_form_48 : decode cX12_form 48 = .ok (.iaload, 1) := by decide +kernel
theorem dX12_form_49 : decode cX12_form 49 = .ok (.goto 4, 3) := by decide +kernel
theorem dX12_form_52 : decode cX12_form 52 = .ok (.iconst (-1), 1) := by decide +kernel
theorem dX12_form_53 : decode cX12_form 53 = .ok (.ireturn, 1) := by decide +kernel
theorem dX12_value_0 : decode cX12_value 0 = .ok (.aload_n 0, 1) := by decide +kernel
theorem dX12_value_1 : decode cX12_value 1 = .ok (.iload_n 1, 1) := by decide +kernel
theorem dX12_value_2 : decode cX12_value 2 = .ok (.iload_n 2, 1) := by decide +kernel
theorem dX12_value_3 : decode cX12_value 3 = .ok (.invokevirtual 332, 3) := by decide +kernel
theorem dX12_value_6 : decode cX12_value 6 = .ok (.istore 4, 2) := by decide +kernel
theorem dX12_value_8 : decode cX12_value 8 = .ok (.iload 4, 2) := by decide +kernel
theorem dX12_value_10 : decode cX12_value 10 = .ok (.ifCond .ge 8, 3) := by decide +kernel
theorem dX12_value_13 : decode cX12_value 13 = .ok (.iload 4, 2) := by decide +kernel
theorem dX12_value_15 : decode cX12_value 15 = .ok (.goto 37, 3) := by decide +kernel
theorem dX12_value_18 : decode cX12_value 18 = .ok (.iload_n 3, 1) := by decide +kernel
theorem dX12_value_19 : decode cX12_value 19 = .ok (.i2l, 1) := by decide +kernel
theorem dX12_value_20 : decode cX12_value 20 = .ok (.lconst 0, 1) := by decide +kernel
theorem dX12_value_21 : decode cX12_value 21 = .ok (.aload_n 0, 1) := by decide +kernel
theorem dX12_value_22 : decode cX12_value 22 = .ok (.getfield 13, 3) := by decide +kernel
theorem dX12_value_25 : decode cX12_value 25 = .ok (.iload_n 1, 1) := by decide +kernel
theorem dX12_value_26 : decode cX12_value 26 = .ok (.iaload, 1) := by decide +kernel
theorem dX12_value_27 : decode cX12_value 27 = .ok (.iconst 1, 1) := by decide +kernel
theorem dX12_value_28 : decode cX12_value 28 = .ok (.isub, 1) := by decide +kernel
theorem dX12_value_29 : decode cX12_value 29 = .ok (.i2l, 1) := by decide +kernel
theorem dX12_value_30 : decode cX12_value 30 = .ok (.invokestatic 119, 3) := by decide +kernel
theorem dX12_value_33 : decode cX12_value 33 = .ok (.ifCond .eq 18, 3) := by decide +kernel
theorem dX12_value_36 : decode cX12_value 36 = .ok (.aload_n 0, 1) := by decide +kernel
theorem dX12_value_37 : decode cX12_value 37 = .ok (.getfield 84, 3) := by decide +kernel
theorem dX12_value_40 : decode cX12_value 40 = .ok (.bipush 24, 2) := by decide +kernel
theorem dX12_value_42 : decode cX12_value 42 = .ok (.iload 4, 2) := by decide +kernel
theorem dX12_value_44 : decode cX12_value 44 = .ok (.imul, 1) := by decide +kernel
theorem dX12_value_45 : decode cX12_value 45 = .ok (.iload_n 3, 1) := by decide +kernel
theorem dX12_value_46 : decode cX12_value 46 = .ok (.iadd, 1) := by decide +kernel
theorem dX12_value_47 : decode cX12_value 47 = .ok (.iaload, 1) := by decide +kernel
theorem dX12_value_48 : decode cX12_value 48 = .ok (.goto 4, 3) := by decide +kernel
theorem dX12_value_51 : decode cX12_value 51 = .ok (.iconst (-1), 1) := by decide +kernel
theorem dX12_value_52 : decode cX12_value 52 = .ok (.ireturn, 1) := by decide +kernel
theorem dX12_pick_0 : decode cX12_pick 0 = .ok (.aload_n 0, 1) := by decide +kernel
theorem dX12_pick_1 : decode cX12_pick 1 = .ok (.iload_n 1, 1) := by decide +kernel
theorem dX12_pick_2 : decode cX12_pick 2 = .ok (.iload_n 2, 1) := by decide +kernel
theorem dX12_pick_3 : decode cX12_pick 3 = .ok (.invokevirtual 332, 3) := by decide +kernel
theorem dX12_pick_6 : decode cX12_pick 6 = .ok (.istore_n 3, 1) := by decide +kernel
theorem dX12_pick_7 : decode cX12_pick 7 = .ok (.iload_n 3, 1) := by decide +kernel
theorem dX12_pick_8 : decode cX12_pick 8 = .ok (.ifCond .ge 5, 3) := by decide +kernel
theorem dX12_pick_11 : decode cX12_pick 11 = .ok (.iload_n 3, 1) := by decide +kernel
theorem dX12_pick_12 : decode cX12_pick 12 = .ok (.ireturn, 1) := by decide +kernel
theorem dX12_pick_13 : decode cX12_pick 13 = .ok (.aload_n 0, 1) := by decide +kernel
theorem dX12_pick_14 : decode cX12_pick 14 = .ok (.getfield 22, 3) := by decide +kernel
theorem dX12_pick_17 : decode cX12_pick 17 = .ok (.iload_n 1, 1) := by decide +kernel
theorem dX12_pick_18 : decode cX12_pick 18 = .ok (.iaload, 1) := by decide +kernel
theorem dX12_pick_19 : decode cX12_pick 19 = .ok (.istore 4, 2) := by decide +kernel
theorem dX12_pick_21 : decode cX12_pick 21 = .ok (.aload_n 0, 1) := by decide +kernel
theorem dX12_pick_22 : decode cX12_pick 22 = .ok (.getfield 22, 3) := by decide +kernel
theorem dX12_pick_25 : decode cX12_pick 25 = .ok (.iload_n 1, 1) := by decide +kernel
theorem dX12_pick_26 : decode cX12_pick 26 = .ok (.iload_n 2, 1) := by decide +kernel
theorem dX12_pick_27 : decode cX12_pick 27 = .ok (.iastore, 1) := by decide +kernel
theorem dX12_pick_28 : decode cX12_pick 28 = .ok (.iload 4, 2) := by decide +kernel
theorem dX12_pick_30 : decode cX12_pick 30 = .ok (.ireturn, 1) := by decide +kernel
theorem dX12_addTime_0 : decode cX12_addTime 0 = .ok (.aload_n 0, 1) := by decide +kernel
theorem dX12_addTime_1 : decode cX12_addTime 1 = .ok (.getfield 335, 3) := by decide +kernel
theorem dX12_addTime_4 : decode cX12_addTime 4 = .ok (.lload_n 3, 1) := by decide +kernel
theorem dX12_addTime_5 : decode cX12_addTime 5 = .ok (.invokestatic 157, 3) := by decide +kernel
theorem dX12_addTime_8 : decode cX12_addTime 8 = .ok (.lstore 5, 2) := by decide +kernel
theorem dX12_addTime_10 : decode cX12_addTime 10 = .ok (.aload_n 0, 1) := by decide +kernel
theorem dX12_addTime_11 : decode cX12_addTime 11 = .ok (.getfield 339, 3) := by decide +kernel
theorem dX12_addTime_14 : decode cX12_addTime 14 = .ok (.lload_n 3, 1) := by decide +kernel
theorem dX12_addTime_15 : decode cX12_addTime 15 = .ok (.lload 5, 2) := by decide +kernel
theorem dX12_addTime_17 : decode cX12_addTime 17 = .ok (.ldiv, 1) := by decide +kernel
theorem dX12_addTime_18 : decode cX12_addTime 18 = .ok (.lmul, 1) := by decide +kernel
theorem dX12_addTime_19 : decode cX12_addTime 19 = .ok (.lload_n 1, 1) := by decide +kernel
theorem dX12_addTime_20 : decode cX12_addTime 20 = .ok (.aload_n 0, 1) := by decide +kernel
theorem dX12_addTime_21 : decode cX12_addTime 21 = .ok (.getfield 335, 3) := by decide +kernel
theorem dX12_addTime_24 : decode cX12_addTime 24 = .ok (.lload 5, 2) := by decide +kernel
theorem dX12_addTime_26 : decode cX12_addTime 26 = .ok (.ldiv, 1) := by decide +kernel
theorem dX12_addTime_27 : decode cX12_addTime 27 = .ok (.lmul, 1) := by decide +kernel
theorem dX12_addTime_28 : decode cX12_addTime 28 = .ok (.ladd, 1) := by decide +kernel
theorem dX12_addTime_29 : decode cX12_addTime 29 = .ok (.lstore 7, 2) := by decide +kernel
theorem dX12_addTime_31 : decode cX12_addTime 31 = .ok (.aload_n 0, 1) := by decide +kernel
theorem dX12_addTime_32 : decode cX12_addTime 32 = .ok (.getfield 335, 3) := by decide +kernel
theorem dX12_addTime_35 : decode cX12_addTime 35 = .ok (.lload 5, 2) := by decide +kernel
theorem dX12_addTime_37 : decode cX12_addTime 37 = .ok (.ldiv, 1) := by decide +kernel
theorem dX12_addTime_38 : decode cX12_addTime 38 = .ok (.lload_n 3, 1) := by decide +kernel
theorem dX12_addTime_39 : decode cX12_addTime 39 = .ok (.lmul, 1) := by decide +kernel
theorem dX12_addTime_40 : decode cX12_addTime 40 = .ok (.lstore 9, 2) := by decide +kernel
theorem dX12_addTime_42 : decode cX12_addTime 42 = .ok (.lload 7, 2) := by decide +kernel
theorem dX12_addTime_44 : decode cX12_addTime 44 = .ok (.lload 9, 2) := by decide +kernel
theorem dX12_addTime_46 : decode cX12_addTime 46 = .ok (.invokestatic 157, 3) := by decide +kernel
theorem dX12_addTime_49 : decode cX12_addTime 49 = .ok (.lstore 11, 2) := by decide +kernel
theorem dX12_addTime_51 : decode cX12_addTime 51 = .ok (.aload_n 0, 1) := by decide +kernel
theorem dX12_addTime_52 : decode cX12_addTime 52 = .ok (.lload 7, 2) := by decide +kernel
theorem dX12_addTime_54 : decode cX12_addTime 54 = .ok (.lload 11, 2) := by decide +kernel
theorem dX12_addTime_56 : decode cX12_addTime 56 = .ok (.ldiv, 1) := by decide +kernel
theorem dX12_addTime_57 : decode cX12_addTime 57 = .ok (.putfield 339, 3) := by decide +kernel
theorem dX12_addTime_60 : decode cX12_addTime 60 = .ok (.aload_n 0, 1) := by decide +kernel
theorem dX12_addTime_61 : decode cX12_addTime 61 = .ok (.lload 9, 2) := by decide +kernel
theorem dX12_addTime_63 : decode cX12_addTime 63 = .ok (.lload 11, 2) := by decide +kernel
theorem dX12_addTime_65 : decode cX12_addTime 65 = .ok (.ldiv, 1) := by decide +kernel
theorem dX12_addTime_66 : decode cX12_addTime 66 = .ok (.putfield 335, 3) := by decide +kernel
theorem dX12_addTime_69 : decode cX12_addTime 69 = .ok (.return_, 1) := by decide +kernel
theorem dX12_findTime_0 : decode cX12_findTime 0 = .ok (.aload_n 0, 1) := by decide +kernel
theorem dX12_findTime_1 : decode cX12_findTime 1 = .ok (.lconst 0, 1) := by decide +kernel
theorem dX12_findTime_2 : decode cX12_findTime 2 = .ok (.putfield 339, 3) := by decide +kernel
theorem dX12_findTime_5 : decode cX12_findTime 5 = .ok (.aload_n 0, 1) := by decide +kernel
theorem dX12_findTime_6 : decode cX12_findTime 6 = .ok (.lconst 1, 1) := by decide +kernel
theorem dX12_findTime_7 : decode cX12_findTime 7 = .ok (.putfield 335, 3) := by decide +kernel
theorem dX12_findTime_10 : decode cX12_findTime 10 = .ok (.iconst 0, 1) := by decide +kernel
theorem dX12_findTime_11 : decode cX12_findTime 11 = .ok (.istore 4, 2) := by decide +kernel
theorem dX12_findTime_13 : decode cX12_findTime 13 = .ok (.iload 4, 2) := by decide +kernel
theorem dX12_findTime_15 : decode cX12_findTime 15 = .ok (.iload_n 3, 1) := by decide +kernel
theorem dX12_findTime_16 : decode cX12_findTime 16 = .ok (.if_icmp .ge 53, 3) := by decide +kernel
theorem dX12_findTime_19 : decode cX12_findTime 19 = .ok (.aload_n 0, 1) := by decide +kernel
theorem dX12_findTime_20 : decode cX12_findTime 20 = .ok (.aload_n 0, 1) := by decide +kernel
theorem dX12_findTime_21 : decode cX12_findTime 21 = .ok (.getfield 84, 3) := by decide +kernel
theorem dX12_findTime_24 : decode cX12_findTime 24 = .ok (.bipush 24, 2) := by decide +kernel
theorem dX12_findTime_26 : decode cX12_findTime 26 = .ok (.iload_n 2, 1) := by decide +kernel
theorem dX12_findTime_27 : decode cX12_findTime 27 = .ok (.imul, 1) := by decide +kernel
theorem dX12_findTime_28 : decode cX12_findTime 28 = .ok (.iload 4, 2) := by decide +kernel
theorem dX12_findTime_30 : decode cX12_findTime 30 = .ok (.iadd, 1) := by decide +kernel
theorem dX12_findTime_31 : decode cX12_findTime 31 = .ok (.iaload, 1) := by decide +kernel
theorem dX12_findTime_32 : decode cX12_findTime 32 = .ok (.i2l, 1) := by decide +kernel
theorem dX12_findTime_33 : decode cX12_findTime 33 = .ok (.aload_n 0, 1) := by decide +kernel
theorem dX12_findTime_34 : decode cX12_findTime 34 = .ok (.getfield 41, 3) := by decide +kernel
theorem dX12_findTime_37 : decode cX12_findTime 37 = .ok (.bipush 24, 2) := by decide +kernel
theorem dX12_findTime_39 : decode cX12_findTime 39 = .ok (.iload_n 1, 1) := by decide +kernel
theorem dX12_findTime_40 : decode cX12_findTime 40 = .ok (.imul, 1) := by decide +kernel
theorem dX12_findTime_41 : decode cX12_findTime 41 = .ok (.iload 4, 2) := by decide +kernel
theorem dX12_findTime_43 : decode cX12_findTime 43 = .ok (.iadd, 1) := by decide +kernel
theorem dX12_findTime_44 : decode cX12_findTime 44 = .ok (.iaload, 1) := by decide +kernel
theorem dX12_findTime_45 : decode cX12_findTime 45 = .ok (.i2l, 1) := by decide +kernel
theorem dX12_findTime_46 : decode cX12_findTime 46 = .ok (.lmul, 1) := by decide +kernel
theorem dX12_findTime_47 : decode cX12_findTime 47 = .ok (.aload_n 0, 1) := by decide +kernel
theorem dX12_findTime_48 : decode cX12_findTime 48 = .ok (.getfield 38, 3) := by decide +kernel
theorem dX12_findTime_51 : decode cX12_findTime 51 = .ok (.bipush 24, 2) := by decide +kernel
theorem dX12_findTime_53 : decode cX12_findTime 53 = .ok (.iload_n 1, 1) := by decide +kernel
theorem dX12_findTime_54 : decode cX12_findTime 54 = .ok (.imul, 1) := by decide +kernel
theorem dX12_findTime_55 : decode cX12_findTime 55 = .ok (.iload 4, 2) := by decide +kernel
theorem dX12_findTime_57 : decode cX12_findTime 57 = .ok (.iadd, 1) := by decide +kernel
theorem dX12_findTime_58 : decode cX12_findTime 58 = .ok (.iaload, 1) := by decide +kernel
theorem dX12_findTime_59 : decode cX12_findTime 59 = .ok (.i2l, 1) := by decide +kernel
theorem dX12_findTime_60 : decode cX12_findTime 60 = .ok (.invokevirtual 342, 3) := by decide +kernel
theorem dX12_findTime_63 : decode cX12_findTime 63 = .ok (.iinc 4 1, 3) := by decide +kernel
theorem dX12_findTime_66 : decode cX12_findTime 66 = .ok (.goto (-53), 3) := by decide +kernel
theorem dX12_findTime_69 : decode cX12_findTime 69 = .ok (.return_, 1) := by decide +kernel
theorem dX12_time_0 : decode cX12_time 0 = .ok (.aload_n 0, 1) := by decide +kernel
theorem dX12_time_1 : decode cX12_time 1 = .ok (.iload_n 1, 1) := by decide +kernel
theorem dX12_time_2 : decode cX12_time 2 = .ok (.invokevirtual 129, 3) := by decide +kernel
theorem dX12_time_5 : decode cX12_time 5 = .ok (.ifCond .eq 13, 3) := by decide +kernel
theorem dX12_time_8 : decode cX12_time 8 = .ok (.iload_n 3, 1) := by decide +kernel
theorem dX12_time_9 : decode cX12_time 9 = .ok (.i2l, 1) := by decide +kernel
theorem dX12_time_10 : decode cX12_time 10 = .ok (.lconst 0, 1) := by decide +kernel
theorem dX12_time_11 : decode cX12_time 11 = .ok (.lconst 1, 1) := by decide +kernel
theorem dX12_time_12 : decode cX12_time 12 = .ok (.invokestatic 119, 3) := by decide +kernel
theorem dX12_time_15 : decode cX12_time 15 = .ok (.ifCond .ne 7, 3) := by decide +kernel
theorem dX12_time_18 : decode cX12_time 18 = .ok (.ldc2_w 346, 3) := by decide +kernel
theorem dX12_time_21 : decode cX12_time 21 = .ok (.lreturn, 1) := by decide +kernel
theorem dX12_time_22 : decode cX12_time 22 = .ok (.aload_n 0, 1) := by decide +kernel
theorem dX12_time_23 : decode cX12_time 23 = .ok (.iload_n 1, 1) := by decide +kernel
theorem dX12_time_24 : decode cX12_time 24 = .ok (.aload_n 0, 1) := by decide +kernel
theorem dX12_time_25 : decode cX12_time 25 = .ok (.getfield 22, 3) := by decide +kernel
theorem dX12_time_28 : decode cX12_time 28 = .ok (.iload_n 1, 1) := by decide +kernel
theorem dX12_time_29 : decode cX12_time 29 = .ok (.iaload, 1) := by decide +kernel
theorem dX12_time_30 : decode cX12_time 30 = .ok (.invokevirtual 332, 3) := by decide +kernel
theorem dX12_time_33 : decode cX12_time 33 = .ok (.istore 4, 2) := by decide +kernel
theorem dX12_time_35 : decode cX12_time 35 = .ok (.iload 4, 2) := by decide +kernel
theorem dX12_time_37 : decode cX12_time 37 = .ok (.ifCond .lt 19, 3) := by decide +kernel
theorem dX12_time_40 : decode cX12_time 40 = .ok (.iload_n 2, 1) := by decide +kernel
theorem dX12_time_41 : decode cX12_time 41 = .ok (.i2l, 1) := by decide +kernel
theorem dX12_time_42 : decode cX12_time 42 = .ok (.lconst 0, 1) := by decide +kernel
theorem dX12_time_43 : decode cX12_time 43 = .ok (.aload_n 0, 1) := by decide +kernel
theorem dX12_time_44 : decode cX12_time 44 = .ok (.getfield 13, 3) := by decide +kernel
theorem dX12_time_47 : decode cX12_time 47 = .ok (.iload_n 1, 1) := by decide +kernel
theorem dX12_time_48 : decode cX12_time 48 = .ok (.iaload, 1) := by decide +kernel
theorem dX12_time_49 : decode cX12_time 49 = .ok (.i2l, 1) := by decide +kernel
theorem dX12_time_50 : decode cX12_time 50 = .ok (.invokestatic 119, 3) := by decide +kernel
theorem dX12_time_53 : decode cX12_time 53 = .ok (.ifCond .ne 18, 3) := by decide +kernel
theorem dX12_time_56 : decode cX12_time 56 = .ok (.iload 4, 2) := by decide +kernel
theorem dX12_time_58 : decode cX12_time 58 = .ok (.ifCond .ge 9, 3) := by decide +kernel
theorem dX12_time_61 : decode cX12_time 61 = .ok (.iload 4, 2) := by decide +kernel
theorem dX12_time_63 : decode cX12_time 63 = .ok (.i2l, 1) := by decide +kernel
theorem dX12_time_64 : decode cX12_time 64 = .ok (.goto 6, 3) := by decide +kernel
theorem dX12_time_67 : decode cX12_time 67 = .ok (.ldc2_w 348, 3) := by decide +kernel
theorem dX12_time_70 : decode cX12_time 70 = .ok (.lreturn, 1) := by decide +kernel
theorem dX12_time_71 : decode cX12_time 71 = .ok (.aload_n 0, 1) := by decide +kernel
theorem dX12_time_72 : decode cX12_time 72 = .ok (.iload_n 1, 1) := by decide +kernel
theorem dX12_time_73 : decode cX12_time 73 = .ok (.iload 4, 2) := by decide +kernel
theorem dX12_time_75 : decode cX12_time 75 = .ok (.iload_n 2, 1) := by decide +kernel
theorem dX12_time_76 : decode cX12_time 76 = .ok (.invokevirtual 350, 3) := by decide +kernel
theorem dX12_time_79 : decode cX12_time 79 = .ok (.iload_n 3, 1) := by decide +kernel
theorem dX12_time_80 : decode cX12_time 80 = .ok (.ifCond .ne 10, 3) := by decide +kernel
theorem dX12_time_83 : decode cX12_time 83 = .ok (.aload_n 0, 1) := by decide +kernel
theorem dX12_time_84 : decode cX12_time 84 = .ok (.getfield 339, 3) := by decide +kernel
theorem dX12_time_87 : decode cX12_time 87 = .ok (.goto 7, 3) := by decide +kernel
theorem dX12_time_90 : decode cX12_time 90 = .ok (.aload_n 0, 1) := by decide +kernel
theorem dX12_time_91 : decode cX12_time 91 = .ok (.getfield 335, 3) := by decide +kernel
theorem dX12_time_94 : decode cX12_time 94 = .ok (.lreturn, 1) := by decide +kernel
theorem dX12_compare_0 : decode cX12_compare 0 = .ok (.lload_n 0, 1) := by decide +kernel
theorem dX12_compare_1 : decode cX12_compare 1 = .ok (.lstore 8, 2) := by decide +kernel
theorem dX12_compare_3 : decode cX12_compare 3 = .ok (.lload_n 2, 1) := by decide +kernel
theorem dX12_compare_4 : decode cX12_compare 4 = .ok (.lstore 10, 2) := by decide +kernel
theorem dX12_compare_6 : decode cX12_compare 6 = .ok (.lload 4, 2) := by decide +kernel
theorem dX12_compare_8 : decode cX12_compare 8 = .ok (.lstore 12, 2) := by decide +kernel
theorem dX12_compare_10 : decode cX12_compare 10 = .ok (.lload 6, 2) := by decide +kernel
theorem dX12_compare_12 : decode cX12_compare 12 = .ok (.lstore 14, 2) := by decide +kernel
theorem dX12_compare_14 : decode cX12_compare 14 = .ok (.iconst 1, 1) := by decide +kernel
theorem dX12_compare_15 : decode cX12_compare 15 = .ok (.istore 16, 2) := by decide +kernel
theorem dX12_compare_17 : decode cX12_compare 17 = .ok (.iconst 1, 1) := by decide +kernel
theorem dX12_compare_18 : decode cX12_compare 18 = .ok (.istore 17, 2) := by decide +kernel
theorem dX12_compare_20 : decode cX12_compare 20 = .ok (.iconst 0, 1) := by decide +kernel
theorem dX12_compare_21 : decode cX12_compare 21 = .ok (.istore 18, 2) := by decide +kernel
theorem dX12_compare_23 : decode cX12_compare 23 = .ok (.iload 17, 2) := by decide +kernel
theorem dX12_compare_25 : decode cX12_compare 25 = .ok (.ifCond .eq 155, 3) := by decide +kernel
theorem dX12_compare_28 : decode cX12_compare 28 = .ok (.lload 8, 2) := by decide +kernel
theorem dX12_compare_30 : decode cX12_compare 30 = .ok (.lload 10, 2) := by decide +kernel
theorem dX12_compare_32 : decode cX12_compare 32 = .ok (.ldiv, 1) := by decide +kernel
theorem dX12_compare_33 : decode cX12_compare 33 = .ok (.lstore 19, 2) := by decide +kernel
theorem dX12_compare_35 : decode cX12_compare 35 = .ok (.lload 12, 2) := by decide +kernel
theorem dX12_compare_37 : decode cX12_compare 37 = .ok (.lload 14, 2) := by decide +kernel
theorem dX12_compare_39 : decode cX12_compare 39 = .ok (.ldiv, 1) := by decide +kernel
theorem dX12_compare_40 : decode cX12_compare 40 = .ok (.lstore 21, 2) := by decide +kernel
theorem dX12_compare_42 : decode cX12_compare 42 = .ok (.lload 8, 2) := by decide +kernel
theorem dX12_compare_44 : decode cX12_compare 44 = .ok (.lload 10, 2) := by decide +kernel
theorem dX12_compare_46 : decode cX12_compare 46 = .ok (.lrem, 1) := by decide +kernel
theorem dX12_compare_47 : decode cX12_compare 47 = .ok (.lstore 23, 2) := by decide +kernel
theorem dX12_compare_49 : decode cX12_compare 49 = .ok (.lload 12, 2) := by decide +kernel
theorem dX12_compare_51 : decode cX12_compare 51 = .ok (.lload 14, 2) := by decide +kernel
theorem dX12_compare_53 : decode cX12_compare 53 = .ok (.lrem, 1) := by decide +kernel
theorem dX12_compare_54 : decode cX12_compare 54 = .ok (.lstore 25, 2) := by decide +kernel
theorem dX12_compare_56 : decode cX12_compare 56 = .ok (.lload 19, 2) := by decide +kernel
theorem dX12_compare_58 : decode cX12_compare 58 = .ok (.lload 21, 2) := by decide +kernel
theorem dX12_compare_60 : decode cX12_compare 60 = .ok (.lcmp, 1) := by decide +kernel
theorem dX12_compare_61 : decode cX12_compare 61 = .ok (.ifCond .ne 17, 3) := by decide +kernel
theorem dX12_compare_64 : decode cX12_compare 64 = .ok (.lload 23, 2) := by decide +kernel
theorem dX12_compare_66 : decode cX12_compare 66 = .ok (.lconst 0, 1) := by decide +kernel
theorem dX12_compare_67 : decode cX12_compare 67 = .ok (.lcmp, 1) := by decide +kernel
theorem dX12_compare_68 : decode cX12_compare 68 = .ok (.ifCond .eq 10, 3) := by decide +kernel
theorem dX12_compare_71 : decode cX12_compare 71 = .ok (.lload 25, 2) := by decide +kernel
theorem dX12_compare_73 : decode cX12_compare 73 = .ok (.lconst 0, 1) := by decide +kernel
theorem dX12_compare_74 : decode cX12_compare 74 = .ok (.lcmp, 1) := by decide +kernel
theorem dX12_compare_75 : decode cX12_compare 75 = .ok (.ifCond .ne 81, 3) := by decide +kernel
theorem dX12_compare_78 : decode cX12_compare 78 = .ok (.lload 19, 2) := by decide +kernel
theorem dX12_compare_80 : decode cX12_compare 80 = .ok (.lload 21, 2) := by decide +kernel
theorem dX12_compare_82 : decode cX12_compare 82 = .ok (.lcmp, 1) := by decide +kernel
theorem dX12_compare_83 : decode cX12_compare 83 = .ok (.ifCond .lt 25, 3) := by decide +kernel
theorem dX12_compare_86 : decode cX12_compare 86 = .ok (.lload 19, 2) := by decide +kernel
theorem dX12_compare_88 : decode cX12_compare 88 = .ok (.lload 21, 2) := by decide +kernel
theorem dX12_compare_90 : decode cX12_compare 90 = .ok (.lcmp, 1) := by decide +kernel
theorem dX12_compare_91 : decode cX12_compare 91 = .ok (.ifCond .ne 21, 3) := by decide +kernel
theorem dX12_compare_94 : decode cX12_compare 94 = .ok (.lload 23, 2) := by decide +kernel
theorem dX12_compare_96 : decode cX12_compare 96 = .ok (.lconst 0, 1) := by decide +kernel
theorem dX12_compare_97 : decode cX12_compare 97 = .ok (.lcmp, 1) := by decide +kernel
theorem dX12_compare_98 : decode cX12_compare 98 = .ok (.ifCond .ne 14, 3) := by decide +kernel
theorem dX12_compare_101 : decode cX12_compare 101 = .ok (.lload 25, 2) := by decide +kernel
theorem dX12_compare_103 : decode cX12_compare 103 = .ok (.lconst 0, 1) := by decide +kernel
theorem dX12_compare_104 : decode cX12_compare 104 = .ok (.lcmp, 1) := by decide +kernel
theorem dX12_compare_105 : decode cX12_compare 105 = .ok (.ifCond .le 7, 3) := by decide +kernel
theorem dX12_compare_108 : decode cX12_compare 108 = .ok (.iconst (-1), 1) := by decide +kernel
theorem dX12_compare_109 : decode cX12_compare 109 = .ok (.goto 23, 3) := by decide +kernel
theorem dX12_compare_112 : decode cX12_compare 112 = .ok (.lload 19, 2) := by decide +kernel
theorem dX12_compare_114 : decode cX12_compare 114 = .ok (.lload 21, 2) := by decide +kernel
theorem dX12_compare_116 : decode cX12_compare 116 = .ok (.lcmp, 1) := by decide +kernel
theorem dX12_compare_117 : decode cX12_compare 117 = .ok (.ifCond .ne 14, 3) := by decide +kernel
theorem dX12_compare_120 : decode cX12_compare 120 = .ok (.lload 23, 2) := by decide +kernel
theorem dX12_compare_122 : decode cX12_compare 122 = .ok (.lconst 0, 1) := by decide +kernel
theorem dX12_compare_123 : decode cX12_compare 123 = .ok (.lcmp, 1) := by decide +kernel
theorem dX12_compare_124 : decode cX12_compare 124 = .ok (.ifCond .ne 7, 3) := by decide +kernel
theorem dX12_compare_127 : decode cX12_compare 127 = .ok (.iconst 0, 1) := by decide +kernel
theorem dX12_compare_128 : decode cX12_compare 128 = .ok (.goto 4, 3) := by decide +kernel
theorem dX12_compare_131 : decode cX12_compare 131 = .ok (.iconst 1, 1) := by decide +kernel
theorem dX12_compare_132 : decode cX12_compare 132 = .ok (.istore 18, 2) := by decide +kernel
theorem dX12_compare_134 : decode cX12_compare 134 = .ok (.lload 19, 2) := by decide +kernel
theorem dX12_compare_136 : decode cX12_compare 136 = .ok (.lload 21, 2) := by decide +kernel
theorem dX12_compare_138 : decode cX12_compare 138 = .ok (.lcmp, 1) := by decide +kernel
theorem dX12_compare_139 : decode cX12_compare 139 = .ok (.ifCond .le 7, 3) := by decide +kernel
theorem dX12_compare_142 : decode cX12_compare 142 = .ok (.iconst 1, 1) := by decide +kernel
theorem dX12_compare_143 : decode cX12_compare 143 = .ok (.goto 5, 3) := by decide +kernel
theorem dX12_compare_146 : decode cX12_compare 146 = .ok (.iload 18, 2) := by decide +kernel
theorem dX12_compare_148 : decode cX12_compare 148 = .ok (.istore 18, 2) := by decide +kernel
theorem dX12_compare_150 : decode cX12_compare 150 = .ok (.iconst 0, 1) := by decide +kernel
theorem dX12_compare_151 : decode cX12_compare 151 = .ok (.istore 17, 2) := by decide +kernel
theorem dX12_compare_153 : decode cX12_compare 153 = .ok (.goto 24, 3) := by decide +kernel
theorem dX12_compare_156 : decode cX12_compare 156 = .ok (.lload 10, 2) := by decide +kernel
theorem dX12_compare_158 : decode cX12_compare 158 = .ok (.lstore 8, 2) := by decide +kernel
theorem dX12_compare_160 : decode cX12_compare 160 = .ok (.lload 23, 2) := by decide +kernel
theorem dX12_compare_162 : decode cX12_compare 162 = .ok (.lstore 10, 2) := by decide +kernel
theorem dX12_compare_164 : decode cX12_compare 164 = .ok (.lload 14, 2) := by decide +kernel
theorem dX12_compare_166 : decode cX12_compare 166 = .ok (.lstore 12, 2) := by decide +kernel
theorem dX12_compare_168 : decode cX12_compare 168 = .ok (.lload 25, 2) := by decide +kernel
theorem dX12_compare_170 : decode cX12_compare 170 = .ok (.lstore 14, 2) := by decide +kernel
theorem dX12_compare_172 : decode cX12_compare 172 = .ok (.iload 16, 2) := by decide +kernel
theorem dX12_compare_174 : decode cX12_compare 174 = .ok (.ineg, 1) := by decide +kernel
theorem dX12_compare_175 : decode cX12_compare 175 = .ok (.istore 16, 2) := by decide +kernel
theorem dX12_compare_177 : decode cX12_compare 177 = .ok (.goto (-154), 3) := by decide +kernel
theorem dX12_compare_180 : decode cX12_compare 180 = .ok (.iload 16, 2) := by decide +kernel
theorem dX12_compare_182 : decode cX12_compare 182 = .ok (.iload 18, 2) := by decide +kernel
theorem dX12_compare_184 : decode cX12_compare 184 = .ok (.imul, 1) := by decide +kernel
theorem dX12_compare_185 : decode cX12_compare 185 = .ok (.ireturn, 1) := by decide +kernel
theorem dX12_at_0 : decode cX12_at 0 = .ok (.aload_n 0, 1) := by decide +kernel
theorem dX12_at_1 : decode cX12_at 1 = .ok (.iload_n 1, 1) := by decide +kernel
theorem dX12_at_2 : decode cX12_at 2 = .ok (.invokevirtual 129, 3) := by decide +kernel
theorem dX12_at_5 : decode cX12_at 5 = .ok (.ifCond .eq 12, 3) := by decide +kernel
theorem dX12_at_8 : decode cX12_at 8 = .ok (.iload_n 2, 1) := by decide +kernel
theorem dX12_at_9 : decode cX12_at 9 = .ok (.ifCond .lt 8, 3) := by decide +kernel
theorem dX12_at_12 : decode cX12_at 12 = .ok (.iload_n 3, 1) := by decide +kernel
theorem dX12_at_13 : decode cX12_at 13 = .ok (.iconst 1, 1) := by decide +kernel
theorem dX12_at_14 : decode cX12_at 14 = .ok (.if_icmp .ge 6, 3) := by decide +kernel
theorem dX12_at_17 : decode cX12_at 17 = .ok (.bipush (-2), 2) := by decide +kernel
theorem dX12_at_19 : decode cX12_at 19 = .ok (.ireturn, 1) := by decide +kernel
theorem dX12_at_20 : decode cX12_at 20 = .ok (.aload_n 0, 1) := by decide +kernel
theorem dX12_at_21 : decode cX12_at 21 = .ok (.iload_n 1, 1) := by decide +kernel
theorem dX12_at_22 : decode cX12_at 22 = .ok (.aload_n 0, 1) := by decide +kernel
theorem dX12_at_23 : decode cX12_at 23 = .ok (.getfield 22, 3) := by decide +kernel
theorem dX12_at_26 : decode cX12_at 26 = .ok (.iload_n 1, 1) := by decide +kernel
theorem dX12_at_27 : decode cX12_at 27 = .ok (.iaload, 1) := by decide +kernel
theorem dX12_at_28 : decode cX12_at 28 = .ok (.invokevirtual 332, 3) := by decide +kernel
theorem dX12_at_31 : decode cX12_at 31 = .ok (.istore 4, 2) := by decide +kernel
theorem dX12_at_33 : decode cX12_at 33 = .ok (.iload 4, 2) := by decide +kernel
theorem dX12_at_35 : decode cX12_at 35 = .ok (.ifCond .ge 6, 3) := by decide +kernel
theorem dX12_at_38 : decode cX12_at 38 = .ok (.iload 4, 2) := by decide +kernel
theorem dX12_at_40 : decode cX12_at 40 = .ok (.ireturn, 1) := by decide +kernel
theorem dX12_at_41 : decode cX12_at 41 = .ok (.iconst (-1), 1) := by decide +kernel
theorem dX12_at_42 : decode cX12_at 42 = .ok (.istore 5, 2) := by decide +kernel
theorem dX12_at_44 : decode cX12_at 44 = .ok (.iconst 0, 1) := by decide +kernel
theorem dX12_at_45 : decode cX12_at 45 = .ok (.istore 6, 2) := by decide +kernel
theorem dX12_at_47 : decode cX12_at 47 = .ok (.iload 6, 2) := by decide +kernel
theorem dX12_at_49 : decode cX12_at 49 = .ok (.aload_n 0, 1) := by decide +kernel
theorem dX12_at_50 : decode cX12_at 50 = .ok (.getfield 13, 3) := by decide +kernel
theorem dX12_at_53 : decode cX12_at 53 = .ok (.iload_n 1, 1) := by decide +kernel
theorem dX12_at_54 : decode cX12_at 54 = .ok (.iaload, 1) := by decide +kernel
theorem dX12_at_55 : decode cX12_at 55 = .ok (.if_icmp .ge 102, 3) := by decide +kernel
theorem dX12_at_58 : decode cX12_at 58 = .ok (.aload_n 0, 1) := by decide +kernel
theorem dX12_at_59 : decode cX12_at 59 = .ok (.iload_n 1, 1) := by decide +kernel
theorem dX12_at_60 : decode cX12_at 60 = .ok (.iload 4, 2) := by decide +kernel
theorem dX12_at_62 : decode cX12_at 62 = .ok (.iload 6, 2) := by decide +kernel
theorem dX12_at_64 : decode cX12_at 64 = .ok (.invokevirtual 350, 3) := by decide +kernel
theorem dX12_at_67 : decode cX12_at 67 = .ok (.aload_n 0, 1) := by decide +kernel
theorem dX12_at_68 : decode cX12_at 68 = .ok (.getfield 339, 3) := by decide +kernel
theorem dX12_at_71 : decode cX12_at 71 = .ok (.aload_n 0, 1) := by decide +kernel
theorem dX12_at_72 : decode cX12_at 72 = .ok (.getfield 335, 3) := by decide +kernel
theorem dX12_at_75 : decode cX12_at 75 = .ok (.iload_n 2, 1) := by decide +kernel
theorem dX12_at_76 : decode cX12_at 76 = .ok (.i2l, 1) := by decide +kernel
theorem dX12_at_77 : decode cX12_at 77 = .ok (.iload_n 3, 1) := by decide +kernel
theorem dX12_at_78 : decode cX12_at 78 = .ok (.i2l, 1) := by decide +kernel
theorem dX12_at_79 : decode cX12_at 79 = .ok (.invokestatic 353, 3) := by decide +kernel
theorem dX12_at_82 : decode cX12_at 82 = .ok (.ifCond .gt 7, 3) := by decide +kernel
theorem dX12_at_85 : decode cX12_at 85 = .ok (.iconst 1, 1) := by decide +kernel
theorem dX12_at_86 : decode cX12_at 86 = .ok (.goto 4, 3) := by decide +kernel
theorem dX12_at_89 : decode cX12_at 89 = .ok (.iconst 0, 1) := by decide +kernel
theorem dX12_at_90 : decode cX12_at 90 = .ok (.istore 7, 2) := by decide +kernel
theorem dX12_at_92 : decode cX12_at 92 = .ok (.aload_n 0, 1) := by decide +kernel
theorem dX12_at_93 : decode cX12_at 93 = .ok (.iload_n 1, 1) := by decide +kernel
theorem dX12_at_94 : decode cX12_at 94 = .ok (.iload 4, 2) := by decide +kernel
theorem dX12_at_96 : decode cX12_at 96 = .ok (.iload 6, 2) := by decide +kernel
theorem dX12_at_98 : decode cX12_at 98 = .ok (.iconst 1, 1) := by decide +kernel
theorem dX12_at_99 : decode cX12_at 99 = .ok (.iadd, 1) := by decide +kernel
theorem dX12_at_100 : decode cX12_at 100 = .ok (.invokevirtual 350, 3) := by decide +kernel
theorem dX12_at_103 : decode cX12_at 103 = .ok (.iload 7, 2) := by decide +kernel
theorem dX12_at_105 : decode cX12_at 105 = .ok (.ifCond .eq 42, 3) := by decide +kernel
theorem dX12_at_108 : decode cX12_at 108 = .ok (.iload_n 2, 1) := by decide +kernel
theorem dX12_at_109 : decode cX12_at 109 = .ok (.i2l, 1) := by decide +kernel
theorem dX12_at_110 : decode cX12_at 110 = .ok (.iload_n 3, 1) := by decide +kernel
theorem dX12_at_111 : decode cX12_at 111 = .ok (.i2l, 1) := by decide +kernel
theorem dX12_at_112 : decode cX12_at 112 = .ok (.aload_n 0, 1) := by decide +kernel
theorem dX12_at_113 : decode cX12_at 113 = .ok (.getfield 339, 3) := by decide +kernel
theorem dX12_at_116 : decode cX12_at 116 = .ok (.aload_n 0, 1) := by decide +kernel
theorem dX12_at_117 : decode cX12_at 117 = .ok (.getfield 335, 3) := by decide +kernel
theorem dX12_at_120 : decode cX12_at 120 = .ok (.invokestatic 353, 3) := by decide +kernel
theorem dX12_at_123 : decode cX12_at 123 = .ok (.ifCond .ge 24, 3) := by decide +kernel
theorem dX12_at_126 : decode cX12_at 126 = .ok (.aload_n 0, 1) := by decide +kernel
theorem dX12_at_127 : decode cX12_at 127 = .ok (.getfield 25, 3) := by decide +kernel
theorem dX12_at_130 : decode cX12_at 130 = .ok (.bipush 24, 2) := by decide +kernel
theorem dX12_at_132 : decode cX12_at 132 = .ok (.iload_n 1, 1) := by decide +kernel
theorem dX12_at_133 : decode cX12_at 133 = .ok (.imul, 1) := by decide +kernel
theorem dX12_at_134 : decode cX12_at 134 = .ok (.iload 6, 2) := by decide +kernel
theorem dX12_at_136 : decode cX12_at 136 = .ok (.iadd, 1) := by decide +kernel
theorem dX12_at_137 : decode cX12_at 137 = .ok (.iaload, 1) := by decide +kernel
theorem dX12_at_138 : decode cX12_at 138 = .ok (.iconst 3, 1) := by decide +kernel
theorem dX12_at_139 : decode cX12_at 139 = .ok (.if_icmp .eq 8, 3) := by decide +kernel
theorem dX12_at_142 : decode cX12_at 142 = .ok (.iload 6, 2) := by decide +kernel
theorem dX12_at_144 : decode cX12_at 144 = .ok (.goto 5, 3) := by decide +kernel
theorem dX12_at_147 : decode cX12_at 147 = .ok (.iload 5, 2) := by decide +kernel
theorem dX12_at_149 : decode cX12_at 149 = .ok (.istore 5, 2) := by decide +kernel
theorem dX12_at_151 : decode cX12_at 151 = .ok (.iinc 6 1, 3) := by decide +kernel
theorem dX12_at_154 : decode cX12_at 154 = .ok (.goto (-107), 3) := by decide +kernel
theorem dX12_at_157 : decode cX12_at 157 = .ok (.iload 5, 2) := by decide +kernel
theorem dX12_at_159 : decode cX12_at 159 = .ok (.ireturn, 1) := by decide +kernel
theorem dX12_together_0 : decode cX12_together 0 = .ok (.iconst 1, 1) := by decide +kernel
theorem dX12_together_1 : decode cX12_together 1 = .ok (.istore_n 1, 1) := by decide +kernel
theorem dX12_together_2 : decode cX12_together 2 = .ok (.iconst 0, 1) := by decide +kernel
theorem dX12_together_3 : decode cX12_together 3 = .ok (.istore_n 2, 1) := by decide +kernel
theorem dX12_together_4 : decode cX12_together 4 = .ok (.lconst 0, 1) := by decide +kernel
theorem dX12_together_5 : decode cX12_together 5 = .ok (.lstore_n 3, 1) := by decide +kernel
theorem dX12_together_6 : decode cX12_together 6 = .ok (.lconst 1, 1) := by decide +kernel
theorem dX12_together_7 : decode cX12_together 7 = .ok (.lstore 5, 2) := by decide +kernel
theorem dX12_together_9 : decode cX12_together 9 = .ok (.iconst 0, 1) := by decide +kernel
theorem dX12_together_10 : decode cX12_together 10 = .ok (.istore 7, 2) := by decide +kernel
theorem dX12_together_12 : decode cX12_together 12 = .ok (.iload 7, 2) := by decide +kernel
theorem dX12_together_14 : decode cX12_together 14 = .ok (.aload_n 0, 1) := by decide +kernel
theorem dX12_together_15 : decode cX12_together 15 = .ok (.getfield 116, 3) := by decide +kernel
theorem dX12_together_18 : decode cX12_together 18 = .ok (.if_icmp .ge 111, 3) := by decide +kernel
theorem dX12_together_21 : decode cX12_together 21 = .ok (.aload_n 0, 1) := by decide +kernel
theorem dX12_together_22 : decode cX12_together 22 = .ok (.iload 7, 2) := by decide +kernel
theorem dX12_together_24 : decode cX12_together 24 = .ok (.aload_n 0, 1) := by decide +kernel
theorem dX12_together_25 : decode cX12_together 25 = .ok (.getfield 22, 3) := by decide +kernel
theorem dX12_together_28 : decode cX12_together 28 = .ok (.iload 7, 2) := by decide +kernel
theorem dX12_together_30 : decode cX12_together 30 = .ok (.iaload, 1) := by decide +kernel
theorem dX12_together_31 : decode cX12_together 31 = .ok (.invokevirtual 332, 3) := by decide +kernel
theorem dX12_together_34 : decode cX12_together 34 = .ok (.istore 8, 2) := by decide +kernel
theorem dX12_together_36 : decode cX12_together 36 = .ok (.iload_n 2, 1) := by decide +kernel
theorem dX12_together_37 : decode cX12_together 37 = .ok (.ifCond .ne 10, 3) := by decide +kernel
theorem dX12_together_40 : decode cX12_together 40 = .ok (.iload 8, 2) := by decide +kernel
theorem dX12_together_42 : decode cX12_together 42 = .ok (.bipush (-4), 2) := by decide +kernel
theorem dX12_together_44 : decode cX12_together 44 = .ok (.if_icmp .ne 7, 3) := by decide +kernel
theorem dX12_together_47 : decode cX12_together 47 = .ok (.iconst 1, 1) := by decide +kernel
theorem dX12_together_48 : decode cX12_together 48 = .ok (.goto 4, 3) := by decide +kernel
theorem dX12_together_51 : decode cX12_together 51 = .ok (.iconst 0, 1) := by decide +kernel
theorem dX12_together_52 : decode cX12_together 52 = .ok (.istore_n 2, 1) := by decide +kernel
theorem dX12_together_53 : decode cX12_together 53 = .ok (.iload 8, 2) := by decide +kernel
theorem dX12_together_55 : decode cX12_together 55 = .ok (.ifCond .lt 66, 3) := by decide +kernel
theorem dX12_together_58 : decode cX12_together 58 = .ok (.aload_n 0, 1) := by decide +kernel
theorem dX12_together_59 : decode cX12_together 59 = .ok (.iload 7, 2) := by decide +kernel
theorem dX12_together_61 : decode cX12_together 61 = .ok (.iload 8, 2) := by decide +kernel
theorem dX12_together_63 : decode cX12_together 63 = .ok (.aload_n 0, 1) := by decide +kernel
theorem dX12_together_64 : decode cX12_together 64 = .ok (.getfield 13, 3) := by decide +kernel
theorem dX12_together_67 : decode cX12_together 67 = .ok (.iload 7, 2) := by decide +kernel
theorem dX12_together_69 : decode cX12_together 69 = .ok (.iaload, 1) := by decide +kernel
theorem dX12_together_70 : decode cX12_together 70 = .ok (.invokevirtual 350, 3) := by decide +kernel
theorem dX12_together_73 : decode cX12_together 73 = .ok (.iload_n 1, 1) := by decide +kernel
theorem dX12_together_74 : decode cX12_together 74 = .ok (.ifCond .eq 31, 3) := by decide +kernel
theorem dX12_together_77 : decode cX12_together 77 = .ok (.iload 7, 2) := by decide +kernel
theorem dX12_together_79 : decode cX12_together 79 = .ok (.ifCond .eq 22, 3) := by decide +kernel
theorem dX12_together_82 : decode cX12_together 82 = .ok (.aload_n 0, 1) := by decide +kernel
theorem dX12_together_83 : decode cX12_together 83 = .ok (.getfield 339, 3) := by decide +kernel
theorem dX12_together_86 : decode cX12_together 86 = .ok (.lload_n 3, 1) := by decide +kernel
theorem dX12_together_87 : decode cX12_together 87 = .ok (.lcmp, 1) := by decide +kernel
theorem dX12_together_88 : decode cX12_together 88 = .ok (.ifCond .ne 17, 3) := by decide +kernel
theorem dX12_together_91 : decode cX12_together 91 = .ok (.aload_n 0, 1) := by decide +kernel
theorem dX12_together_92 : decode cX12_together 92 = .ok (.getfield 335, 3) := by decide +kernel
theorem dX12_together_95 : decode cX12_together 95 = .ok (.lload 5, 2) := by decide +kernel
theorem dX12_together_97 : decode cX12_together 97 = .ok (.lcmp, 1) := by decide +kernel
theorem dX12_together_98 : decode cX12_together 98 = .ok (.ifCond .ne 7, 3) := by decide +kernel
theorem dX12_together_101 : decode cX12_together 101 = .ok (.iconst 1, 1) := by decide +kernel
theorem dX12_together_102 : decode cX12_together 102 = .ok (.goto 4, 3) := by decide +kernel
theorem dX12_together_105 : decode cX12_together 105 = .ok (.iconst 0, 1) := by decide +kernel
theorem dX12_together_106 : decode cX12_together 106 = .ok (.istore_n 1, 1) := by decide +kernel
theorem dX12_together_107 : decode cX12_together 107 = .ok (.aload_n 0, 1) := by decide +kernel
theorem dX12_together_108 : decode cX12_together 108 = .ok (.getfield 339, 3) := by decide +kernel
theorem dX12_together_111 : decode cX12_together 111 = .ok (.lstore_n 3, 1) := by decide +kernel
theorem dX12_together_112 : decode cX12_together 112 = .ok (.aload_n 0, 1) := by decide +kernel
theorem dX12_together_113 : decode cX12_together 113 = .ok (.getfield 335, 3) := by decide +kernel
theorem dX12_together_116 : decode cX12_together 116 = .ok (.lstore 5, 2) := by decide +kernel
theorem dX12_together_118 : decode cX12_together 118 = .ok (.goto 5, 3) := by decide +kernel
theorem dX12_together_121 : decode cX12_together 121 = .ok (.iconst 0, 1) := by decide +kernel
theorem dX12_together_122 : decode cX12_together 122 = .ok (.istore_n 1, 1) := by decide +kernel
theorem dX12_together_123 : decode cX12_together 123 = .ok (.iinc 7 1, 3) := by decide +kernel
theorem dX12_together_126 : decode cX12_together 126 = .ok (.goto (-114), 3) := by decide +kernel
theorem dX12_together_129 : decode cX12_together 129 = .ok (.iload_n 2, 1) := by decide +kernel
theorem dX12_together_130 : decode cX12_together 130 = .ok (.ifCond .eq 8, 3) := by decide +kernel
theorem dX12_together_133 : decode cX12_together 133 = .ok (.bipush (-4), 2) := by decide +kernel
theorem dX12_together_135 : decode cX12_together 135 = .ok (.goto 12, 3) := by decide +kernel
theorem dX12_together_138 : decode cX12_together 138 = .ok (.iload_n 1, 1) := by decide +kernel
theorem dX12_together_139 : decode cX12_together 139 = .ok (.ifCond .eq 7, 3) := by decide +kernel
theorem dX12_together_142 : decode cX12_together 142 = .ok (.iconst 1, 1) := by decide +kernel
theorem dX12_together_143 : decode cX12_together 143 = .ok (.goto 4, 3) := by decide +kernel
theorem dX12_together_146 : decode cX12_together 146 = .ok (.iconst 0, 1) := by decide +kernel
theorem dX12_together_147 : decode cX12_together 147 = .ok (.ireturn, 1) := by decide +kernel
theorem dX12_meet_0 : decode cX12_meet 0 = .ok (.aload_n 0, 1) := by decide +kernel
theorem dX12_meet_1 : decode cX12_meet 1 = .ok (.iload_n 1, 1) := by decide +kernel
theorem dX12_meet_2 : decode cX12_meet 2 = .ok (.invokevirtual 129, 3) := by decide +kernel
theorem dX12_meet_5 : decode cX12_meet 5 = .ok (.ifCond .eq 21, 3) := by decide +kernel
theorem dX12_meet_8 : decode cX12_meet 8 = .ok (.aload_n 0, 1) := by decide +kernel
theorem dX12_meet_9 : decode cX12_meet 9 = .ok (.iload_n 2, 1) := by decide +kernel
theorem dX12_meet_10 : decode cX12_meet 10 = .ok (.invokevirtual 129, 3) := by decide +kernel
theorem dX12_meet_13 : decode cX12_meet 13 = .ok (.ifCond .eq 13, 3) := by decide +kernel
theorem dX12_meet_16 : decode cX12_meet 16 = .ok (.iload_n 3, 1) := by decide +kernel
theorem dX12_meet_17 : decode cX12_meet 17 = .ok (.i2l, 1) := by decide +kernel
theorem dX12_meet_18 : decode cX12_meet 18 = .ok (.lconst 0, 1) := by decide +kernel
theorem dX12_meet_19 : decode cX12_meet 19 = .ok (.lconst 1, 1) := by decide +kernel
theorem dX12_meet_20 : decode cX12_meet 20 = .ok (.invokestatic 119, 3) := by decide +kernel
theorem dX12_meet_23 : decode cX12_meet 23 = .ok (.ifCond .ne 6, 3) := by decide +kernel
theorem dX12_meet_26 : decode cX12_meet 26 = .ok (.bipush (-2), 2) := by decide +kernel
theorem dX12_meet_28 : decode cX12_meet 28 = .ok (.ireturn, 1) := by decide +kernel
theorem dX12_meet_29 : decode cX12_meet 29 = .ok (.aload_n 0, 1) := by decide +kernel
theorem dX12_meet_30 : decode cX12_meet 30 = .ok (.iload_n 1, 1) := by decide +kernel
theorem dX12_meet_31 : decode cX12_meet 31 = .ok (.aload_n 0, 1) := by decide +kernel
theorem dX12_meet_32 : decode cX12_meet 32 = .ok (.getfield 22, 3) := by decide +kernel
theorem dX12_meet_35 : decode cX12_meet 35 = .ok (.iload_n 1, 1) := by decide +kernel
theorem dX12_meet_36 : decode cX12_meet 36 = .ok (.iaload, 1) := by decide +kernel
theorem dX12_meet_37 : decode cX12_meet 37 = .ok (.invokevirtual 332, 3) := by decide +kernel
theorem dX12_meet_40 : decode cX12_meet 40 = .ok (.istore 4, 2) := by decide +kernel
theorem dX12_meet_42 : decode cX12_meet 42 = .ok (.aload_n 0, 1) := by decide +kernel
theorem dX12_meet_43 : decode cX12_meet 43 = .ok (.iload_n 2, 1) := by decide +kernel
theorem dX12_meet_44 : decode cX12_meet 44 = .ok (.aload_n 0, 1) := by decide +kernel
theorem dX12_meet_45 : decode cX12_meet 45 = .ok (.getfield 22, 3) := by decide +kernel
theorem dX12_meet_48 : decode cX12_meet 48 = .ok (.iload_n 2, 1) := by decide +kernel
theorem dX12_meet_49 : decode cX12_meet 49 = .ok (.iaload, 1) := by decide +kernel
theorem dX12_meet_50 : decode cX12_meet 50 = .ok (.invokevirtual 332, 3) := by decide +kernel
theorem dX12_meet_53 : decode cX12_meet 53 = .ok (.istore 5, 2) := by decide +kernel
theorem dX12_meet_55 : decode cX12_meet 55 = .ok (.iload 4, 2) := by decide +kernel
theorem dX12_meet_57 : decode cX12_meet 57 = .ok (.bipush (-4), 2) := by decide +kernel
theorem dX12_meet_59 : decode cX12_meet 59 = .ok (.if_icmp .eq 10, 3) := by decide +kernel
theorem dX12_meet_62 : decode cX12_meet 62 = .ok (.iload 5, 2) := by decide +kernel
theorem dX12_meet_64 : decode cX12_meet 64 = .ok (.bipush (-4), 2) := by decide +kernel
theorem dX12_meet_66 : decode cX12_meet 66 = .ok (.if_icmp .ne 6, 3) := by decide +kernel
theorem dX12_meet_69 : decode cX12_meet 69 = .ok (.bipush (-4), 2) := by decide +kernel
theorem dX12_meet_71 : decode cX12_meet 71 = .ok (.ireturn, 1) := by decide +kernel
theorem dX12_meet_72 : decode cX12_meet 72 = .ok (.iload 4, 2) := by decide +kernel
theorem dX12_meet_74 : decode cX12_meet 74 = .ok (.ifCond .lt 8, 3) := by decide +kernel
theorem dX12_meet_77 : decode cX12_meet 77 = .ok (.iload 5, 2) := by decide +kernel
theorem dX12_meet_79 : decode cX12_meet 79 = .ok (.ifCond .ge 5, 3) := by decide +kernel
theorem dX12_meet_82 : decode cX12_meet 82 = .ok (.iconst (-1), 1) := by decide +kernel
theorem dX12_meet_83 : decode cX12_meet 83 = .ok (.ireturn, 1) := by decide +kernel
theorem dX12_meet_84 : decode cX12_meet 84 = .ok (.iconst 0, 1) := by decide +kernel
theorem dX12_meet_85 : decode cX12_meet 85 = .ok (.istore 6, 2) := by decide +kernel
theorem dX12_meet_87 : decode cX12_meet 87 = .ok (.iload 6, 2) := by decide +kernel
theorem dX12_meet_89 : decode cX12_meet 89 = .ok (.aload_n 0, 1) := by decide +kernel
theorem dX12_meet_90 : decode cX12_meet 90 = .ok (.getfield 13, 3) := by decide +kernel
theorem dX12_meet_93 : decode cX12_meet 93 = .ok (.iload_n 2, 1) := by decide +kernel
theorem dX12_meet_94 : decode cX12_meet 94 = .ok (.iaload, 1) := by decide +kernel
theorem dX12_meet_95 : decode cX12_meet 95 = .ok (.if_icmp .ge 40, 3) := by decide +kernel
theorem dX12_meet_98 : decode cX12_meet 98 = .ok (.aload_n 0, 1) := by decide +kernel
theorem dX12_meet_99 : decode cX12_meet 99 = .ok (.iload_n 2, 1) := by decide +kernel
theorem dX12_meet_100 : decode cX12_meet 100 = .ok (.iload 5, 2) := by decide +kernel
theorem dX12_meet_102 : decode cX12_meet 102 = .ok (.iload 6, 2) := by decide +kernel
theorem dX12_meet_104 : decode cX12_meet 104 = .ok (.invokevirtual 350, 3) := by decide +kernel
theorem dX12_meet_107 : decode cX12_meet 107 = .ok (.aload_n 0, 1) := by decide +kernel
theorem dX12_meet_108 : decode cX12_meet 108 = .ok (.getfield 93, 3) := by decide +kernel
theorem dX12_meet_111 : decode cX12_meet 111 = .ok (.iload 6, 2) := by decide +kernel
theorem dX12_meet_113 : decode cX12_meet 113 = .ok (.aload_n 0, 1) := by decide +kernel
theorem dX12_meet_114 : decode cX12_meet 114 = .ok (.getfield 339, 3) := by decide +kernel
theorem dX12_meet_117 : decode cX12_meet 117 = .ok (.lastore, 1) := by decide +kernel
theorem dX12_meet_118 : decode cX12_meet 118 = .ok (.aload_n 0, 1) := by decide +kernel
theorem dX12_meet_119 : decode cX12_meet 119 = .ok (.getfield 97, 3) := by decide +kernel
theorem dX12_meet_122 : decode cX12_meet 122 = .ok (.iload 6, 2) := by decide +kernel
theorem dX12_meet_124 : decode cX12_meet 124 = .ok (.aload_n 0, 1) := by decide +kernel
theorem dX12_meet_125 : decode cX12_meet 125 = .ok (.getfield 335, 3) := by decide +kernel
theorem dX12_meet_128 : decode cX12_meet 128 = .ok (.lastore, 1) := by decide +kernel
theorem dX12_meet_129 : decode cX12_meet 129 = .ok (.iinc 6 1, 3) := by decide +kernel
theorem dX12_meet_132 : decode cX12_meet 132 = .ok (.goto (-45), 3) := by decide +kernel
theorem dX12_meet_135 : decode cX12_meet 135 = .ok (.aload_n 0, 1) := by decide +kernel
theorem dX12_meet_136 : decode cX12_meet 136 = .ok (.iload_n 1, 1) := by decide +kernel
theorem dX12_meet_137 : decode cX12_meet 137 = .ok (.aload_n 0, 1) := by decide +kernel
theorem dX12_meet_138 : decode cX12_meet 138 = .ok (.getfield 22, 3) := by decide +kernel
theorem dX12_meet_141 : decode cX12_meet 141 = .ok (.iload_n 1, 1) := by decide +kernel
theorem dX12_meet_142 : decode cX12_meet 142 = .ok (.iaload, 1) := by decide +kernel
theorem dX12_meet_143 : decode cX12_meet 143 = .ok (.invokevirtual 332, 3) := by decide +kernel
theorem dX12_meet_146 : decode cX12_meet 146 = .ok (.istore 4, 2) := by decide +kernel
theorem dX12_meet_148 : decode cX12_meet 148 = .ok (.iconst 0, 1) := by decide +kernel
theorem dX12_meet_149 : decode cX12_meet 149 = .ok (.istore 6, 2) := by decide +kernel
theorem dX12_meet_151 : decode cX12_meet 151 = .ok (.iconst 0, 1) := by decide +kernel
theorem dX12_meet_152 : decode cX12_meet 152 = .ok (.istore 7, 2) := by decide +kernel
theorem dX12_meet_154 : decode cX12_meet 154 = .ok (.iconst 0, 1) := by decide +kernel
theorem dX12_meet_155 : decode cX12_meet 155 = .ok (.istore 8, 2) := by decide +kernel
theorem dX12_meet_157 : decode cX12_meet 157 = .ok (.iload 8, 2) := by decide +kernel
theorem dX12_meet_159 : decode cX12_meet 159 = .ok (.aload_n 0, 1) := by decide +kernel
theorem dX12_meet_160 : decode cX12_meet 160 = .ok (.getfield 13, 3) := by decide +kernel
theorem dX12_meet_163 : decode cX12_meet 163 = .ok (.iload_n 1, 1) := by decide +kernel
theorem dX12_meet_164 : decode cX12_meet 164 = .ok (.iaload, 1) := by decide +kernel
theorem dX12_meet_165 : decode cX12_meet 165 = .ok (.if_icmp .ge 207, 3) := by decide +kernel
theorem dX12_meet_168 : decode cX12_meet 168 = .ok (.aload_n 0, 1) := by decide +kernel
theorem dX12_meet_169 : decode cX12_meet 169 = .ok (.iload_n 1, 1) := by decide +kernel
theorem dX12_meet_170 : decode cX12_meet 170 = .ok (.iload 4, 2) := by decide +kernel
theorem dX12_meet_172 : decode cX12_meet 172 = .ok (.iload 8, 2) := by decide +kernel
theorem dX12_meet_174 : decode cX12_meet 174 = .ok (.invokevirtual 350, 3) := by decide +kernel
theorem dX12_meet_177 : decode cX12_meet 177 = .ok (.iconst 0, 1) := by decide +kernel
theorem dX12_meet_178 : decode cX12_meet 178 = .ok (.istore 9, 2) := by decide +kernel
theorem dX12_meet_180 : decode cX12_meet 180 = .ok (.iload 9, 2) := by decide +kernel
theorem dX12_meet_182 : decode cX12_meet 182 = .ok (.aload_n 0, 1) := by decide +kernel
theorem dX12_meet_183 : decode cX12_meet 183 = .ok (.getfield 13, 3) := by decide +kernel
theorem dX12_meet_186 : decode cX12_meet 186 = .ok (.iload_n 2, 1) := by decide +kernel
theorem dX12_meet_187 : decode cX12_meet 187 = .ok (.iaload, 1) := by decide +kernel
theorem dX12_meet_188 : decode cX12_meet 188 = .ok (.if_icmp .ge 178, 3) := by decide +kernel
theorem dX12_meet_191 : decode cX12_meet 191 = .ok (.aload_n 0, 1) := by decide +kernel
theorem dX12_meet_192 : decode cX12_meet 192 = .ok (.getfield 25, 3) := by decide +kernel
theorem dX12_meet_195 : decode cX12_meet 195 = .ok (.bipush 24, 2) := by decide +kernel
theorem dX12_meet_197 : decode cX12_meet 197 = .ok (.iload_n 1, 1) := by decide +kernel
theorem dX12_meet_198 : decode cX12_meet 198 = .ok (.imul, 1) := by decide +kernel
theorem dX12_meet_199 : decode cX12_meet 199 = .ok (.iload 8, 2) := by decide +kernel
theorem dX12_meet_201 : decode cX12_meet 201 = .ok (.iadd, 1) := by decide +kernel
theorem dX12_meet_202 : decode cX12_meet 202 = .ok (.iaload, 1) := by decide +kernel
theorem dX12_meet_203 : decode cX12_meet 203 = .ok (.iconst 1, 1) := by decide +kernel
theorem dX12_meet_204 : decode cX12_meet 204 = .ok (.if_icmp .ne 53, 3) := by decide +kernel
theorem dX12_meet_207 : decode cX12_meet 207 = .ok (.aload_n 0, 1) := by decide +kernel
theorem dX12_meet_208 : decode cX12_meet 208 = .ok (.getfield 25, 3) := by decide +kernel
theorem dX12_meet_211 : decode cX12_meet 211 = .ok (.bipush 24, 2) := by decide +kernel
theorem dX12_meet_213 : decode cX12_meet 213 = .ok (.iload_n 2, 1) := by decide +kernel
theorem dX12_meet_214 : decode cX12_meet 214 = .ok (.imul, 1) := by decide +kernel
theorem dX12_meet_215 : decode cX12_meet 215 = .ok (.iload 9, 2) := by decide +kernel
theorem dX12_meet_217 : decode cX12_meet 217 = .ok (.iadd, 1) := by decide +kernel
theorem dX12_meet_218 : decode cX12_meet 218 = .ok (.iaload, 1) := by decide +kernel
theorem dX12_meet_219 : decode cX12_meet 219 = .ok (.iconst 1, 1) := by decide +kernel
theorem dX12_meet_220 : decode cX12_meet 220 = .ok (.if_icmp .ne 37, 3) := by decide +kernel
theorem dX12_meet_223 : decode cX12_meet 223 = .ok (.aload_n 0, 1) := by decide +kernel
theorem dX12_meet_224 : decode cX12_meet 224 = .ok (.getfield 339, 3) := by decide +kernel
theorem dX12_meet_227 : decode cX12_meet 227 = .ok (.aload_n 0, 1) := by decide +kernel
theorem dX12_meet_228 : decode cX12_meet 228 = .ok (.getfield 93, 3) := by decide +kernel
theorem dX12_meet_231 : decode cX12_meet 231 = .ok (.iload 9, 2) := by decide +kernel
theorem dX12_meet_233 : decode cX12_meet 233 = .ok (.laload, 1) := by decide +kernel
theorem dX12_meet_234 : decode cX12_meet 234 = .ok (.lcmp, 1) := by decide +kernel
theorem dX12_meet_235 : decode cX12_meet 235 = .ok (.ifCond .ne 22, 3) := by decide +kernel
theorem dX12_meet_238 : decode cX12_meet 238 = .ok (.aload_n 0, 1) := by decide +kernel
theorem dX12_meet_239 : decode cX12_meet 239 = .ok (.getfield 335, 3) := by decide +kernel
theorem dX12_meet_242 : decode cX12_meet 242 = .ok (.aload_n 0, 1) := by decide +kernel
theorem dX12_meet_243 : decode cX12_meet 243 = .ok (.getfield 97, 3) := by decide +kernel
theorem dX12_meet_246 : decode cX12_meet 246 = .ok (.iload 9, 2) := by decide +kernel
theorem dX12_meet_248 : decode cX12_meet 248 = .ok (.laload, 1) := by decide +kernel
theorem dX12_meet_249 : decode cX12_meet 249 = .ok (.lcmp, 1) := by decide +kernel
theorem dX12_meet_250 : decode cX12_meet 250 = .ok (.ifCond .ne 7, 3) := by decide +kernel
theorem dX12_meet_253 : decode cX12_meet 253 = .ok (.iconst 1, 1) := by decide +kernel
theorem dX12_meet_254 : decode cX12_meet 254 = .ok (.goto 4, 3) := by decide +kernel
theorem dX12_meet_257 : decode cX12_meet 257 = .ok (.iconst 0, 1) := by decide +kernel
theorem dX12_meet_258 : decode cX12_meet 258 = .ok (.istore 10, 2) := by decide +kernel
theorem dX12_meet_260 : decode cX12_meet 260 = .ok (.aload_n 0, 1) := by decide +kernel
theorem dX12_meet_261 : decode cX12_meet 261 = .ok (.getfield 31, 3) := by decide +kernel
theorem dX12_meet_264 : decode cX12_meet 264 = .ok (.bipush 24, 2) := by decide +kernel
theorem dX12_meet_266 : decode cX12_meet 266 = .ok (.iload_n 1, 1) := by decide +kernel
theorem dX12_meet_267 : decode cX12_meet 267 = .ok (.imul, 1) := by decide +kernel
theorem dX12_meet_268 : decode cX12_meet 268 = .ok (.iload 8, 2) := by decide +kernel
theorem dX12_meet_270 : decode cX12_meet 270 = .ok (.iadd, 1) := by decide +kernel
theorem dX12_meet_271 : decode cX12_meet 271 = .ok (.iaload, 1) := by decide +kernel
theorem dX12_meet_272 : decode cX12_meet 272 = .ok (.aload_n 0, 1) := by decide +kernel
theorem dX12_meet_273 : decode cX12_meet 273 = .ok (.getfield 31, 3) := by decide +kernel
theorem dX12_meet_276 : decode cX12_meet 276 = .ok (.bipush 24, 2) := by decide +kernel
theorem dX12_meet_278 : decode cX12_meet 278 = .ok (.iload_n 2, 1) := by decide +kernel
theorem dX12_meet_279 : decode cX12_meet 279 = .ok (.imul, 1) := by decide +kernel
theorem dX12_meet_280 : decode cX12_meet 280 = .ok (.iload 9, 2) := by decide +kernel
theorem dX12_meet_282 : decode cX12_meet 282 = .ok (.iadd, 1) := by decide +kernel
theorem dX12_meet_283 : decode cX12_meet 283 = .ok (.iaload, 1) := by decide +kernel
theorem dX12_meet_284 : decode cX12_meet 284 = .ok (.isub, 1) := by decide +kernel
theorem dX12_meet_285 : decode cX12_meet 285 = .ok (.istore 11, 2) := by decide +kernel
theorem dX12_meet_287 : decode cX12_meet 287 = .ok (.iload 11, 2) := by decide +kernel
theorem dX12_meet_289 : decode cX12_meet 289 = .ok (.ifCond .ge 9, 3) := by decide +kernel
theorem dX12_meet_292 : decode cX12_meet 292 = .ok (.iload 11, 2) := by decide +kernel
theorem dX12_meet_294 : decode cX12_meet 294 = .ok (.ineg, 1) := by decide +kernel
theorem dX12_meet_295 : decode cX12_meet 295 = .ok (.goto 5, 3) := by decide +kernel
theorem dX12_meet_298 : decode cX12_meet 298 = .ok (.iload 11, 2) := by decide +kernel
theorem dX12_meet_300 : decode cX12_meet 300 = .ok (.bipush 7, 2) := by decide +kernel
theorem dX12_meet_302 : decode cX12_meet 302 = .ok (.irem, 1) := by decide +kernel
theorem dX12_meet_303 : decode cX12_meet 303 = .ok (.istore 11, 2) := by decide +kernel
theorem dX12_meet_305 : decode cX12_meet 305 = .ok (.iload 10, 2) := by decide +kernel
theorem dX12_meet_307 : decode cX12_meet 307 = .ok (.ifCond .eq 10, 3) := by decide +kernel
theorem dX12_meet_310 : decode cX12_meet 310 = .ok (.iload 6, 2) := by decide +kernel
theorem dX12_meet_312 : decode cX12_meet 312 = .ok (.iconst 1, 1) := by decide +kernel
theorem dX12_meet_313 : decode cX12_meet 313 = .ok (.iadd, 1) := by decide +kernel
theorem dX12_meet_314 : decode cX12_meet 314 = .ok (.goto 5, 3) := by decide +kernel
theorem dX12_meet_317 : decode cX12_meet 317 = .ok (.iload 6, 2) := by decide +kernel
theorem dX12_meet_319 : decode cX12_meet 319 = .ok (.istore 6, 2) := by decide +kernel
theorem dX12_meet_321 : decode cX12_meet 321 = .ok (.iload 10, 2) := by decide +kernel
theorem dX12_meet_323 : decode cX12_meet 323 = .ok (.ifCond .eq 33, 3) := by decide +kernel
theorem dX12_meet_326 : decode cX12_meet 326 = .ok (.iload 11, 2) := by decide +kernel
theorem dX12_meet_328 : decode cX12_meet 328 = .ok (.ifCond .eq 21, 3) := by decide +kernel
theorem dX12_meet_331 : decode cX12_meet 331 = .ok (.iload 11, 2) := by decide +kernel
theorem dX12_meet_333 : decode cX12_meet 333 = .ok (.iconst 2, 1) := by decide +kernel
theorem dX12_meet_334 : decode cX12_meet 334 = .ok (.if_icmp .eq 15, 3) := by decide +kernel
theorem dX12_meet_337 : decode cX12_meet 337 = .ok (.iload 11, 2) := by decide +kernel
theorem dX12_meet_339 : decode cX12_meet 339 = .ok (.iconst 4, 1) := by decide +kernel
theorem dX12_meet_340 : decode cX12_meet 340 = .ok (.if_icmp .eq 9, 3) := by decide +kernel
theorem dX12_meet_343 : decode cX12_meet 343 = .ok (.iload 11, 2) := by decide +kernel
theorem dX12_meet_345 : decode cX12_meet 345 = .ok (.iconst 5, 1) := by decide +kernel
theorem dX12_meet_346 : decode cX12_meet 346 = .ok (.if_icmp .ne 10, 3) := by decide +kernel
theorem dX12_meet_349 : decode cX12_meet 349 = .ok (.iload 7, 2) := by decide +kernel
theorem dX12_meet_351 : decode cX12_meet 351 = .ok (.iconst 1, 1) := by decide +kernel
theorem dX12_meet_352 : decode cX12_meet 352 = .ok (.iadd, 1) := by decide +kernel
theorem dX12_meet_353 : decode cX12_meet 353 = .ok (.goto 5, 3) := by decide +kernel
theorem dX12_meet_356 : decode cX12_meet 356 = .ok (.iload 7, 2) := by decide +kernel
theorem dX12_meet_358 : decode cX12_meet 358 = .ok (.istore 7, 2) := by decide +kernel
theorem dX12_meet_360 : decode cX12_meet 360 = .ok (.iinc 9 1, 3) := by decide +kernel
theorem dX12_meet_363 : decode cX12_meet 363 = .ok (.goto (-183), 3) := by decide +kernel
theorem dX12_meet_366 : decode cX12_meet 366 = .ok (.iinc 8 1, 3) := by decide +kernel
theorem dX12_meet_369 : decode cX12_meet 369 = .ok (.goto (-212), 3) := by decide +kernel
theorem dX12_meet_372 : decode cX12_meet 372 = .ok (.iload_n 3, 1) := by decide +kernel
theorem dX12_meet_373 : decode cX12_meet 373 = .ok (.ifCond .ne 8, 3) := by decide +kernel
theorem dX12_meet_376 : decode cX12_meet 376 = .ok (.iload 6, 2) := by decide +kernel
theorem dX12_meet_378 : decode cX12_meet 378 = .ok (.goto 5, 3) := by decide +kernel
theorem dX12_meet_381 : decode cX12_meet 381 = .ok (.iload 7, 2) := by decide +kernel
theorem dX12_meet_383 : decode cX12_meet 383 = .ok (.ireturn, 1) := by decide +kernel
theorem dX12_canon_0 : decode cX12_canon 0 = .ok (.aload_n 0, 1) := by decide +kernel
theorem dX12_canon_1 : decode cX12_canon 1 = .ok (.iload_n 1, 1) := by decide +kernel
theorem dX12_canon_2 : decode cX12_canon 2 = .ok (.invokevirtual 129, 3) := by decide +kernel
theorem dX12_canon_5 : decode cX12_canon 5 = .ok (.ifCond .eq 42, 3) := by decide +kernel
theorem dX12_canon_8 : decode cX12_canon 8 = .ok (.iload_n 2, 1) := by decide +kernel
theorem dX12_canon_9 : decode cX12_canon 9 = .ok (.i2l, 1) := by decide +kernel
theorem dX12_canon_10 : decode cX12_canon 10 = .ok (.lconst 0, 1) := by decide +kernel
theorem dX12_canon_11 : decode cX12_canon 11 = .ok (.ldc2_w 357, 3) := by decide +kernel
theorem dX12_canon_14 : decode cX12_canon 14 = .ok (.invokestatic 119, 3) := by decide +kernel
theorem dX12_canon_17 : decode cX12_canon 17 = .ok (.ifCond .eq 30, 3) := by decide +kernel
theorem dX12_canon_20 : decode cX12_canon 20 = .ok (.iload_n 3, 1) := by decide +kernel
theorem dX12_canon_21 : decode cX12_canon 21 = .ok (.i2l, 1) := by decide +kernel
theorem dX12_canon_22 : decode cX12_canon 22 = .ok (.lconst 0, 1) := by decide +kernel
theorem dX12_canon_23 : decode cX12_canon 23 = .ok (.ldc2_w 359, 3) := by decide +kernel
theorem dX12_canon_26 : decode cX12_canon 26 = .ok (.invokestatic 119, 3) := by decide +kernel
theorem dX12_canon_29 : decode cX12_canon 29 = .ok (.ifCond .eq 18, 3) := by decide +kernel
theorem dX12_canon_32 : decode cX12_canon 32 = .ok (.iload 4, 2) := by decide +kernel
theorem dX12_canon_34 : decode cX12_canon 34 = .ok (.i2l, 1) := by decide +kernel
theorem dX12_canon_35 : decode cX12_canon 35 = .ok (.ldc2_w 135, 3) := by decide +kernel
theorem dX12_canon_38 : decode cX12_canon 38 = .ok (.ldc2_w 137, 3) := by decide +kernel
theorem dX12_canon_41 : decode cX12_canon 41 = .ok (.invokestatic 119, 3) := by decide +kernel
theorem dX12_canon_44 : decode cX12_canon 44 = .ok (.ifCond .ne 6, 3) := by decide +kernel
theorem dX12_canon_47 : decode cX12_canon 47 = .ok (.bipush (-2), 2) := by decide +kernel
theorem dX12_canon_49 : decode cX12_canon 49 = .ok (.ireturn, 1) := by decide +kernel
theorem dX12_canon_50 : decode cX12_canon 50 = .ok (.aload_n 0, 1) := by decide +kernel
theorem dX12_canon_51 : decode cX12_canon 51 = .ok (.iload_n 1, 1) := by decide +kernel
theorem dX12_canon_52 : decode cX12_canon 52 = .ok (.aload_n 0, 1) := by decide +kernel
theorem dX12_canon_53 : decode cX12_canon 53 = .ok (.getfield 22, 3) := by decide +kernel
theorem dX12_canon_56 : decode cX12_canon 56 = .ok (.iload_n 1, 1) := by decide +kernel
theorem dX12_canon_57 : decode cX12_canon 57 = .ok (.iaload, 1) := by decide +kernel
theorem dX12_canon_58 : decode cX12_canon 58 = .ok (.invokevirtual 332, 3) := by decide +kernel
theorem dX12_canon_61 : decode cX12_canon 61 = .ok (.istore 5, 2) := by decide +kernel
theorem dX12_canon_63 : decode cX12_canon 63 = .ok (.iload 5, 2) := by decide +kernel
theorem dX12_canon_65 : decode cX12_canon 65 = .ok (.ifCond .ge 6, 3) := by decide +kernel
theorem dX12_canon_68 : decode cX12_canon 68 = .ok (.iload 5, 2) := by decide +kernel
theorem dX12_canon_70 : decode cX12_canon 70 = .ok (.ireturn, 1) := by decide +kernel
theorem dX12_canon_71 : decode cX12_canon 71 = .ok (.aload_n 0, 1) := by decide +kernel
theorem dX12_canon_72 : decode cX12_canon 72 = .ok (.getfield 361, 3) := by decide +kernel
theorem dX12_canon_75 : decode cX12_canon 75 = .ok (.bipush 6, 2) := by decide +kernel
theorem dX12_canon_77 : decode cX12_canon 77 = .ok (.if_icmp .ne 6, 3) := by decide +kernel
theorem dX12_canon_80 : decode cX12_canon 80 = .ok (.bipush (-3), 2) := by decide +kernel
theorem dX12_canon_82 : decode cX12_canon 82 = .ok (.ireturn, 1) := by decide +kernel
theorem dX12_canon_83 : decode cX12_canon 83 = .ok (.iload_n 2, 1) := by decide +kernel
theorem dX12_canon_84 : decode cX12_canon 84 = .ok (.iconst 1, 1) := by decide +kernel
theorem dX12_canon_85 : decode cX12_canon 85 = .ok (.iand, 1) := by decide +kernel
theorem dX12_canon_86 : decode cX12_canon 86 = .ok (.ifCond .eq 7, 3) := by decide +kernel
theorem dX12_canon_89 : decode cX12_canon 89 = .ok (.iconst 1, 1) := by decide +kernel
theorem dX12_canon_90 : decode cX12_canon 90 = .ok (.goto 4, 3) := by decide +kernel
theorem dX12_canon_93 : decode cX12_canon 93 = .ok (.iconst 0, 1) := by decide +kernel
theorem dX12_canon_94 : decode cX12_canon 94 = .ok (.istore 6, 2) := by decide +kernel
theorem dX12_canon_96 : decode cX12_canon 96 = .ok (.aload_n 0, 1) := by decide +kernel
theorem dX12_canon_97 : decode cX12_canon 97 = .ok (.getfield 361, 3) := by decide +kernel
theorem dX12_canon_100 : decode cX12_canon 100 = .ok (.istore 7, 2) := by decide +kernel
theorem dX12_canon_102 : decode cX12_canon 102 = .ok (.iconst 0, 1) := by decide +kernel
theorem dX12_canon_103 : decode cX12_canon 103 = .ok (.istore 8, 2) := by decide +kernel
theorem dX12_canon_105 : decode cX12_canon 105 = .ok (.iconst 0, 1) := by decide +kernel
theorem dX12_canon_106 : decode cX12_canon 106 = .ok (.istore 9, 2) := by decide +kernel
theorem dX12_canon_108 : decode cX12_canon 108 = .ok (.iconst 0, 1) := by decide +kernel
theorem dX12_canon_109 : decode cX12_canon 109 = .ok (.istore 10, 2) := by decide +kernel
theorem dX12_canon_111 : decode cX12_canon 111 = .ok (.aload_n 0, 1) := by decide +kernel
theorem dX12_canon_112 : decode cX12_canon 112 = .ok (.iload_n 3, 1) := by decide +kernel
theorem dX12_canon_113 : decode cX12_canon 113 = .ok (.i2l, 1) := by decide +kernel
theorem dX12_canon_114 : decode cX12_canon 114 = .ok (.putfield 339, 3) := by decide +kernel
theorem dX12_canon_117 : decode cX12_canon 117 = .ok (.aload_n 0, 1) := by decide +kernel
theorem dX12_canon_118 : decode cX12_canon 118 = .ok (.lconst 1, 1) := by decide +kernel
theorem dX12_canon_119 : decode cX12_canon 119 = .ok (.putfield 335, 3) := by decide +kernel
theorem dX12_canon_122 : decode cX12_canon 122 = .ok (.iconst 0, 1) := by decide +kernel
theorem dX12_canon_123 : decode cX12_canon 123 = .ok (.istore 11, 2) := by decide +kernel
theorem dX12_canon_125 : decode cX12_canon 125 = .ok (.iload 11, 2) := by decide +kernel
theorem dX12_canon_127 : decode cX12_canon 127 = .ok (.aload_n 0, 1) := by decide +kernel
theorem dX12_canon_128 : decode cX12_canon 128 = .ok (.getfield 13, 3) := by decide +kernel
theorem dX12_canon_131 : decode cX12_canon 131 = .ok (.iload_n 1, 1) := by decide +kernel
theorem dX12_canon_132 : decode cX12_canon 132 = .ok (.iaload, 1) := by decide +kernel
theorem dX12_canon_133 : decode cX12_canon 133 = .ok (.if_icmp .ge 309, 3) := by decide +kernel
theorem dX12_canon_136 : decode cX12_canon 136 = .ok (.bipush 24, 2) := by decide +kernel
theorem dX12_canon_138 : decode cX12_canon 138 = .ok (.iload_n 1, 1) := by decide +kernel
theorem dX12_canon_139 : decode cX12_canon 139 = .ok (.imul, 1) := by decide +kernel
theorem dX12_canon_140 : decode cX12_canon 140 = .ok (.iload 6, 2) := by decide +kernel
theorem dX12_canon_142 : decode cX12_canon 142 = .ok (.ifCond .eq 17, 3) := by decide +kernel
theorem dX12_canon_145 : decode cX12_canon 145 = .ok (.aload_n 0, 1) := by decide +kernel
theorem dX12_canon_146 : decode cX12_canon 146 = .ok (.getfield 13, 3) := by decide +kernel
theorem dX12_canon_149 : decode cX12_canon 149 = .ok (.iload_n 1, 1) := by decide +kernel
theorem dX12_canon_150 : decode cX12_canon 150 = .ok (.iaload, 1) := by decide +kernel
theorem dX12_canon_151 : decode cX12_canon 151 = .ok (.iconst 1, 1) := by decide +kernel
theorem dX12_canon_152 : decode cX12_canon 152 = .ok (.isub, 1) := by decide +kernel
theorem dX12_canon_153 : decode cX12_canon 153 = .ok (.iload 11, 2) := by decide +kernel
theorem dX12_canon_155 : decode cX12_canon 155 = .ok (.isub, 1) := by decide +kernel
theorem dX12_canon_156 : decode cX12_canon 156 = .ok (.goto 5, 3) := by decide +kernel
theorem dX12_canon_159 : decode cX12_canon 159 = .ok (.iload 11, 2) := by decide +kernel
theorem dX12_canon_161 : decode cX12_canon 161 = .ok (.iadd, 1) := by decide +kernel
theorem dX12_canon_162 : decode cX12_canon 162 = .ok (.istore 12, 2) := by decide +kernel
theorem dX12_canon_164 : decode cX12_canon 164 = .ok (.aload_n 0, 1) := by decide +kernel
theorem dX12_canon_165 : decode cX12_canon 165 = .ok (.getfield 25, 3) := by decide +kernel
theorem dX12_canon_168 : decode cX12_canon 168 = .ok (.iload 12, 2) := by decide +kernel
theorem dX12_canon_170 : decode cX12_canon 170 = .ok (.iaload, 1) := by decide +kernel
theorem dX12_canon_171 : decode cX12_canon 171 = .ok (.iconst 3, 1) := by decide +kernel
theorem dX12_canon_172 : decode cX12_canon 172 = .ok (.if_icmp .eq 264, 3) := by decide +kernel
theorem dX12_canon_175 : decode cX12_canon 175 = .ok (.iconst 5, 1) := by decide +kernel
theorem dX12_canon_176 : decode cX12_canon 176 = .ok (.bipush 24, 2) := by decide +kernel
theorem dX12_canon_178 : decode cX12_canon 178 = .ok (.iload 7, 2) := by decide +kernel
theorem dX12_canon_180 : decode cX12_canon 180 = .ok (.imul, 1) := by decide +kernel
theorem dX12_canon_181 : decode cX12_canon 181 = .ok (.iload 8, 2) := by decide +kernel
theorem dX12_canon_183 : decode cX12_canon 183 = .ok (.iadd, 1) := by decide +kernel
theorem dX12_canon_184 : decode cX12_canon 184 = .ok (.imul, 1) := by decide +kernel
theorem dX12_canon_185 : decode cX12_canon 185 = .ok (.istore 13, 2) := by decide +kernel
theorem dX12_canon_187 : decode cX12_canon 187 = .ok (.aload_n 0, 1) := by decide +kernel
theorem dX12_canon_188 : decode cX12_canon 188 = .ok (.getfield 25, 3) := by decide +kernel
theorem dX12_canon_191 : decode cX12_canon 191 = .ok (.iload 12, 2) := by decide +kernel
theorem dX12_canon_193 : decode cX12_canon 193 = .ok (.iaload, 1) := by decide +kernel
theorem dX12_canon_194 : decode cX12_canon 194 = .ok (.iconst 1, 1) := by decide +kernel
theorem dX12_canon_195 : decode cX12_canon 195 = .ok (.if_icmp .ne 7, 3) := by decide +kernel
theorem dX12_canon_198 : decode cX12_canon 198 = .ok (.iconst 1, 1) := by decide +kernel
theorem dX12_canon_199 : decode cX12_canon 199 = .ok (.goto 4, 3) := by decide +kernel
theorem dX12_canon_202 : decode cX12_canon 202 = .ok (.iconst 0, 1) := by decide +kernel
theorem dX12_canon_203 : decode cX12_canon 203 = .ok (.istore 14, 2) := by decide +kernel
theorem dX12_canon_205 : decode cX12_canon 205 = .ok (.iload 14, 2) := by decide +kernel
theorem dX12_canon_207 : decode cX12_canon 207 = .ok (.ifCond .eq 18, 3) := by decide +kernel
theorem dX12_canon_210 : decode cX12_canon 210 = .ok (.iload 9, 2) := by decide +kernel
theorem dX12_canon_212 : decode cX12_canon 212 = .ok (.ifCond .ne 13, 3) := by decide +kernel
theorem dX12_canon_215 : decode cX12_canon 215 = .ok (.aload_n 0, 1) := by decide +kernel
theorem dX12_canon_216 : decode cX12_canon 216 = .ok (.getfield 31, 3) := by decide +kernel
theorem dX12_canon_219 : decode cX12_canon 219 = .ok (.iload 12, 2) := by decide +kernel
theorem dX12_canon_221 : decode cX12_canon 221 = .ok (.iaload, 1) := by decide +kernel
theorem dX12_canon_222 : decode cX12_canon 222 = .ok (.goto 5, 3) := by decide +kernel
theorem dX12_canon_225 : decode cX12_canon 225 = .ok (.iload 10, 2) := by decide +kernel
theorem dX12_canon_227 : decode cX12_canon 227 = .ok (.istore 10, 2) := by decide +kernel
theorem dX12_canon_229 : decode cX12_canon 229 = .ok (.iload 9, 2) := by decide +kernel
theorem dX12_canon_231 : decode cX12_canon 231 = .ok (.ifCond .ne 8, 3) := by decide +kernel
theorem dX12_canon_234 : decode cX12_canon 234 = .ok (.iload 14, 2) := by decide +kernel
theorem dX12_canon_236 : decode cX12_canon 236 = .ok (.ifCond .eq 7, 3) := by decide +kernel
theorem dX12_canon_239 : decode cX12_canon 239 = .ok (.iconst 1, 1) := by decide +kernel
theorem dX12_canon_240 : decode cX12_canon 240 = .ok (.goto 4, 3) := by decide +kernel
theorem dX12_canon_243 : decode cX12_canon 243 = .ok (.iconst 0, 1) := by decide +kernel
theorem dX12_canon_244 : decode cX12_canon 244 = .ok (.istore 9, 2) := by decide +kernel
theorem dX12_canon_246 : decode cX12_canon 246 = .ok (.iload_n 2, 1) := by decide +kernel
theorem dX12_canon_247 : decode cX12_canon 247 = .ok (.iconst 2, 1) := by decide +kernel
theorem dX12_canon_248 : decode cX12_canon 248 = .ok (.iand, 1) := by decide +kernel
theorem dX12_canon_249 : decode cX12_canon 249 = .ok (.ifCond .eq 18, 3) := by decide +kernel
theorem dX12_canon_252 : decode cX12_canon 252 = .ok (.iconst 2, 1) := by decide +kernel
theorem dX12_canon_253 : decode cX12_canon 253 = .ok (.iload 10, 2) := by decide +kernel
theorem dX12_canon_255 : decode cX12_canon 255 = .ok (.imul, 1) := by decide +kernel
theorem dX12_canon_256 : decode cX12_canon 256 = .ok (.aload_n 0, 1) := by decide +kernel
theorem dX12_canon_257 : decode cX12_canon 257 = .ok (.getfield 31, 3) := by decide +kernel
theorem dX12_canon_260 : decode cX12_canon 260 = .ok (.iload 12, 2) := by decide +kernel
theorem dX12_canon_262 : decode cX12_canon 262 = .ok (.iaload, 1) := by decide +kernel
theorem dX12_canon_263 : decode cX12_canon 263 = .ok (.isub, 1) := by decide +kernel
theorem dX12_canon_264 : decode cX12_canon 264 = .ok (.goto 10, 3) := by decide +kernel
theorem dX12_canon_267 : decode cX12_canon 267 = .ok (.aload_n 0, 1) := by decide +kernel
theorem dX12_canon_268 : decode cX12_canon 268 = .ok (.getfield 31, 3) := by decide +kernel
theorem dX12_canon_271 : decode cX12_canon 271 = .ok (.iload 12, 2) := by decide +kernel
theorem dX12_canon_273 : decode cX12_canon 273 = .ok (.iaload, 1) := by decide +kernel
theorem dX12_canon_274 : decode cX12_canon 274 = .ok (.istore 15, 2) := by decide +kernel
theorem dX12_canon_276 : decode cX12_canon 276 = .ok (.aload_n 0, 1) := by decide +kernel
theorem dX12_canon_277 : decode cX12_canon 277 = .ok (.getfield 84, 3) := by decide +kernel
theorem dX12_canon_280 : decode cX12_canon 280 = .ok (.bipush 24, 2) := by decide +kernel
theorem dX12_canon_282 : decode cX12_canon 282 = .ok (.iload 5, 2) := by decide +kernel
theorem dX12_canon_284 : decode cX12_canon 284 = .ok (.imul, 1) := by decide +kernel
theorem dX12_canon_285 : decode cX12_canon 285 = .ok (.iload 12, 2) := by decide +kernel
theorem dX12_canon_287 : decode cX12_canon 287 = .ok (.iadd, 1) := by decide +kernel
theorem dX12_canon_288 : decode cX12_canon 288 = .ok (.bipush 24, 2) := by decide +kernel
theorem dX12_canon_290 : decode cX12_canon 290 = .ok (.iload_n 1, 1) := by decide +kernel
theorem dX12_canon_291 : decode cX12_canon 291 = .ok (.imul, 1) := by decide +kernel
theorem dX12_canon_292 : decode cX12_canon 292 = .ok (.isub, 1) := by decide +kernel
theorem dX12_canon_293 : decode cX12_canon 293 = .ok (.iaload, 1) := by decide +kernel
theorem dX12_canon_294 : decode cX12_canon 294 = .ok (.i2l, 1) := by decide +kernel
theorem dX12_canon_295 : decode cX12_canon 295 = .ok (.aload_n 0, 1) := by decide +kernel
theorem dX12_canon_296 : decode cX12_canon 296 = .ok (.getfield 41, 3) := by decide +kernel
theorem dX12_canon_299 : decode cX12_canon 299 = .ok (.iload 12, 2) := by decide +kernel
theorem dX12_canon_301 : decode cX12_canon 301 = .ok (.iaload, 1) := by decide +kernel
theorem dX12_canon_302 : decode cX12_canon 302 = .ok (.i2l, 1) := by decide +kernel
theorem dX12_canon_303 : decode cX12_canon 303 = .ok (.lmul, 1) := by decide +kernel
theorem dX12_canon_304 : decode cX12_canon 304 = .ok (.iload_n 2, 1) := by decide +kernel
theorem dX12_canon_305 : decode cX12_canon 305 = .ok (.iconst 4, 1) := by decide +kernel
theorem dX12_canon_306 : decode cX12_canon 306 = .ok (.iand, 1) := by decide +kernel
theorem dX12_canon_307 : decode cX12_canon 307 = .ok (.ifCond .eq 9, 3) := by decide +kernel
theorem dX12_canon_310 : decode cX12_canon 310 = .ok (.ldc2_w 143, 3) := by decide +kernel
theorem dX12_canon_313 : decode cX12_canon 313 = .ok (.goto 4, 3) := by decide +kernel
theorem dX12_canon_316 : decode cX12_canon 316 = .ok (.lconst 1, 1) := by decide +kernel
theorem dX12_canon_317 : decode cX12_canon 317 = .ok (.lmul, 1) := by decide +kernel
theorem dX12_canon_318 : decode cX12_canon 318 = .ok (.lstore 16, 2) := by decide +kernel
theorem dX12_canon_320 : decode cX12_canon 320 = .ok (.lload 16, 2) := by decide +kernel
theorem dX12_canon_322 : decode cX12_canon 322 = .ok (.aload_n 0, 1) := by decide +kernel
theorem dX12_canon_323 : decode cX12_canon 323 = .ok (.getfield 38, 3) := by decide +kernel
theorem dX12_canon_326 : decode cX12_canon 326 = .ok (.iload 12, 2) := by decide +kernel
theorem dX12_canon_328 : decode cX12_canon 328 = .ok (.iaload, 1) := by decide +kernel
theorem dX12_canon_329 : decode cX12_canon 329 = .ok (.i2l, 1) := by decide +kernel
theorem dX12_canon_330 : decode cX12_canon 330 = .ok (.invokestatic 157, 3) := by decide +kernel
theorem dX12_canon_333 : decode cX12_canon 333 = .ok (.lstore 18, 2) := by decide +kernel
theorem dX12_canon_335 : decode cX12_canon 335 = .ok (.aload_n 0, 1) := by decide +kernel
theorem dX12_canon_336 : decode cX12_canon 336 = .ok (.getfield 103, 3) := by decide +kernel
theorem dX12_canon_339 : decode cX12_canon 339 = .ok (.iload 13, 2) := by decide +kernel
theorem dX12_canon_341 : decode cX12_canon 341 = .ok (.iload 14, 2) := by decide +kernel
theorem dX12_canon_343 : decode cX12_canon 343 = .ok (.ifCond .eq 12, 3) := by decide +kernel
theorem dX12_canon_346 : decode cX12_canon 346 = .ok (.iload 15, 2) := by decide +kernel
theorem dX12_canon_348 : decode cX12_canon 348 = .ok (.iload 4, 2) := by decide +kernel
theorem dX12_canon_350 : decode cX12_canon 350 = .ok (.iadd, 1) := by decide +kernel
theorem dX12_canon_351 : decode cX12_canon 351 = .ok (.i2l, 1) := by decide +kernel
theorem dX12_canon_352 : decode cX12_canon 352 = .ok (.goto 6, 3) := by decide +kernel
theorem dX12_canon_355 : decode cX12_canon 355 = .ok (.ldc2_w 364, 3) := by decide +kernel
theorem dX12_canon_358 : decode cX12_canon 358 = .ok (.lastore, 1) := by decide +kernel
theorem dX12_canon_359 : decode cX12_canon 359 = .ok (.aload_n 0, 1) := by decide +kernel
theorem dX12_canon_360 : decode cX12_canon 360 = .ok (.getfield 103, 3) := by decide +kernel
theorem dX12_canon_363 : decode cX12_canon 363 = .ok (.iload 13, 2) := by decide +kernel
theorem dX12_canon_365 : decode cX12_canon 365 = .ok (.iconst 1, 1) := by decide +kernel
theorem dX12_canon_366 : decode cX12_canon 366 = .ok (.iadd, 1) := by decide +kernel
theorem dX12_canon_367 : decode cX12_canon 367 = .ok (.aload_n 0, 1) := by decide +kernel
theorem dX12_canon_368 : decode cX12_canon 368 = .ok (.getfield 339, 3) := by decide +kernel
theorem dX12_canon_371 : decode cX12_canon 371 = .ok (.lastore, 1) := by decide +kernel
theorem dX12_canon_372 : decode cX12_canon 372 = .ok (.aload_n 0, 1) := by decide +kernel
theorem dX12_canon_373 : decode cX12_canon 373 = .ok (.getfield 103, 3) := by decide +kernel
theorem dX12_canon_376 : decode cX12_canon 376 = .ok (.iload 13, 2) := by decide +kernel
theorem dX12_canon_378 : decode cX12_canon 378 = .ok (.iconst 2, 1) := by decide +kernel
theorem dX12_canon_379 : decode cX12_canon 379 = .ok (.iadd, 1) := by decide +kernel
theorem dX12_canon_380 : decode cX12_canon 380 = .ok (.aload_n 0, 1) := by decide +kernel
theorem dX12_canon_381 : decode cX12_canon 381 = .ok (.getfield 335, 3) := by decide +kernel
theorem dX12_canon_384 : decode cX12_canon 384 = .ok (.lastore, 1) := by decide +kernel
theorem dX12_canon_385 : decode cX12_canon 385 = .ok (.aload_n 0, 1) := by decide +kernel
theorem dX12_canon_386 : decode cX12_canon 386 = .ok (.getfield 103, 3) := by decide +kernel
theorem dX12_canon_389 : decode cX12_canon 389 = .ok (.iload 13, 2) := by decide +kernel
theorem dX12_canon_391 : decode cX12_canon 391 = .ok (.iconst 3, 1) := by decide +kernel
theorem dX12_canon_392 : decode cX12_canon 392 = .ok (.iadd, 1) := by decide +kernel
theorem dX12_canon_393 : decode cX12_canon 393 = .ok (.lload 16, 2) := by decide +kernel
theorem dX12_canon_395 : decode cX12_canon 395 = .ok (.lload 18, 2) := by decide +kernel
theorem dX12_canon_397 : decode cX12_canon 397 = .ok (.ldiv, 1) := by decide +kernel
theorem dX12_canon_398 : decode cX12_canon 398 = .ok (.lastore, 1) := by decide +kernel
theorem dX12_canon_399 : decode cX12_canon 399 = .ok (.aload_n 0, 1) := by decide +kernel
theorem dX12_canon_400 : decode cX12_canon 400 = .ok (.getfield 103, 3) := by decide +kernel
theorem dX12_canon_403 : decode cX12_canon 403 = .ok (.iload 13, 2) := by decide +kernel
theorem dX12_canon_405 : decode cX12_canon 405 = .ok (.iconst 4, 1) := by decide +kernel
theorem dX12_canon_406 : decode cX12_canon 406 = .ok (.iadd, 1) := by decide +kernel
theorem dX12_canon_407 : decode cX12_canon 407 = .ok (.aload_n 0, 1) := by decide +kernel
theorem dX12_canon_408 : decode cX12_canon 408 = .ok (.getfield 38, 3) := by decide +kernel
theorem dX12_canon_411 : decode cX12_canon 411 = .ok (.iload 12, 2) := by decide +kernel
theorem dX12_canon_413 : decode cX12_canon 413 = .ok (.iaload, 1) := by decide +kernel
theorem dX12_canon_414 : decode cX12_canon 414 = .ok (.i2l, 1) := by decide +kernel
theorem dX12_canon_415 : decode cX12_canon 415 = .ok (.lload 18, 2) := by decide +kernel
theorem dX12_canon_417 : decode cX12_canon 417 = .ok (.ldiv, 1) := by decide +kernel
theorem dX12_canon_418 : decode cX12_canon 418 = .ok (.lastore, 1) := by decide +kernel
theorem dX12_canon_419 : decode cX12_canon 419 = .ok (.aload_n 0, 1) := by decide +kernel
theorem dX12_canon_420 : decode cX12_canon 420 = .ok (.lload 16, 2) := by decide +kernel
theorem dX12_canon_422 : decode cX12_canon 422 = .ok (.aload_n 0, 1) := by decide +kernel
theorem dX12_canon_423 : decode cX12_canon 423 = .ok (.getfield 38, 3) := by decide +kernel
theorem dX12_canon_426 : decode cX12_canon 426 = .ok (.iload 12, 2) := by decide +kernel
theorem dX12_canon_428 : decode cX12_canon 428 = .ok (.iaload, 1) := by decide +kernel
theorem dX12_canon_429 : decode cX12_canon 429 = .ok (.i2l, 1) := by decide +kernel
theorem dX12_canon_430 : decode cX12_canon 430 = .ok (.invokevirtual 342, 3) := by decide +kernel
theorem dX12_canon_433 : decode cX12_canon 433 = .ok (.iinc 8 1, 3) := by decide +kernel
theorem dX12_canon_436 : decode cX12_canon 436 = .ok (.iinc 11 1, 3) := by decide +kernel
theorem dX12_canon_439 : decode cX12_canon 439 = .ok (.goto (-314), 3) := by decide +kernel
theorem dX12_canon_442 : decode cX12_canon 442 = .ok (.aload_n 0, 1) := by decide +kernel
theorem dX12_canon_443 : decode cX12_canon 443 = .ok (.getfield 100, 3) := by decide +kernel
theorem dX12_canon_446 : decode cX12_canon 446 = .ok (.iload 7, 2) := by decide +kernel
theorem dX12_canon_448 : decode cX12_canon 448 = .ok (.iload 8, 2) := by decide +kernel
theorem dX12_canon_450 : decode cX12_canon 450 = .ok (.iastore, 1) := by decide +kernel
theorem dX12_canon_451 : decode cX12_canon 451 = .ok (.aload_n 0, 1) := by decide +kernel
theorem dX12_canon_452 : decode cX12_canon 452 = .ok (.dup, 1) := by decide +kernel
theorem dX12_canon_453 : decode cX12_canon 453 = .ok (.getfield 361, 3) := by decide +kernel
theorem dX12_canon_456 : decode cX12_canon 456 = .ok (.iconst 1, 1) := by decide +kernel
theorem dX12_canon_457 : decode cX12_canon 457 = .ok (.iadd, 1) := by decide +kernel
theorem dX12_canon_458 : decode cX12_canon 458 = .ok (.putfield 361, 3) := by decide +kernel
theorem dX12_canon_461 : decode cX12_canon 461 = .ok (.iload 7, 2) := by decide +kernel
theorem dX12_canon_463 : decode cX12_canon 463 = .ok (.ireturn, 1) := by decide +kernel
theorem dX12_follower_0 : decode cX12_follower 0 = .ok (.iload_n 1, 1) := by decide +kernel
theorem dX12_follower_1 : decode cX12_follower 1 = .ok (.i2l, 1) := by decide +kernel
theorem dX12_follower_2 : decode cX12_follower 2 = .ok (.lconst 0, 1) := by decide +kernel
theorem dX12_follower_3 : decode cX12_follower 3 = .ok (.aload_n 0, 1) := by decide +kernel
theorem dX12_follower_4 : decode cX12_follower 4 = .ok (.getfield 361, 3) := by decide +kernel
theorem dX12_follower_7 : decode cX12_follower 7 = .ok (.iconst 1, 1) := by decide +kernel
theorem dX12_follower_8 : decode cX12_follower 8 = .ok (.isub, 1) := by decide +kernel
theorem dX12_follower_9 : decode cX12_follower 9 = .ok (.i2l, 1) := by decide +kernel
theorem dX12_follower_10 : decode cX12_follower 10 = .ok (.invokestatic 119, 3) := by decide +kernel
theorem dX12_follower_13 : decode cX12_follower 13 = .ok (.ifCond .eq 15, 3) := by decide +kernel
theorem dX12_follower_16 : decode cX12_follower 16 = .ok (.iload_n 3, 1) := by decide +kernel
theorem dX12_follower_17 : decode cX12_follower 17 = .ok (.i2l, 1) := by decide +kernel
theorem dX12_follower_18 : decode cX12_follower 18 = .ok (.lconst 0, 1) := by decide +kernel
theorem dX12_follower_19 : decode cX12_follower 19 = .ok (.ldc2_w 366, 3) := by decide +kernel
theorem dX12_follower_22 : decode cX12_follower 22 = .ok (.invokestatic 119, 3) := by decide +kernel
theorem dX12_follower_25 : decode cX12_follower 25 = .ok (.ifCond .ne 7, 3) := by decide +kernel
theorem dX12_follower_28 : decode cX12_follower 28 = .ok (.ldc2_w 346, 3) := by decide +kernel
theorem dX12_follower_31 : decode cX12_follower 31 = .ok (.lreturn, 1) := by decide +kernel
theorem dX12_follower_32 : decode cX12_follower 32 = .ok (.iload_n 2, 1) := by decide +kernel
theorem dX12_follower_33 : decode cX12_follower 33 = .ok (.i2l, 1) := by decide +kernel
theorem dX12_follower_34 : decode cX12_follower 34 = .ok (.lconst 0, 1) := by decide +kernel
theorem dX12_follower_35 : decode cX12_follower 35 = .ok (.aload_n 0, 1) := by decide +kernel
theorem dX12_follower_36 : decode cX12_follower 36 = .ok (.getfield 100, 3) := by decide +kernel
theorem dX12_follower_39 : decode cX12_follower 39 = .ok (.iload_n 1, 1) := by decide +kernel
theorem dX12_follower_40 : decode cX12_follower 40 = .ok (.iaload, 1) := by decide +kernel
theorem dX12_follower_41 : decode cX12_follower 41 = .ok (.iconst 1, 1) := by decide +kernel
theorem dX12_follower_42 : decode cX12_follower 42 = .ok (.isub, 1) := by decide +kernel
theorem dX12_follower_43 : decode cX12_follower 43 = .ok (.i2l, 1) := by decide +kernel
theorem dX12_follower_44 : decode cX12_follower 44 = .ok (.invokestatic 119, 3) := by decide +kernel
theorem dX12_follower_47 : decode cX12_follower 47 = .ok (.ifCond .eq 21, 3) := by decide +kernel
theorem dX12_follower_50 : decode cX12_follower 50 = .ok (.aload_n 0, 1) := by decide +kernel
theorem dX12_follower_51 : decode cX12_follower 51 = .ok (.getfield 103, 3) := by decide +kernel
theorem dX12_follower_54 : decode cX12_follower 54 = .ok (.iconst 5, 1) := by decide +kernel
theorem dX12_follower_55 : decode cX12_follower 55 = .ok (.bipush 24, 2) := by decide +kernel
theorem dX12_follower_57 : decode cX12_follower 57 = .ok (.iload_n 1, 1) := by decide +kernel
theorem dX12_follower_58 : decode cX12_follower 58 = .ok (.imul, 1) := by decide +kernel
theorem dX12_follower_59 : decode cX12_follower 59 = .ok (.iload_n 2, 1) := by decide +kernel
theorem dX12_follower_60 : decode cX12_follower 60 = .ok (.iadd, 1) := by decide +kernel
theorem dX12_follower_61 : decode cX12_follower 61 = .ok (.imul, 1) := by decide +kernel
theorem dX12_follower_62 : decode cX12_follower 62 = .ok (.iload_n 3, 1) := by decide +kernel
theorem dX12_follower_63 : decode cX12_follower 63 = .ok (.iadd, 1) := by decide +kernel
theorem dX12_follower_64 : decode cX12_follower 64 = .ok (.laload, 1) := by decide +kernel
theorem dX12_follower_65 : decode cX12_follower 65 = .ok (.goto 6, 3) := by decide +kernel
theorem dX12_follower_68 : decode cX12_follower 68 = .ok (.ldc2_w 348, 3) := by decide +kernel
theorem dX12_follower_71 : decode cX12_follower 71 = .ok (.lreturn, 1) := by decide +kernel
theorem dX12_lay_0 : decode cX12_lay 0 = .ok (.iconst 0, 1) := by decide +kernel
theorem dX12_lay_1 : decode cX12_lay 1 = .ok (.istore_n 3, 1) := by decide +kernel
theorem dX12_lay_2 : decode cX12_lay 2 = .ok (.iconst 1, 1) := by decide +kernel
theorem dX12_lay_3 : decode cX12_lay 3 = .ok (.istore 4, 2) := by decide +kernel
theorem dX12_lay_5 : decode cX12_lay 5 = .ok (.iconst 1, 1) := by decide +kernel
theorem dX12_lay_6 : decode cX12_lay 6 = .ok (.istore 5, 2) := by decide +kernel
theorem dX12_lay_8 : decode cX12_lay 8 = .ok (.iload 5, 2) := by decide +kernel
theorem dX12_lay_10 : decode cX12_lay 10 = .ok (.iload_n 1, 1) := by decide +kernel
theorem dX12_lay_11 : decode cX12_lay 11 = .ok (.if_icmp .ge 16, 3) := by decide +kernel
theorem dX12_lay_14 : decode cX12_lay 14 = .ok (.bipush 14, 2) := by decide +kernel
theorem dX12_lay_16 : decode cX12_lay 16 = .ok (.iload 4, 2) := by decide +kernel
theorem dX12_lay_18 : decode cX12_lay 18 = .ok (.imul, 1) := by decide +kernel
theorem dX12_lay_19 : decode cX12_lay 19 = .ok (.istore 4, 2) := by decide +kernel
theorem dX12_lay_21 : decode cX12_lay 21 = .ok (.iinc 5 1, 3) := by decide +kernel
theorem dX12_lay_24 : decode cX12_lay 24 = .ok (.goto (-16), 3) := by decide +kernel
theorem dX12_lay_27 : decode cX12_lay 27 = .ok (.aload_n 0, 1) := by decide +kernel
theorem dX12_lay_28 : decode cX12_lay 28 = .ok (.iconst 0, 1) := by decide +kernel
theorem dX12_lay_29 : decode cX12_lay 29 = .ok (.putfield 175, 3) := by decide +kernel
theorem dX12_lay_32 : decode cX12_lay 32 = .ok (.iload_n 2, 1) := by decide +kernel
theorem dX12_lay_33 : decode cX12_lay 33 = .ok (.istore 5, 2) := by decide +kernel
theorem dX12_lay_35 : decode cX12_lay 35 = .ok (.iconst 0, 1) := by decide +kernel
theorem dX12_lay_36 : decode cX12_lay 36 = .ok (.istore 6, 2) := by decide +kernel
theorem dX12_lay_38 : decode cX12_lay 38 = .ok (.iload 6, 2) := by decide +kernel
theorem dX12_lay_40 : decode cX12_lay 40 = .ok (.iload_n 1, 1) := by decide +kernel
theorem dX12_lay_41 : decode cX12_lay 41 = .ok (.if_icmp .ge 100, 3) := by decide +kernel
theorem dX12_lay_44 : decode cX12_lay 44 = .ok (.iload 5, 2) := by decide +kernel
theorem dX12_lay_46 : decode cX12_lay 46 = .ok (.iload 4, 2) := by decide +kernel
theorem dX12_lay_48 : decode cX12_lay 48 = .ok (.idiv, 1) := by decide +kernel
theorem dX12_lay_49 : decode cX12_lay 49 = .ok (.bipush 14, 2) := by decide +kernel
theorem dX12_lay_51 : decode cX12_lay 51 = .ok (.irem, 1) := by decide +kernel
theorem dX12_lay_52 : decode cX12_lay 52 = .ok (.istore 7, 2) := by decide +kernel
theorem dX12_lay_54 : decode cX12_lay 54 = .ok (.aload_n 0, 1) := by decide +kernel
theorem dX12_lay_55 : decode cX12_lay 55 = .ok (.getfield 44, 3) := by decide +kernel
theorem dX12_lay_58 : decode cX12_lay 58 = .ok (.aload_n 0, 1) := by decide +kernel
theorem dX12_lay_59 : decode cX12_lay 59 = .ok (.getfield 175, 3) := by decide +kernel
theorem dX12_lay_62 : decode cX12_lay 62 = .ok (.iconst 1, 1) := by decide +kernel
theorem dX12_lay_63 : decode cX12_lay 63 = .ok (.iastore, 1) := by decide +kernel
theorem dX12_lay_64 : decode cX12_lay 64 = .ok (.aload_n 0, 1) := by decide +kernel
theorem dX12_lay_65 : decode cX12_lay 65 = .ok (.getfield 47, 3) := by decide +kernel
theorem dX12_lay_68 : decode cX12_lay 68 = .ok (.aload_n 0, 1) := by decide +kernel
theorem dX12_lay_69 : decode cX12_lay 69 = .ok (.getfield 175, 3) := by decide +kernel
theorem dX12_lay_72 : decode cX12_lay 72 = .ok (.iload 7, 2) := by decide +kernel
theorem dX12_lay_74 : decode cX12_lay 74 = .ok (.iconst 2, 1) := by decide +kernel
theorem dX12_lay_75 : decode cX12_lay 75 = .ok (.idiv, 1) := by decide +kernel
theorem dX12_lay_76 : decode cX12_lay 76 = .ok (.iastore, 1) := by decide +kernel
theorem dX12_lay_77 : decode cX12_lay 77 = .ok (.aload_n 0, 1) := by decide +kernel
theorem dX12_lay_78 : decode cX12_lay 78 = .ok (.getfield 50, 3) := by decide +kernel
theorem dX12_lay_81 : decode cX12_lay 81 = .ok (.aload_n 0, 1) := by decide +kernel
theorem dX12_lay_82 : decode cX12_lay 82 = .ok (.getfield 175, 3) := by decide +kernel
theorem dX12_lay_85 : decode cX12_lay 85 = .ok (.iconst 0, 1) := by decide +kernel
theorem dX12_lay_86 : decode cX12_lay 86 = .ok (.bastore, 1) := by decide +kernel
theorem dX12_lay_87 : decode cX12_lay 87 = .ok (.aload_n 0, 1) := by decide +kernel
theorem dX12_lay_88 : decode cX12_lay 88 = .ok (.dup, 1) := by decide +kernel
theorem dX12_lay_89 : decode cX12_lay 89 = .ok (.getfield 175, 3) := by decide +kernel
theorem dX12_lay_92 : decode cX12_lay 92 = .ok (.iconst 1, 1) := by decide +kernel
theorem dX12_lay_93 : decode cX12_lay 93 = .ok (.iadd, 1) := by decide +kernel
theorem dX12_lay_94 : decode cX12_lay 94 = .ok (.putfield 175, 3) := by decide +kernel
theorem dX12_lay_97 : decode cX12_lay 97 = .ok (.iload 7, 2) := by decide +kernel
theorem dX12_lay_99 : decode cX12_lay 99 = .ok (.iconst 2, 1) := by decide +kernel
theorem dX12_lay_100 : decode cX12_lay 100 = .ok (.irem, 1) := by decide +kernel
theorem dX12_lay_101 : decode cX12_lay 101 = .ok (.iconst 1, 1) := by decide +kernel
theorem dX12_lay_102 : decode cX12_lay 102 = .ok (.if_icmp .ne 26, 3) := by decide +kernel
theorem dX12_lay_105 : decode cX12_lay 105 = .ok (.aload_n 0, 1) := by decide +kernel
theorem dX12_lay_106 : decode cX12_lay 106 = .ok (.getfield 44, 3) := by decide +kernel
theorem dX12_lay_109 : decode cX12_lay 109 = .ok (.aload_n 0, 1) := by decide +kernel
theorem dX12_lay_110 : decode cX12_lay 110 = .ok (.getfield 175, 3) := by decide +kernel
theorem dX12_lay_113 : decode cX12_lay 113 = .ok (.iconst 3, 1) := by decide +kernel
theorem dX12_lay_114 : decode cX12_lay 114 = .ok (.iastore, 1) := by decide +kernel
theorem dX12_lay_115 : decode cX12_lay 115 = .ok (.aload_n 0, 1) := by decide +kernel
theorem dX12_lay_116 : decode cX12_lay 116 = .ok (.dup, 1) := by decide +kernel
theorem dX12_lay_117 : decode cX12_lay 117 = .ok (.getfield 175, 3) := by decide +kernel
theorem dX12_lay_120 : decode cX12_lay 120 = .ok (.iconst 1, 1) := by decide +kernel
theorem dX12_lay_121 : decode cX12_lay 121 = .ok (.iadd, 1) := by decide +kernel
theorem dX12_lay_122 : decode cX12_lay 122 = .ok (.putfield 175, 3) := by decide +kernel
theorem dX12_lay_125 : decode cX12_lay 125 = .ok (.iinc 3 1, 3) := by decide +kernel
theorem dX12_lay_128 : decode cX12_lay 128 = .ok (.iload 4, 2) := by decide +kernel
theorem dX12_lay_130 : decode cX12_lay 130 = .ok (.bipush 14, 2) := by decide +kernel
theorem dX12_lay_132 : decode cX12_lay 132 = .ok (.idiv, 1) := by decide +kernel
theorem dX12_lay_133 : decode cX12_lay 133 = .ok (.istore 4, 2) := by decide +kernel
theorem dX12_lay_135 : decode cX12_lay 135 = .ok (.iinc 6 1, 3) := by decide +kernel
theorem dX12_lay_138 : decode cX12_lay 138 = .ok (.goto (-100), 3) := by decide +kernel
theorem dX12_lay_141 : decode cX12_lay 141 = .ok (.iload_n 3, 1) := by decide +kernel
theorem dX12_lay_142 : decode cX12_lay 142 = .ok (.ireturn, 1) := by decide +kernel
theorem dX12_isWanted_0 : decode cX12_isWanted 0 = .ok (.aload_n 0, 1) := by decide +kernel
theorem dX12_isWanted_1 : decode cX12_isWanted 1 = .ok (.invokevirtual 326, 3) := by decide +kernel
theorem dX12_isWanted_4 : decode cX12_isWanted 4 = .ok (.aload_n 0, 1) := by decide +kernel
theorem dX12_isWanted_5 : decode cX12_isWanted 5 = .ok (.getfield 317, 3) := by decide +kernel
theorem dX12_isWanted_8 : decode cX12_isWanted 8 = .ok (.ifCond .eq 13, 3) := by decide +kernel
theorem dX12_isWanted_11 : decode cX12_isWanted 11 = .ok (.aload_n 0, 1) := by decide +kernel
theorem dX12_isWanted_12 : decode cX12_isWanted 12 = .ok (.getfield 317, 3) := by decide +kernel
theorem dX12_isWanted_15 : decode cX12_isWanted 15 = .ok (.sipush 1000, 3) := by decide +kernel
theorem dX12_isWanted_18 : decode cX12_isWanted 18 = .ok (.if_icmp .le 5, 3) := by decide +kernel
theorem dX12_isWanted_21 : decode cX12_isWanted 21 = .ok (.iconst 0, 1) := by decide +kernel
theorem dX12_isWanted_22 : decode cX12_isWanted 22 = .ok (.ireturn, 1) := by decide +kernel
theorem dX12_isWanted_23 : decode cX12_isWanted 23 = .ok (.aload_n 0, 1) := by decide +kernel
theorem dX12_isWanted_24 : decode cX12_isWanted 24 = .ok (.getfield 87, 3) := by decide +kernel
theorem dX12_isWanted_27 : decode cX12_isWanted 27 = .ok (.iconst 0, 1) := by decide +kernel
theorem dX12_isWanted_28 : decode cX12_isWanted 28 = .ok (.iaload, 1) := by decide +kernel
theorem dX12_isWanted_29 : decode cX12_isWanted 29 = .ok (.istore_n 1, 1) := by decide +kernel
theorem dX12_isWanted_30 : decode cX12_isWanted 30 = .ok (.iconst 0, 1) := by decide +kernel
theorem dX12_isWanted_31 : decode cX12_isWanted 31 = .ok (.istore_n 2, 1) := by decide +kernel
theorem dX12_isWanted_32 : decode cX12_isWanted 32 = .ok (.iconst 1, 1) := by decide +kernel
theorem dX12_isWanted_33 : decode cX12_isWanted 33 = .ok (.istore_n 3, 1) := by decide +kernel
theorem dX12_isWanted_34 : decode cX12_isWanted 34 = .ok (.iconst 0, 1) := by decide +kernel
theorem dX12_isWanted_35 : decode cX12_isWanted 35 = .ok (.istore 4, 2) := by decide +kernel
theorem dX12_isWanted_37 : decode cX12_isWanted 37 = .ok (.iload 4, 2) := by decide +kernel
theorem dX12_isWanted_39 : decode cX12_isWanted 39 = .ok (.aload_n 0, 1) := by decide +kernel
theorem dX12_isWanted_40 : decode cX12_isWanted 40 = .ok (.getfield 175, 3) := by decide +kernel
theorem dX12_isWanted_43 : decode cX12_isWanted 43 = .ok (.if_icmp .ge 54, 3) := by decide +kernel
theorem dX12_isWanted_46 : decode cX12_isWanted 46 = .ok (.aload_n 0, 1) := by decide +kernel
theorem dX12_isWanted_47 : decode cX12_isWanted 47 = .ok (.getfield 44, 3) := by decide +kernel
theorem dX12_isWanted_50 : decode cX12_isWanted 50 = .ok (.iload 4, 2) := by decide +kernel
theorem dX12_isWanted_52 : decode cX12_isWanted 52 = .ok (.iaload, 1) := by decide +kernel
theorem dX12_isWanted_53 : decode cX12_isWanted 53 = .ok (.iconst 1, 1) := by decide +kernel
theorem dX12_isWanted_54 : decode cX12_isWanted 54 = .ok (.if_icmp .ne 37, 3) := by decide +kernel
theorem dX12_isWanted_57 : decode cX12_isWanted 57 = .ok (.iload_n 3, 1) := by decide +kernel
theorem dX12_isWanted_58 : decode cX12_isWanted 58 = .ok (.ifCond .eq 28, 3) := by decide +kernel
theorem dX12_isWanted_61 : decode cX12_isWanted 61 = .ok (.aload_n 0, 1) := by decide +kernel
theorem dX12_isWanted_62 : decode cX12_isWanted 62 = .ok (.getfield 84, 3) := by decide +kernel
theorem dX12_isWanted_65 : decode cX12_isWanted 65 = .ok (.bipush 24, 2) := by decide +kernel
theorem dX12_isWanted_67 : decode cX12_isWanted 67 = .ok (.iload_n 1, 1) := by decide +kernel
theorem dX12_isWanted_68 : decode cX12_isWanted 68 = .ok (.imul, 1) := by decide +kernel
theorem dX12_isWanted_69 : decode cX12_isWanted 69 = .ok (.iload 4, 2) := by decide +kernel
theorem dX12_isWanted_71 : decode cX12_isWanted 71 = .ok (.iadd, 1) := by decide +kernel
theorem dX12_isWanted_72 : decode cX12_isWanted 72 = .ok (.iaload, 1) := by decide +kernel
theorem dX12_isWanted_73 : decode cX12_isWanted 73 = .ok (.aload_n 0, 1) := by decide +kernel
theorem dX12_isWanted_74 : decode cX12_isWanted 74 = .ok (.getfield 109, 3) := by decide +kernel
theorem dX12_isWanted_77 : decode cX12_isWanted 77 = .ok (.iload_n 2, 1) := by decide +kernel
theorem dX12_isWanted_78 : decode cX12_isWanted 78 = .ok (.iaload, 1) := by decide +kernel
theorem dX12_isWanted_79 : decode cX12_isWanted 79 = .ok (.if_icmp .ne 7, 3) := by decide +kernel
theorem dX12_isWanted_82 : decode cX12_isWanted 82 = .ok (.iconst 1, 1) := by decide +kernel
theorem dX12_isWanted_83 : decode cX12_isWanted 83 = .ok (.goto 4, 3) := by decide +kernel
theorem dX12_isWanted_86 : decode cX12_isWanted 86 = .ok (.iconst 0, 1) := by decide +kernel
theorem dX12_isWanted_87 : decode cX12_isWanted 87 = .ok (.istore_n 3, 1) := by decide +kernel
theorem dX12_isWanted_88 : decode cX12_isWanted 88 = .ok (.iinc 2 1, 3) := by decide +kernel
theorem dX12_isWanted_91 : decode cX12_isWanted 91 = .ok (.iinc 4 1, 3) := by decide +kernel
theorem dX12_isWanted_94 : decode cX12_isWanted 94 = .ok (.goto (-57), 3) := by decide +kernel
theorem dX12_isWanted_97 : decode cX12_isWanted 97 = .ok (.iload_n 3, 1) := by decide +kernel
theorem dX12_isWanted_98 : decode cX12_isWanted 98 = .ok (.ireturn, 1) := by decide +kernel
theorem dX12_write_0 : decode cX12_write 0 = .ok (.iload_n 1, 1) := by decide +kernel
theorem dX12_write_1 : decode cX12_write 1 = .ok (.i2l, 1) := by decide +kernel
theorem dX12_write_2 : decode cX12_write 2 = .ok (.lconst 0, 1) := by decide +kernel
theorem dX12_write_3 : decode cX12_write 3 = .ok (.ldc2_w 123, 3) := by decide +kernel
theorem dX12_write_6 : decode cX12_write 6 = .ok (.invokestatic 119, 3) := by decide +kernel
theorem dX12_write_9 : decode cX12_write 9 = .ok (.ifCond .eq 42, 3) := by decide +kernel
theorem dX12_write_12 : decode cX12_write 12 = .ok (.iload_n 2, 1) := by decide +kernel
theorem dX12_write_13 : decode cX12_write 13 = .ok (.i2l, 1) := by decide +kernel
theorem dX12_write_14 : decode cX12_write 14 = .ok (.lconst 1, 1) := by decide +kernel
theorem dX12_write_15 : decode cX12_write 15 = .ok (.ldc2_w 173, 3) := by decide +kernel
theorem dX12_write_18 : decode cX12_write 18 = .ok (.invokestatic 119, 3) := by decide +kernel
theorem dX12_write_21 : decode cX12_write 21 = .ok (.ifCond .eq 30, 3) := by decide +kernel
theorem dX12_write_24 : decode cX12_write 24 = .ok (.iload_n 3, 1) := by decide +kernel
theorem dX12_write_25 : decode cX12_write 25 = .ok (.iconst 1, 1) := by decide +kernel
theorem dX12_write_26 : decode cX12_write 26 = .ok (.if_icmp .lt 25, 3) := by decide +kernel
theorem dX12_write_29 : decode cX12_write 29 = .ok (.iload_n 2, 1) := by decide +kernel
theorem dX12_write_30 : decode cX12_write 30 = .ok (.iconst 1, 1) := by decide +kernel
theorem dX12_write_31 : decode cX12_write 31 = .ok (.if_icmp .le 9, 3) := by decide +kernel
theorem dX12_write_34 : decode cX12_write 34 = .ok (.iload 4, 2) := by decide +kernel
theorem dX12_write_36 : decode cX12_write 36 = .ok (.iconst 1, 1) := by decide +kernel
theorem dX12_write_37 : decode cX12_write 37 = .ok (.if_icmp .lt 14, 3) := by decide +kernel
theorem dX12_write_40 : decode cX12_write 40 = .ok (.iload_n 2, 1) := by decide +kernel
theorem dX12_write_41 : decode cX12_write 41 = .ok (.iconst 2, 1) := by decide +kernel
theorem dX12_write_42 : decode cX12_write 42 = .ok (.if_icmp .le 12, 3) := by decide +kernel
theorem dX12_write_45 : decode cX12_write 45 = .ok (.iload 5, 2) := by decide +kernel
theorem dX12_write_47 : decode cX12_write 47 = .ok (.iconst 1, 1) := by decide +kernel
theorem dX12_write_48 : decode cX12_write 48 = .ok (.if_icmp .ge 6, 3) := by decide +kernel
theorem dX12_write_51 : decode cX12_write 51 = .ok (.bipush (-2), 2) := by decide +kernel
theorem dX12_write_53 : decode cX12_write 53 = .ok (.ireturn, 1) := by decide +kernel
theorem dX12_write_54 : decode cX12_write 54 = .ok (.aload_n 0, 1) := by decide +kernel
theorem dX12_write_55 : decode cX12_write 55 = .ok (.iconst (-1), 1) := by decide +kernel
theorem dX12_write_56 : decode cX12_write 56 = .ok (.putfield 112, 3) := by decide +kernel
theorem dX12_write_59 : decode cX12_write 59 = .ok (.aload_n 0, 1) := by decide +kernel
theorem dX12_write_60 : decode cX12_write 60 = .ok (.iload_n 1, 1) := by decide +kernel
theorem dX12_write_61 : decode cX12_write 61 = .ok (.putfield 222, 3) := by decide +kernel
theorem dX12_write_64 : decode cX12_write 64 = .ok (.aload_n 0, 1) := by decide +kernel
theorem dX12_write_65 : decode cX12_write 65 = .ok (.iload_n 1, 1) := by decide +kernel
theorem dX12_write_66 : decode cX12_write 66 = .ok (.invokestatic 165, 3) := by decide +kernel
theorem dX12_write_69 : decode cX12_write 69 = .ok (.putfield 250, 3) := by decide +kernel
theorem dX12_write_72 : decode cX12_write 72 = .ok (.aload_n 0, 1) := by decide +kernel
theorem dX12_write_73 : decode cX12_write 73 = .ok (.getfield 109, 3) := by decide +kernel
theorem dX12_write_76 : decode cX12_write 76 = .ok (.iconst 0, 1) := by decide +kernel
theorem dX12_write_77 : decode cX12_write 77 = .ok (.iload_n 3, 1) := by decide +kernel
theorem dX12_write_78 : decode cX12_write 78 = .ok (.iastore, 1) := by decide +kernel
theorem dX12_write_79 : decode cX12_write 79 = .ok (.aload_n 0, 1) := by decide +kernel
theorem dX12_write_80 : decode cX12_write 80 = .ok (.getfield 109, 3) := by decide +kernel
theorem dX12_write_83 : decode cX12_write 83 = .ok (.iconst 1, 1) := by decide +kernel
theorem dX12_write_84 : decode cX12_write 84 = .ok (.iload 4, 2) := by decide +kernel
theorem dX12_write_86 : decode cX12_write 86 = .ok (.iastore, 1) := by decide +kernel
theorem dX12_write_87 : decode cX12_write 87 = .ok (.aload_n 0, 1) := by decide +kernel
theorem dX12_write_88 : decode cX12_write 88 = .ok (.getfield 109, 3) := by decide +kernel
theorem dX12_write_91 : decode cX12_write 91 = .ok (.iconst 2, 1) := by decide +kernel
theorem dX12_write_92 : decode cX12_write 92 = .ok (.iload 5, 2) := by decide +kernel
theorem dX12_write_94 : decode cX12_write 94 = .ok (.iastore, 1) := by decide +kernel
theorem dX12_write_95 : decode cX12_write 95 = .ok (.iload_n 2, 1) := by decide +kernel
theorem dX12_write_96 : decode cX12_write 96 = .ok (.iconst 1, 1) := by decide +kernel
theorem dX12_write_97 : decode cX12_write 97 = .ok (.if_icmp .ne 8, 3) := by decide +kernel
theorem dX12_write_100 : decode cX12_write 100 = .ok (.bipush 14, 2) := by decide +kernel
theorem dX12_write_102 : decode cX12_write 102 = .ok (.goto 17, 3) := by decide +kernel
theorem dX12_write_105 : decode cX12_write 105 = .ok (.iload_n 2, 1) := by decide +kernel
theorem dX12_write_106 : decode cX12_write 106 = .ok (.iconst 2, 1) := by decide +kernel
theorem dX12_write_107 : decode cX12_write 107 = .ok (.if_icmp .ne 9, 3) := by decide +kernel
theorem dX12_write_110 : decode cX12_write 110 = .ok (.sipush 196, 3) := by decide +kernel
theorem dX12_write_113 : decode cX12_write 113 = .ok (.goto 6, 3) := by decide +kernel
theorem dX12_write_116 : decode cX12_write 116 = .ok (.sipush 2744, 3) := by decide +kernel
theorem dX12_write_119 : decode cX12_write 119 = .ok (.istore 6, 2) := by decide +kernel
theorem dX12_write_121 : decode cX12_write 121 = .ok (.iconst 0, 1) := by decide +kernel
theorem dX12_write_122 : decode cX12_write 122 = .ok (.istore 7, 2) := by decide +kernel
theorem dX12_write_124 : decode cX12_write 124 = .ok (.iconst 0, 1) := by decide +kernel
theorem dX12_write_125 : decode cX12_write 125 = .ok (.istore 8, 2) := by decide +kernel
theorem dX12_write_127 : decode cX12_write 127 = .ok (.iload 8, 2) := by decide +kernel
theorem dX12_write_129 : decode cX12_write 129 = .ok (.iload_n 2, 1) := by decide +kernel
theorem dX12_write_130 : decode cX12_write 130 = .ok (.if_icmp .gt 61, 3) := by decide +kernel
theorem dX12_write_133 : decode cX12_write 133 = .ok (.iload 7, 2) := by decide +kernel
theorem dX12_write_135 : decode cX12_write 135 = .ok (.ifCond .ne 56, 3) := by decide +kernel
theorem dX12_write_138 : decode cX12_write 138 = .ok (.iconst 0, 1) := by decide +kernel
theorem dX12_write_139 : decode cX12_write 139 = .ok (.istore 9, 2) := by decide +kernel
theorem dX12_write_141 : decode cX12_write 141 = .ok (.iload 9, 2) := by decide +kernel
theorem dX12_write_143 : decode cX12_write 143 = .ok (.iload 6, 2) := by decide +kernel
theorem dX12_write_145 : decode cX12_write 145 = .ok (.if_icmp .ge 40, 3) := by decide +kernel
theorem dX12_write_148 : decode cX12_write 148 = .ok (.iload 7, 2) := by decide +kernel
theorem dX12_write_150 : decode cX12_write 150 = .ok (.ifCond .ne 35, 3) := by decide +kernel
theorem dX12_write_153 : decode cX12_write 153 = .ok (.aload_n 0, 1) := by decide +kernel
theorem dX12_write_154 : decode cX12_write 154 = .ok (.iload_n 2, 1) := by decide +kernel
theorem dX12_write_155 : decode cX12_write 155 = .ok (.iload 9, 2) := by decide +kernel
theorem dX12_write_157 : decode cX12_write 157 = .ok (.invokevirtual 368, 3) := by decide +kernel
theorem dX12_write_160 : decode cX12_write 160 = .ok (.iload 8, 2) := by decide +kernel
theorem dX12_write_162 : decode cX12_write 162 = .ok (.if_icmp .ne 14, 3) := by decide +kernel
theorem dX12_write_165 : decode cX12_write 165 = .ok (.aload_n 0, 1) := by decide +kernel
theorem dX12_write_166 : decode cX12_write 166 = .ok (.invokevirtual 371, 3) := by decide +kernel
theorem dX12_write_169 : decode cX12_write 169 = .ok (.ifCond .eq 7, 3) := by decide +kernel
theorem dX12_write_172 : decode cX12_write 172 = .ok (.iconst 1, 1) := by decide +kernel
theorem dX12_write_173 : decode cX12_write 173 = .ok (.goto 4, 3) := by decide +kernel
theorem dX12_write_176 : decode cX12_write 176 = .ok (.iconst 0, 1) := by decide +kernel
theorem dX12_write_177 : decode cX12_write 177 = .ok (.istore 7, 2) := by decide +kernel
theorem dX12_write_179 : decode cX12_write 179 = .ok (.iinc 9 1, 3) := by decide +kernel
theorem dX12_write_182 : decode cX12_write 182 = .ok (.goto (-41), 3) := by decide +kernel
theorem dX12_write_185 : decode cX12_write 185 = .ok (.iinc 8 1, 3) := by decide +kernel
theorem dX12_write_188 : decode cX12_write 188 = .ok (.goto (-61), 3) := by decide +kernel
theorem dX12_write_191 : decode cX12_write 191 = .ok (.iload 7, 2) := by decide +kernel
theorem dX12_write_193 : decode cX12_write 193 = .ok (.ifCond .ne 5, 3) := by decide +kernel
theorem dX12_write_196 : decode cX12_write 196 = .ok (.iconst (-1), 1) := by decide +kernel
theorem dX12_write_197 : decode cX12_write 197 = .ok (.ireturn, 1) := by decide +kernel
theorem dX12_write_198 : decode cX12_write 198 = .ok (.aload_n 0, 1) := by decide +kernel
theorem dX12_write_199 : decode cX12_write 199 = .ok (.aload_n 0, 1) := by decide +kernel
theorem dX12_write_200 : decode cX12_write 200 = .ok (.getfield 175, 3) := by decide +kernel
theorem dX12_write_203 : decode cX12_write 203 = .ok (.putfield 375, 3) := by decide +kernel
theorem dX12_write_206 : decode cX12_write 206 = .ok (.iconst 0, 1) := by decide +kernel
theorem dX12_write_207 : decode cX12_write 207 = .ok (.istore 8, 2) := by decide +kernel
theorem dX12_write_209 : decode cX12_write 209 = .ok (.iload 8, 2) := by decide +kernel
theorem dX12_write_211 : decode cX12_write 211 = .ok (.aload_n 0, 1) := by decide +kernel
theorem dX12_write_212 : decode cX12_write 212 = .ok (.getfield 175, 3) := by decide +kernel
theorem dX12_write_215 : decode cX12_write 215 = .ok (.if_icmp .ge 39, 3) := by decide +kernel
theorem dX12_write_218 : decode cX12_write 218 = .ok (.aload_n 0, 1) := by decide +kernel
theorem dX12_write_219 : decode cX12_write 219 = .ok (.getfield 106, 3) := by decide +kernel
theorem dX12_write_222 : decode cX12_write 222 = .ok (.iload 8, 2) := by decide +kernel
theorem dX12_write_224 : decode cX12_write 224 = .ok (.aload_n 0, 1) := by decide +kernel
theorem dX12_write_225 : decode cX12_write 225 = .ok (.getfield 44, 3) := by decide +kernel
theorem dX12_write_228 : decode cX12_write 228 = .ok (.iload 8, 2) := by decide +kernel
theorem dX12_write_230 : decode cX12_write 230 = .ok (.iaload, 1) := by decide +kernel
theorem dX12_write_231 : decode cX12_write 231 = .ok (.iconst 3, 1) := by decide +kernel
theorem dX12_write_232 : decode cX12_write 232 = .ok (.if_icmp .ne 8, 3) := by decide +kernel
theorem dX12_write_235 : decode cX12_write 235 = .ok (.bipush 7, 2) := by decide +kernel
theorem dX12_write_237 : decode cX12_write 237 = .ok (.goto 10, 3) := by decide +kernel
theorem dX12_write_240 : decode cX12_write 240 = .ok (.aload_n 0, 1) := by decide +kernel
theorem dX12_write_241 : decode cX12_write 241 = .ok (.getfield 47, 3) := by decide +kernel
theorem dX12_write_244 : decode cX12_write 244 = .ok (.iload 8, 2) := by decide +kernel
theorem dX12_write_246 : decode cX12_write 246 = .ok (.iaload, 1) := by decide +kernel
theorem dX12_write_247 : decode cX12_write 247 = .ok (.iastore, 1) := by decide +kernel
theorem dX12_write_248 : decode cX12_write 248 = .ok (.iinc 8 1, 3) := by decide +kernel
theorem dX12_write_251 : decode cX12_write 251 = .ok (.goto (-42), 3) := by decide +kernel
theorem dX12_write_254 : decode cX12_write 254 = .ok (.aload_n 0, 1) := by decide +kernel
theorem dX12_write_255 : decode cX12_write 255 = .ok (.getfield 175, 3) := by decide +kernel
theorem dX12_write_258 : decode cX12_write 258 = .ok (.ireturn, 1) := by decide +kernel
theorem dX12_written_0 : decode cX12_written 0 = .ok (.iload_n 1, 1) := by decide +kernel
theorem dX12_written_1 : decode cX12_written 1 = .ok (.i2l, 1) := by decide +kernel
theorem dX12_written_2 : decode cX12_written 2 = .ok (.lconst 0, 1) := by decide +kernel
theorem dX12_written_3 : decode cX12_written 3 = .ok (.aload_n 0, 1) := by decide +kernel
theorem dX12_written_4 : decode cX12_written 4 = .ok (.getfield 375, 3) := by decide +kernel
theorem dX12_written_7 : decode cX12_written 7 = .ok (.iconst 1, 1) := by decide +kernel
theorem dX12_written_8 : decode cX12_written 8 = .ok (.isub, 1) := by decide +kernel
theorem dX12_written_9 : decode cX12_written 9 = .ok (.i2l, 1) := by decide +kernel
theorem dX12_written_10 : decode cX12_written 10 = .ok (.invokestatic 119, 3) := by decide +kernel
theorem dX12_written_13 : decode cX12_written 13 = .ok (.ifCond .eq 12, 3) := by decide +kernel
theorem dX12_written_16 : decode cX12_written 16 = .ok (.aload_n 0, 1) := by decide +kernel
theorem dX12_written_17 : decode cX12_written 17 = .ok (.getfield 106, 3) := by decide +kernel
theorem dX12_written_20 : decode cX12_written 20 = .ok (.iload_n 1, 1) := by decide +kernel
theorem dX12_written_21 : decode cX12_written 21 = .ok (.iaload, 1) := by decide +kernel
theorem dX12_written_22 : decode cX12_written 22 = .ok (.goto 4, 3) := by decide +kernel
theorem dX12_written_25 : decode cX12_written 25 = .ok (.iconst (-1), 1) := by decide +kernel
theorem dX12_written_26 : decode cX12_written 26 = .ok (.ireturn, 1) := by decide +kernel
theorem dX12_count_0 : decode cX12_count 0 = .ok (.iconst 0, 1) := by decide +kernel
theorem dX12_count_1 : decode cX12_count 1 = .ok (.istore_n 2, 1) := by decide +kernel
theorem dX12_count_2 : decode cX12_count 2 = .ok (.iconst 0, 1) := by decide +kernel
theorem dX12_count_3 : decode cX12_count 3 = .ok (.istore_n 3, 1) := by decide +kernel
theorem dX12_count_4 : decode cX12_count 4 = .ok (.iload_n 3, 1) := by decide +kernel
theorem dX12_count_5 : decode cX12_count 5 = .ok (.aload_n 0, 1) := by decide +kernel
theorem dX12_count_6 : decode cX12_count 6 = .ok (.getfield 116, 3) := by decide +kernel
theorem dX12_count_9 : decode cX12_count 9 = .ok (.if_icmp .ge 18, 3) := by decide +kernel
theorem dX12_count_12 : decode cX12_count 12 = .ok (.iload_n 2, 1) := by decide +kernel
theorem dX12_count_13 : decode cX12_count 13 = .ok (.aload_n 0, 1) := by decide +kernel
theorem dX12_count_14 : decode cX12_count 14 = .ok (.getfield 13, 3) := by decide +kernel
theorem dX12_count_17 : decode cX12_count 17 = .ok (.iload_n 3, 1) := by decide +kernel
theorem dX12_count_18 : decode cX12_count 18 = .ok (.iaload, 1) := by decide +kernel
theorem dX12_count_19 : decode cX12_count 19 = .ok (.iadd, 1) := by decide +kernel
theorem dX12_count_20 : decode cX12_count 20 = .ok (.istore_n 2, 1) := by decide +kernel
theorem dX12_count_21 : decode cX12_count 21 = .ok (.iinc 3 1, 3) := by decide +kernel
theorem dX12_count_24 : decode cX12_count 24 = .ok (.goto (-20), 3) := by decide +kernel
theorem dX12_count_27 : decode cX12_count 27 = .ok (.iload_n 1, 1) := by decide +kernel
theorem dX12_count_28 : decode cX12_count 28 = .ok (.ifCond .ne 10, 3) := by decide +kernel
theorem dX12_count_31 : decode cX12_count 31 = .ok (.aload_n 0, 1) := by decide +kernel
theorem dX12_count_32 : decode cX12_count 32 = .ok (.getfield 116, 3) := by decide +kernel
theorem dX12_count_35 : decode cX12_count 35 = .ok (.goto 26, 3) := by decide +kernel
theorem dX12_count_38 : decode cX12_count 38 = .ok (.iload_n 1, 1) := by decide +kernel
theorem dX12_count_39 : decode cX12_count 39 = .ok (.iconst 1, 1) := by decide +kernel
theorem dX12_count_40 : decode cX12_count 40 = .ok (.if_icmp .ne 10, 3) := by decide +kernel
theorem dX12_count_43 : decode cX12_count 43 = .ok (.aload_n 0, 1) := by decide +kernel
theorem dX12_count_44 : decode cX12_count 44 = .ok (.getfield 361, 3) := by decide +kernel
theorem dX12_count_47 : decode cX12_count 47 = .ok (.goto 14, 3) := by decide +kernel
theorem dX12_count_50 : decode cX12_count 50 = .ok (.iload_n 1, 1) := by decide +kernel
theorem dX12_count_51 : decode cX12_count 51 = .ok (.iconst 2, 1) := by decide +kernel
theorem dX12_count_52 : decode cX12_count 52 = .ok (.if_icmp .ne 7, 3) := by decide +kernel
theorem dX12_count_55 : decode cX12_count 55 = .ok (.iload_n 2, 1) := by decide +kernel
theorem dX12_count_56 : decode cX12_count 56 = .ok (.goto 5, 3) := by decide +kernel
theorem dX12_count_59 : decode cX12_count 59 = .ok (.bipush (-2), 2) := by decide +kernel
theorem dX12_count_61 : decode cX12_count 61 = .ok (.ireturn, 1) := by decide +kernel

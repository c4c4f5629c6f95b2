theorem dX5_init_0 : decode cX5_init 0 = .ok (.aload_n 0, 1) := by decide +kernel
theorem dX5_init_1 : decode cX5_init 1 = .ok (.invokespecial 5, 3) := by decide +kernel
theorem dX5_init_4 : decode cX5_init 4 = .ok (.aload_n 0, 1) := by decide +kernel
theorem dX5_init_5 : decode cX5_init 5 = .ok (.new 11, 3) := by decide +kernel
theorem dX5_init_8 : decode cX5_init 8 = .ok (.dup, 1) := by decide +kernel
theorem dX5_init_9 : decode cX5_init 9 = .ok (.invokespecial 13, 3) := by decide +kernel
theorem dX5_init_12 : decode cX5_init 12 = .ok (.putfield 14, 3) := by decide +kernel
theorem dX5_init_15 : decode cX5_init 15 = .ok (.aload_n 0, 1) := by decide +kernel
theorem dX5_init_16 : decode cX5_init 16 = .ok (.new 1, 3) := by decide +kernel
theorem dX5_init_19 : decode cX5_init 19 = .ok (.dup, 1) := by decide +kernel
theorem dX5_init_20 : decode cX5_init 20 = .ok (.invokespecial 20, 3) := by decide +kernel
theorem dX5_init_23 : decode cX5_init 23 = .ok (.putfield 21, 3) := by decide +kernel
theorem dX5_init_26 : decode cX5_init 26 = .ok (.aload_n 0, 1) := by decide +kernel
theorem dX5_init_27 : decode cX5_init 27 = .ok (.new 25, 3) := by decide +kernel
theorem dX5_init_30 : decode cX5_init 30 = .ok (.dup, 1) := by decide +kernel
theorem dX5_init_31 : decode cX5_init 31 = .ok (.invokespecial 27, 3) := by decide +kernel
theorem dX5_init_34 : decode cX5_init 34 = .ok (.putfield 28, 3) := by decide +kernel
theorem dX5_init_37 : decode cX5_init 37 = .ok (.aload_n 0, 1) := by decide +kernel
theorem dX5_init_38 : decode cX5_init 38 = .ok (.bipush 48, 2) := by decide +kernel
theorem dX5_init_40 : decode cX5_init 40 = .ok (.newarray .int, 2) := by decide +kernel
theorem dX5_init_42 : decode cX5_init 42 = .ok (.putfield 32, 3) := by decide +kernel
theorem dX5_init_45 : decode cX5_init 45 = .ok (.aload_n 0, 1) := by decide +kernel
theorem dX5_init_46 : decode cX5_init 46 = .ok (.bipush 48, 2) := by decide +kernel
theorem dX5_init_48 : decode cX5_init 48 = .ok (.newarray .int, 2) := by decide +kernel
theorem dX5_init_50 : decode cX5_init 50 = .ok (.putfield 36, 3) := by decide +kernel
theorem dX5_init_53 : decode cX5_init 53 = .ok (.aload_n 0, 1) := by decide +kernel
theorem dX5_init_54 : decode cX5_init 54 = .ok (.bipush 48, 2) := by decide +kernel
theorem dX5_init_56 : decode cX5_init 56 = .ok (.newarray .int, 2) := by decide +kernel
theorem dX5_init_58 : decode cX5_init 58 = .ok (.putfield 39, 3) := by decide +kernel
theorem dX5_init_61 : decode cX5_init 61 = .ok (.aload_n 0, 1) := by decide +kernel
theorem dX5_init_62 : decode cX5_init 62 = .ok (.bipush 48, 2) := by decide +kernel
theorem dX5_init_64 : decode cX5_init 64 = .ok (.newarray .int, 2) := by decide +kernel
theorem dX5_init_66 : decode cX5_init 66 = .ok (.putfield 42, 3) := by decide +kernel
theorem dX5_init_69 : decode cX5_init 69 = .ok (.aload_n 0, 1) := by decide +kernel
theorem dX5_init_70 : decode cX5_init 70 = .ok (.bipush 48, 2) := by decide +kernel
theorem dX5_init_72 : decode cX5_init 72 = .ok (.newarray .int, 2) := by decide +kernel
theorem dX5_init_74 : decode cX5_init 74 = .ok (.putfield 45, 3) := by decide +kernel
theorem dX5_init_77 : decode cX5_init 77 = .ok (.aload_n 0, 1) := by decide +kernel
theorem dX5_init_78 : decode cX5_init 78 = .ok (.bipush 48, 2) := by decide +kernel
theorem dX5_init_80 : decode cX5_init 80 = .ok (.newarray .int, 2) := by decide +kernel
theorem dX5_init_82 : decode cX5_init 82 = .ok (.putfield 48, 3) := by decide +kernel
theorem dX5_init_85 : decode cX5_init 85 = .ok (.aload_n 0, 1) := by decide +kernel
theorem dX5_init_86 : decode cX5_init 86 = .ok (.bipush 48, 2) := by decide +kernel
theorem dX5_init_88 : decode cX5_init 88 = .ok (.newarray .int, 2) := by decide +kernel
theorem dX5_init_90 : decode cX5_init 90 = .ok (.putfield 51, 3) := by decide +kernel
theorem dX5_init_93 : decode cX5_init 93 = .ok (.return_, 1) := by decide +kernel
theorem dX5_read_0 : decode cX5_read 0 = .ok (.aload_n 0, 1) := by decide +kernel
theorem dX5_read_1 : decode cX5_read 1 = .ok (.getfield 14, 3) := by decide +kernel
theorem dX5_read_4 : decode cX5_read 4 = .ok (.getfield 54, 3) := by decide +kernel
theorem dX5_read_7 : decode cX5_read 7 = .ok (.aload_n 1, 1) := by decide +kernel
theorem dX5_read_8 : decode cX5_read 8 = .ok (.invokevirtual 58, 3) := by decide +kernel
theorem dX5_read_11 : decode cX5_read 11 = .ok (.aload_n 0, 1) := by decide +kernel
theorem dX5_read_12 : decode cX5_read 12 = .ok (.getfield 21, 3) := by decide +kernel
theorem dX5_read_15 : decode cX5_read 15 = .ok (.invokevirtual 64, 3) := by decide +kernel
theorem dX5_read_18 : decode cX5_read 18 = .ok (.aload_n 0, 1) := by decide +kernel
theorem dX5_read_19 : decode cX5_read 19 = .ok (.invokevirtual 67, 3) := by decide +kernel
theorem dX5_read_22 : decode cX5_read 22 = .ok (.aload_n 1, 1) := by decide +kernel
theorem dX5_read_23 : decode cX5_read 23 = .ok (.getfield 70, 3) := by decide +kernel
theorem dX5_read_26 : decode cX5_read 26 = .ok (.getfield 76, 3) := by decide +kernel
theorem dX5_read_29 : decode cX5_read 29 = .ok (.ifCond .ne 9, 3) := by decide +kernel
theorem dX5_read_32 : decode cX5_read 32 = .ok (.aload_n 0, 1) := by decide +kernel
theorem dX5_read_33 : decode cX5_read 33 = .ok (.aload_n 1, 1) := by decide +kernel
theorem dX5_read_34 : decode cX5_read 34 = .ok (.iconst 0, 1) := by decide +kernel
theorem dX5_read_35 : decode cX5_read 35 = .ok (.invokevirtual 82, 3) := by decide +kernel
theorem dX5_read_38 : decode cX5_read 38 = .ok (.aload_n 1, 1) := by decide +kernel
theorem dX5_read_39 : decode cX5_read 39 = .ok (.getfield 70, 3) := by decide +kernel
theorem dX5_read_42 : decode cX5_read 42 = .ok (.getfield 76, 3) := by decide +kernel
theorem dX5_read_45 : decode cX5_read 45 = .ok (.ifCond .ne 7, 3) := by decide +kernel
theorem dX5_read_48 : decode cX5_read 48 = .ok (.iconst (-1), 1) := by decide +kernel
theorem dX5_read_49 : decode cX5_read 49 = .ok (.goto 4, 3) := by decide +kernel
theorem dX5_read_52 : decode cX5_read 52 = .ok (.iconst 0, 1) := by decide +kernel
theorem dX5_read_53 : decode cX5_read 53 = .ok (.istore_n 2, 1) := by decide +kernel
theorem dX5_read_54 : decode cX5_read 54 = .ok (.aload_n 0, 1) := by decide +kernel
theorem dX5_read_55 : decode cX5_read 55 = .ok (.iload_n 2, 1) := by decide +kernel
theorem dX5_read_56 : decode cX5_read 56 = .ok (.invokevirtual 86, 3) := by decide +kernel
theorem dX5_read_59 : decode cX5_read 59 = .ok (.iconst 0, 1) := by decide +kernel
theorem dX5_read_60 : decode cX5_read 60 = .ok (.istore_n 3, 1) := by decide +kernel
theorem dX5_read_61 : decode cX5_read 61 = .ok (.iload_n 3, 1) := by decide +kernel
theorem dX5_read_62 : decode cX5_read 62 = .ok (.ldc 90, 2) := by decide +kernel
theorem dX5_read_64 : decode cX5_read 64 = .ok (.if_icmp .ge 151, 3) := by decide +kernel
theorem dX5_read_67 : decode cX5_read 67 = .ok (.iload_n 2, 1) := by decide +kernel
theorem dX5_read_68 : decode cX5_read 68 = .ok (.ifCond .lt 147, 3) := by decide +kernel
theorem dX5_read_71 : decode cX5_read 71 = .ok (.iload_n 2, 1) := by decide +kernel
theorem dX5_read_72 : decode cX5_read 72 = .ok (.bipush 48, 2) := by decide +kernel
theorem dX5_read_74 : decode cX5_read 74 = .ok (.if_icmp .ge 141, 3) := by decide +kernel
theorem dX5_read_77 : decode cX5_read 77 = .ok (.aload_n 0, 1) := by decide +kernel
theorem dX5_read_78 : decode cX5_read 78 = .ok (.getfield 21, 3) := by decide +kernel
theorem dX5_read_81 : decode cX5_read 81 = .ok (.invokevirtual 91, 3) := by decide +kernel
theorem dX5_read_84 : decode cX5_read 84 = .ok (.ifCond .ne 131, 3) := by decide +kernel
theorem dX5_read_87 : decode cX5_read 87 = .ok (.aload_n 0, 1) := by decide +kernel
theorem dX5_read_88 : decode cX5_read 88 = .ok (.aload_n 1, 1) := by decide +kernel
theorem dX5_read_89 : decode cX5_read 89 = .ok (.aload_n 0, 1) := by decide +kernel
theorem dX5_read_90 : decode cX5_read 90 = .ok (.getfield 32, 3) := by decide +kernel
theorem dX5_read_93 : decode cX5_read 93 = .ok (.iload_n 2, 1) := by decide +kernel
theorem dX5_read_94 : decode cX5_read 94 = .ok (.iaload, 1) := by decide +kernel
theorem dX5_read_95 : decode cX5_read 95 = .ok (.aload_n 0, 1) := by decide +kernel
theorem dX5_read_96 : decode cX5_read 96 = .ok (.getfield 36, 3) := by decide +kernel
theorem dX5_read_99 : decode cX5_read 99 = .ok (.iload_n 2, 1) := by decide +kernel
theorem dX5_read_100 : decode cX5_read 100 = .ok (.iaload, 1) := by decide +kernel
theorem dX5_read_101 : decode cX5_read 101 = .ok (.aload_n 0, 1) := by decide +kernel
theorem dX5_read_102 : decode cX5_read 102 = .ok (.getfield 39, 3) := by decide +kernel
theorem dX5_read_105 : decode cX5_read 105 = .ok (.iload_n 2, 1) := by decide +kernel
theorem dX5_read_106 : decode cX5_read 106 = .ok (.iaload, 1) := by decide +kernel
theorem dX5_read_107 : decode cX5_read 107 = .ok (.invokevirtual 95, 3) := by decide +kernel
theorem dX5_read_110 : decode cX5_read 110 = .ok (.istore 4, 2) := by decide +kernel
theorem dX5_read_112 : decode cX5_read 112 = .ok (.iload 4, 2) := by decide +kernel
theorem dX5_read_114 : decode cX5_read 114 = .ok (.ifCond .ne 9, 3) := by decide +kernel
theorem dX5_read_117 : decode cX5_read 117 = .ok (.iinc 2 (-1), 3) := by decide +kernel
theorem dX5_read_120 : decode cX5_read 120 = .ok (.goto 89, 3) := by decide +kernel
theorem dX5_read_123 : decode cX5_read 123 = .ok (.aload_n 0, 1) := by decide +kernel
theorem dX5_read_124 : decode cX5_read 124 = .ok (.iload_n 2, 1) := by decide +kernel
theorem dX5_read_125 : decode cX5_read 125 = .ok (.invokevirtual 99, 3) := by decide +kernel
theorem dX5_read_128 : decode cX5_read 128 = .ok (.aload_n 0, 1) := by decide +kernel
theorem dX5_read_129 : decode cX5_read 129 = .ok (.getfield 39, 3) := by decide +kernel
theorem dX5_read_132 : decode cX5_read 132 = .ok (.iload_n 2, 1) := by decide +kernel
theorem dX5_read_133 : decode cX5_read 133 = .ok (.iload 4, 2) := by decide +kernel
theorem dX5_read_135 : decode cX5_read 135 = .ok (.iastore, 1) := by decide +kernel
theorem dX5_read_136 : decode cX5_read 136 = .ok (.aload_n 0, 1) := by decide +kernel
theorem dX5_read_137 : decode cX5_read 137 = .ok (.aload_n 1, 1) := by decide +kernel
theorem dX5_read_138 : decode cX5_read 138 = .ok (.iload 4, 2) := by decide +kernel
theorem dX5_read_140 : decode cX5_read 140 = .ok (.invokevirtual 102, 3) := by decide +kernel
theorem dX5_read_143 : decode cX5_read 143 = .ok (.aload_n 0, 1) := by decide +kernel
theorem dX5_read_144 : decode cX5_read 144 = .ok (.aload_n 1, 1) := by decide +kernel
theorem dX5_read_145 : decode cX5_read 145 = .ok (.getfield 70, 3) := by decide +kernel
theorem dX5_read_148 : decode cX5_read 148 = .ok (.invokevirtual 105, 3) := by decide +kernel
theorem dX5_read_151 : decode cX5_read 151 = .ok (.aload_n 0, 1) := by decide +kernel
theorem dX5_read_152 : decode cX5_read 152 = .ok (.getfield 14, 3) := by decide +kernel
theorem dX5_read_155 : decode cX5_read 155 = .ok (.aload_n 0, 1) := by decide +kernel
theorem dX5_read_156 : decode cX5_read 156 = .ok (.getfield 109, 3) := by decide +kernel
theorem dX5_read_159 : decode cX5_read 159 = .ok (.invokevirtual 112, 3) := by decide +kernel
theorem dX5_read_162 : decode cX5_read 162 = .ok (.ifCond .ne 31, 3) := by decide +kernel
theorem dX5_read_165 : decode cX5_read 165 = .ok (.aload_n 0, 1) := by decide +kernel
theorem dX5_read_166 : decode cX5_read 166 = .ok (.getfield 28, 3) := by decide +kernel
theorem dX5_read_169 : decode cX5_read 169 = .ok (.getfield 116, 3) := by decide +kernel
theorem dX5_read_172 : decode cX5_read 172 = .ok (.aload_n 1, 1) := by decide +kernel
theorem dX5_read_173 : decode cX5_read 173 = .ok (.getfield 70, 3) := by decide +kernel
theorem dX5_read_176 : decode cX5_read 176 = .ok (.getfield 76, 3) := by decide +kernel
theorem dX5_read_179 : decode cX5_read 179 = .ok (.if_icmp .ne 14, 3) := by decide +kernel
theorem dX5_read_182 : decode cX5_read 182 = .ok (.aload_n 0, 1) := by decide +kernel
theorem dX5_read_183 : decode cX5_read 183 = .ok (.aload_n 1, 1) := by decide +kernel
theorem dX5_read_184 : decode cX5_read 184 = .ok (.iload_n 2, 1) := by decide +kernel
theorem dX5_read_185 : decode cX5_read 185 = .ok (.iconst 1, 1) := by decide +kernel
theorem dX5_read_186 : decode cX5_read 186 = .ok (.iadd, 1) := by decide +kernel
theorem dX5_read_187 : decode cX5_read 187 = .ok (.invokevirtual 82, 3) := by decide +kernel
theorem dX5_read_190 : decode cX5_read 190 = .ok (.goto 19, 3) := by decide +kernel
theorem dX5_read_193 : decode cX5_read 193 = .ok (.iload_n 2, 1) := by decide +kernel
theorem dX5_read_194 : decode cX5_read 194 = .ok (.iconst 1, 1) := by decide +kernel
theorem dX5_read_195 : decode cX5_read 195 = .ok (.iadd, 1) := by decide +kernel
theorem dX5_read_196 : decode cX5_read 196 = .ok (.bipush 48, 2) := by decide +kernel
theorem dX5_read_198 : decode cX5_read 198 = .ok (.if_icmp .ge 11, 3) := by decide +kernel
theorem dX5_read_201 : decode cX5_read 201 = .ok (.iinc 2 1, 3) := by decide +kernel
theorem dX5_read_204 : decode cX5_read 204 = .ok (.aload_n 0, 1) := by decide +kernel
theorem dX5_read_205 : decode cX5_read 205 = .ok (.iload_n 2, 1) := by decide +kernel
theorem dX5_read_206 : decode cX5_read 206 = .ok (.invokevirtual 86, 3) := by decide +kernel
theorem dX5_read_209 : decode cX5_read 209 = .ok (.iinc 3 1, 3) := by decide +kernel
theorem dX5_read_212 : decode cX5_read 212 = .ok (.goto (-151), 3) := by decide +kernel
theorem dX5_read_215 : decode cX5_read 215 = .ok (.aload_n 0, 1) := by decide +kernel
theorem dX5_read_216 : decode cX5_read 216 = .ok (.getfield 21, 3) := by decide +kernel
theorem dX5_read_219 : decode cX5_read 219 = .ok (.invokevirtual 119, 3) := by decide +kernel
theorem dX5_read_222 : decode cX5_read 222 = .ok (.aload_n 0, 1) := by decide +kernel
theorem dX5_read_223 : decode cX5_read 223 = .ok (.aload_n 1, 1) := by decide +kernel
theorem dX5_read_224 : decode cX5_read 224 = .ok (.putfield 122, 3) := by decide +kernel
theorem dX5_read_227 : decode cX5_read 227 = .ok (.aload_n 1, 1) := by decide +kernel
theorem dX5_read_228 : decode cX5_read 228 = .ok (.aload_n 0, 1) := by decide +kernel
theorem dX5_read_229 : decode cX5_read 229 = .ok (.getfield 21, 3) := by decide +kernel
theorem dX5_read_232 : decode cX5_read 232 = .ok (.getfield 126, 3) := by decide +kernel
theorem dX5_read_235 : decode cX5_read 235 = .ok (.bipush 31, 2) := by decide +kernel
theorem dX5_read_237 : decode cX5_read 237 = .ok (.aload_n 0, 1) := by decide +kernel
theorem dX5_read_238 : decode cX5_read 238 = .ok (.getfield 14, 3) := by decide +kernel
theorem dX5_read_241 : decode cX5_read 241 = .ok (.getfield 54, 3) := by decide +kernel
theorem dX5_read_244 : decode cX5_read 244 = .ok (.getfield 129, 3) := by decide +kernel
theorem dX5_read_247 : decode cX5_read 247 = .ok (.invokestatic 132, 3) := by decide +kernel
theorem dX5_read_250 : decode cX5_read 250 = .ok (.isub, 1) := by decide +kernel
theorem dX5_read_251 : decode cX5_read 251 = .ok (.invokevirtual 137, 3) := by decide +kernel
theorem dX5_read_254 : decode cX5_read 254 = .ok (.return_, 1) := by decide +kernel
theorem dX5_begin_0 : decode cX5_begin 0 = .ok (.aload_n 0, 1) := by decide +kernel
theorem dX5_begin_1 : decode cX5_begin 1 = .ok (.iconst 0, 1) := by decide +kernel
theorem dX5_begin_2 : decode cX5_begin 2 = .ok (.putfield 109, 3) := by decide +kernel
theorem dX5_begin_5 : decode cX5_begin 5 = .ok (.aload_n 0, 1) := by decide +kernel
theorem dX5_begin_6 : decode cX5_begin 6 = .ok (.getfield 14, 3) := by decide +kernel
theorem dX5_begin_9 : decode cX5_begin 9 = .ok (.invokevirtual 141, 3) := by decide +kernel
theorem dX5_begin_12 : decode cX5_begin 12 = .ok (.aload_n 0, 1) := by decide +kernel
theorem dX5_begin_13 : decode cX5_begin 13 = .ok (.getfield 28, 3) := by decide +kernel
theorem dX5_begin_16 : decode cX5_begin 16 = .ok (.invokevirtual 142, 3) := by decide +kernel
theorem dX5_begin_19 : decode cX5_begin 19 = .ok (.return_, 1) := by decide +kernel
theorem dX5_keep_0 : decode cX5_keep 0 = .ok (.aload_n 1, 1) := by decide +kernel
theorem dX5_keep_1 : decode cX5_keep 1 = .ok (.getfield 143, 3) := by decide +kernel
theorem dX5_keep_4 : decode cX5_keep 4 = .ok (.ifCond .eq 47, 3) := by decide +kernel
theorem dX5_keep_7 : decode cX5_keep 7 = .ok (.aload_n 0, 1) := by decide +kernel
theorem dX5_keep_8 : decode cX5_keep 8 = .ok (.getfield 21, 3) := by decide +kernel
theorem dX5_keep_11 : decode cX5_keep 11 = .ok (.getfield 126, 3) := by decide +kernel
theorem dX5_keep_14 : decode cX5_keep 14 = .ok (.ifCond .eq 17, 3) := by decide +kernel
theorem dX5_keep_17 : decode cX5_keep 17 = .ok (.aload_n 0, 1) := by decide +kernel
theorem dX5_keep_18 : decode cX5_keep 18 = .ok (.getfield 28, 3) := by decide +kernel
theorem dX5_keep_21 : decode cX5_keep 21 = .ok (.getfield 147, 3) := by decide +kernel
theorem dX5_keep_24 : decode cX5_keep 24 = .ok (.aload_n 0, 1) := by decide +kernel
theorem dX5_keep_25 : decode cX5_keep 25 = .ok (.getfield 150, 3) := by decide +kernel
theorem dX5_keep_28 : decode cX5_keep 28 = .ok (.if_icmp .ge 23, 3) := by decide +kernel
theorem dX5_keep_31 : decode cX5_keep 31 = .ok (.aload_n 1, 1) := by decide +kernel
theorem dX5_keep_32 : decode cX5_keep 32 = .ok (.iconst 0, 1) := by decide +kernel
theorem dX5_keep_33 : decode cX5_keep 33 = .ok (.aload_n 0, 1) := by decide +kernel
theorem dX5_keep_34 : decode cX5_keep 34 = .ok (.getfield 28, 3) := by decide +kernel
theorem dX5_keep_37 : decode cX5_keep 37 = .ok (.invokevirtual 153, 3) := by decide +kernel
theorem dX5_keep_40 : decode cX5_keep 40 = .ok (.aload_n 0, 1) := by decide +kernel
theorem dX5_keep_41 : decode cX5_keep 41 = .ok (.aload_n 0, 1) := by decide +kernel
theorem dX5_keep_42 : decode cX5_keep 42 = .ok (.getfield 28, 3) := by decide +kernel
theorem dX5_keep_45 : decode cX5_keep 45 = .ok (.getfield 147, 3) := by decide +kernel
theorem dX5_keep_48 : decode cX5_keep 48 = .ok (.putfield 150, 3) := by decide +kernel
theorem dX5_keep_51 : decode cX5_keep 51 = .ok (.aload_n 0, 1) := by decide +kernel
theorem dX5_keep_52 : decode cX5_keep 52 = .ok (.getfield 21, 3) := by decide +kernel
theorem dX5_keep_55 : decode cX5_keep 55 = .ok (.aload_n 0, 1) := by decide +kernel
theorem dX5_keep_56 : decode cX5_keep 56 = .ok (.getfield 39, 3) := by decide +kernel
theorem dX5_keep_59 : decode cX5_keep 59 = .ok (.iload_n 2, 1) := by decide +kernel
theorem dX5_keep_60 : decode cX5_keep 60 = .ok (.aload_n 0, 1) := by decide +kernel
theorem dX5_keep_61 : decode cX5_keep 61 = .ok (.getfield 28, 3) := by decide +kernel
theorem dX5_keep_64 : decode cX5_keep 64 = .ok (.getfield 147, 3) := by decide +kernel
theorem dX5_keep_67 : decode cX5_keep 67 = .ok (.aload_n 0, 1) := by decide +kernel
theorem dX5_keep_68 : decode cX5_keep 68 = .ok (.getfield 28, 3) := by decide +kernel
theorem dX5_keep_71 : decode cX5_keep 71 = .ok (.getfield 157, 3) := by decide +kernel
theorem dX5_keep_74 : decode cX5_keep 74 = .ok (.invokevirtual 160, 3) := by decide +kernel
theorem dX5_keep_77 : decode cX5_keep 77 = .ok (.return_, 1) := by decide +kernel
theorem dX5_makeAgain_0 : decode cX5_makeAgain 0 = .ok (.aload_n 0, 1) := by decide +kernel
theorem dX5_makeAgain_1 : decode cX5_makeAgain 1 = .ok (.getfield 122, 3) := by decide +kernel
theorem dX5_makeAgain_4 : decode cX5_makeAgain 4 = .ok (.aload_n 1, 1) := by decide +kernel
theorem dX5_makeAgain_5 : decode cX5_makeAgain 5 = .ok (.if_acmp .eq 8, 3) := by decide +kernel
theorem dX5_makeAgain_8 : decode cX5_makeAgain 8 = .ok (.aload_n 0, 1) := by decide +kernel
theorem dX5_makeAgain_9 : decode cX5_makeAgain 9 = .ok (.aload_n 1, 1) := by decide +kernel
theorem dX5_makeAgain_10 : decode cX5_makeAgain 10 = .ok (.invokevirtual 164, 3) := by decide +kernel
theorem dX5_makeAgain_13 : decode cX5_makeAgain 13 = .ok (.aload_n 0, 1) := by decide +kernel
theorem dX5_makeAgain_14 : decode cX5_makeAgain 14 = .ok (.invokevirtual 67, 3) := by decide +kernel
theorem dX5_makeAgain_17 : decode cX5_makeAgain 17 = .ok (.iconst 0, 1) := by decide +kernel
theorem dX5_makeAgain_18 : decode cX5_makeAgain 18 = .ok (.istore_n 3, 1) := by decide +kernel
theorem dX5_makeAgain_19 : decode cX5_makeAgain 19 = .ok (.iload_n 3, 1) := by decide +kernel
theorem dX5_makeAgain_20 : decode cX5_makeAgain 20 = .ok (.bipush 48, 2) := by decide +kernel
theorem dX5_makeAgain_22 : decode cX5_makeAgain 22 = .ok (.if_icmp .ge 48, 3) := by decide +kernel
theorem dX5_makeAgain_25 : decode cX5_makeAgain 25 = .ok (.aload_n 0, 1) := by decide +kernel
theorem dX5_makeAgain_26 : decode cX5_makeAgain 26 = .ok (.getfield 28, 3) := by decide +kernel
theorem dX5_makeAgain_29 : decode cX5_makeAgain 29 = .ok (.getfield 116, 3) := by decide +kernel
theorem dX5_makeAgain_32 : decode cX5_makeAgain 32 = .ok (.aload_n 1, 1) := by decide +kernel
theorem dX5_makeAgain_33 : decode cX5_makeAgain 33 = .ok (.getfield 70, 3) := by decide +kernel
theorem dX5_makeAgain_36 : decode cX5_makeAgain 36 = .ok (.getfield 76, 3) := by decide +kernel
theorem dX5_makeAgain_39 : decode cX5_makeAgain 39 = .ok (.if_icmp .ge 31, 3) := by decide +kernel
theorem dX5_makeAgain_42 : decode cX5_makeAgain 42 = .ok (.aload_n 0, 1) := by decide +kernel
theorem dX5_makeAgain_43 : decode cX5_makeAgain 43 = .ok (.aload_n 1, 1) := by decide +kernel
theorem dX5_makeAgain_44 : decode cX5_makeAgain 44 = .ok (.aload_n 0, 1) := by decide +kernel
theorem dX5_makeAgain_45 : decode cX5_makeAgain 45 = .ok (.getfield 21, 3) := by decide +kernel
theorem dX5_makeAgain_48 : decode cX5_makeAgain 48 = .ok (.iload_n 2, 1) := by decide +kernel
theorem dX5_makeAgain_49 : decode cX5_makeAgain 49 = .ok (.iload_n 3, 1) := by decide +kernel
theorem dX5_makeAgain_50 : decode cX5_makeAgain 50 = .ok (.invokevirtual 167, 3) := by decide +kernel
theorem dX5_makeAgain_53 : decode cX5_makeAgain 53 = .ok (.invokevirtual 102, 3) := by decide +kernel
theorem dX5_makeAgain_56 : decode cX5_makeAgain 56 = .ok (.aload_n 0, 1) := by decide +kernel
theorem dX5_makeAgain_57 : decode cX5_makeAgain 57 = .ok (.aload_n 1, 1) := by decide +kernel
theorem dX5_makeAgain_58 : decode cX5_makeAgain 58 = .ok (.getfield 70, 3) := by decide +kernel
theorem dX5_makeAgain_61 : decode cX5_makeAgain 61 = .ok (.invokevirtual 105, 3) := by decide +kernel
theorem dX5_makeAgain_64 : decode cX5_makeAgain 64 = .ok (.iinc 3 1, 3) := by decide +kernel
theorem dX5_makeAgain_67 : decode cX5_makeAgain 67 = .ok (.goto (-48), 3) := by decide +kernel
theorem dX5_makeAgain_70 : decode cX5_makeAgain 70 = .ok (.return_, 1) := by decide +kernel
theorem dX5_save_0 : decode cX5_save 0 = .ok (.iload_n 1, 1) := by decide +kernel
theorem dX5_save_1 : decode cX5_save 1 = .ok (.ifCond .lt 9, 3) := by decide +kernel
theorem dX5_save_4 : decode cX5_save 4 = .ok (.iload_n 1, 1) := by decide +kernel
theorem dX5_save_5 : decode cX5_save 5 = .ok (.bipush 48, 2) := by decide +kernel
theorem dX5_save_7 : decode cX5_save 7 = .ok (.if_icmp .lt 4, 3) := by decide +kernel
theorem dX5_save_10 : decode cX5_save 10 = .ok (.return_, 1) := by decide +kernel
theorem dX5_save_11 : decode cX5_save 11 = .ok (.aload_n 0, 1) := by decide +kernel
theorem dX5_save_12 : decode cX5_save 12 = .ok (.getfield 32, 3) := by decide +kernel
theorem dX5_save_15 : decode cX5_save 15 = .ok (.iload_n 1, 1) := by decide +kernel
theorem dX5_save_16 : decode cX5_save 16 = .ok (.aload_n 0, 1) := by decide +kernel
theorem dX5_save_17 : decode cX5_save 17 = .ok (.getfield 109, 3) := by decide +kernel
theorem dX5_save_20 : decode cX5_save 20 = .ok (.iastore, 1) := by decide +kernel
theorem dX5_save_21 : decode cX5_save 21 = .ok (.aload_n 0, 1) := by decide +kernel
theorem dX5_save_22 : decode cX5_save 22 = .ok (.getfield 36, 3) := by decide +kernel
theorem dX5_save_25 : decode cX5_save 25 = .ok (.iload_n 1, 1) := by decide +kernel
theorem dX5_save_26 : decode cX5_save 26 = .ok (.aload_n 0, 1) := by decide +kernel
theorem dX5_save_27 : decode cX5_save 27 = .ok (.getfield 28, 3) := by decide +kernel
theorem dX5_save_30 : decode cX5_save 30 = .ok (.getfield 116, 3) := by decide +kernel
theorem dX5_save_33 : decode cX5_save 33 = .ok (.iastore, 1) := by decide +kernel
theorem dX5_save_34 : decode cX5_save 34 = .ok (.aload_n 0, 1) := by decide +kernel
theorem dX5_save_35 : decode cX5_save 35 = .ok (.getfield 39, 3) := by decide +kernel
theorem dX5_save_38 : decode cX5_save 38 = .ok (.iload_n 1, 1) := by decide +kernel
theorem dX5_save_39 : decode cX5_save 39 = .ok (.iconst 0, 1) := by decide +kernel
theorem dX5_save_40 : decode cX5_save 40 = .ok (.iastore, 1) := by decide +kernel
theorem dX5_save_41 : decode cX5_save 41 = .ok (.aload_n 0, 1) := by decide +kernel
theorem dX5_save_42 : decode cX5_save 42 = .ok (.getfield 42, 3) := by decide +kernel
theorem dX5_save_45 : decode cX5_save 45 = .ok (.iload_n 1, 1) := by decide +kernel
theorem dX5_save_46 : decode cX5_save 46 = .ok (.aload_n 0, 1) := by decide +kernel
theorem dX5_save_47 : decode cX5_save 47 = .ok (.getfield 14, 3) := by decide +kernel
theorem dX5_save_50 : decode cX5_save 50 = .ok (.getfield 171, 3) := by decide +kernel
theorem dX5_save_53 : decode cX5_save 53 = .ok (.iastore, 1) := by decide +kernel
theorem dX5_save_54 : decode cX5_save 54 = .ok (.aload_n 0, 1) := by decide +kernel
theorem dX5_save_55 : decode cX5_save 55 = .ok (.getfield 45, 3) := by decide +kernel
theorem dX5_save_58 : decode cX5_save 58 = .ok (.iload_n 1, 1) := by decide +kernel
theorem dX5_save_59 : decode cX5_save 59 = .ok (.aload_n 0, 1) := by decide +kernel
theorem dX5_save_60 : decode cX5_save 60 = .ok (.getfield 28, 3) := by decide +kernel
theorem dX5_save_63 : decode cX5_save 63 = .ok (.getfield 174, 3) := by decide +kernel
theorem dX5_save_66 : decode cX5_save 66 = .ok (.iastore, 1) := by decide +kernel
theorem dX5_save_67 : decode cX5_save 67 = .ok (.aload_n 0, 1) := by decide +kernel
theorem dX5_save_68 : decode cX5_save 68 = .ok (.getfield 48, 3) := by decide +kernel
theorem dX5_save_71 : decode cX5_save 71 = .ok (.iload_n 1, 1) := by decide +kernel
theorem dX5_save_72 : decode cX5_save 72 = .ok (.aload_n 0, 1) := by decide +kernel
theorem dX5_save_73 : decode cX5_save 73 = .ok (.getfield 28, 3) := by decide +kernel
theorem dX5_save_76 : decode cX5_save 76 = .ok (.getfield 147, 3) := by decide +kernel
theorem dX5_save_79 : decode cX5_save 79 = .ok (.iastore, 1) := by decide +kernel
theorem dX5_save_80 : decode cX5_save 80 = .ok (.aload_n 0, 1) := by decide +kernel
theorem dX5_save_81 : decode cX5_save 81 = .ok (.getfield 51, 3) := by decide +kernel
theorem dX5_save_84 : decode cX5_save 84 = .ok (.iload_n 1, 1) := by decide +kernel
theorem dX5_save_85 : decode cX5_save 85 = .ok (.aload_n 0, 1) := by decide +kernel
theorem dX5_save_86 : decode cX5_save 86 = .ok (.getfield 28, 3) := by decide +kernel
theorem dX5_save_89 : decode cX5_save 89 = .ok (.getfield 157, 3) := by decide +kernel
theorem dX5_save_92 : decode cX5_save 92 = .ok (.iastore, 1) := by decide +kernel
theorem dX5_save_93 : decode cX5_save 93 = .ok (.return_, 1) := by decide +kernel
theorem dX5_restore_0 : decode cX5_restore 0 = .ok (.iload_n 1, 1) := by decide +kernel
theorem dX5_restore_1 : decode cX5_restore 1 = .ok (.ifCond .lt 9, 3) := by decide +kernel
theorem dX5_restore_4 : decode cX5_restore 4 = .ok (.iload_n 1, 1) := by decide +kernel
theorem dX5_restore_5 : decode cX5_restore 5 = .ok (.bipush 48, 2) := by decide +kernel
theorem dX5_restore_7 : decode cX5_restore 7 = .ok (.if_icmp .lt 4, 3) := by decide +kernel
theorem dX5_restore_10 : decode cX5_restore 10 = .ok (.return_, 1) := by decide +kernel
theorem dX5_restore_11 : decode cX5_restore 11 = .ok (.aload_n 0, 1) := by decide +kernel
theorem dX5_restore_12 : decode cX5_restore 12 = .ok (.aload_n 0, 1) := by decide +kernel
theorem dX5_restore_13 : decode cX5_restore 13 = .ok (.getfield 32, 3) := by decide +kernel
theorem dX5_restore_16 : decode cX5_restore 16 = .ok (.iload_n 1, 1) := by decide +kernel
theorem dX5_restore_17 : decode cX5_restore 17 = .ok (.iaload, 1) := by decide +kernel
theorem dX5_restore_18 : decode cX5_restore 18 = .ok (.putfield 109, 3) := by decide +kernel
theorem dX5_restore_21 : decode cX5_restore 21 = .ok (.aload_n 0, 1) := by decide +kernel
theorem dX5_restore_22 : decode cX5_restore 22 = .ok (.getfield 28, 3) := by decide +kernel
theorem dX5_restore_25 : decode cX5_restore 25 = .ok (.aload_n 0, 1) := by decide +kernel
theorem dX5_restore_26 : decode cX5_restore 26 = .ok (.getfield 36, 3) := by decide +kernel
theorem dX5_restore_29 : decode cX5_restore 29 = .ok (.iload_n 1, 1) := by decide +kernel
theorem dX5_restore_30 : decode cX5_restore 30 = .ok (.iaload, 1) := by decide +kernel
theorem dX5_restore_31 : decode cX5_restore 31 = .ok (.putfield 116, 3) := by decide +kernel
theorem dX5_restore_34 : decode cX5_restore 34 = .ok (.aload_n 0, 1) := by decide +kernel
theorem dX5_restore_35 : decode cX5_restore 35 = .ok (.getfield 14, 3) := by decide +kernel
theorem dX5_restore_38 : decode cX5_restore 38 = .ok (.aload_n 0, 1) := by decide +kernel
theorem dX5_restore_39 : decode cX5_restore 39 = .ok (.getfield 42, 3) := by decide +kernel
theorem dX5_restore_42 : decode cX5_restore 42 = .ok (.iload_n 1, 1) := by decide +kernel
theorem dX5_restore_43 : decode cX5_restore 43 = .ok (.iaload, 1) := by decide +kernel
theorem dX5_restore_44 : decode cX5_restore 44 = .ok (.putfield 171, 3) := by decide +kernel
theorem dX5_restore_47 : decode cX5_restore 47 = .ok (.aload_n 0, 1) := by decide +kernel
theorem dX5_restore_48 : decode cX5_restore 48 = .ok (.getfield 28, 3) := by decide +kernel
theorem dX5_restore_51 : decode cX5_restore 51 = .ok (.aload_n 0, 1) := by decide +kernel
theorem dX5_restore_52 : decode cX5_restore 52 = .ok (.getfield 45, 3) := by decide +kernel
theorem dX5_restore_55 : decode cX5_restore 55 = .ok (.iload_n 1, 1) := by decide +kernel
theorem dX5_restore_56 : decode cX5_restore 56 = .ok (.iaload, 1) := by decide +kernel
theorem dX5_restore_57 : decode cX5_restore 57 = .ok (.putfield 174, 3) := by decide +kernel
theorem dX5_restore_60 : decode cX5_restore 60 = .ok (.aload_n 0, 1) := by decide +kernel
theorem dX5_restore_61 : decode cX5_restore 61 = .ok (.getfield 28, 3) := by decide +kernel
theorem dX5_restore_64 : decode cX5_restore 64 = .ok (.aload_n 0, 1) := by decide +kernel
theorem dX5_restore_65 : decode cX5_restore 65 = .ok (.getfield 48, 3) := by decide +kernel
theorem dX5_restore_68 : decode cX5_restore 68 = .ok (.iload_n 1, 1) := by decide +kernel
theorem dX5_restore_69 : decode cX5_restore 69 = .ok (.iaload, 1) := by decide +kernel
theorem dX5_restore_70 : decode cX5_restore 70 = .ok (.putfield 147, 3) := by decide +kernel
theorem dX5_restore_73 : decode cX5_restore 73 = .ok (.aload_n 0, 1) := by decide +kernel
theorem dX5_restore_74 : decode cX5_restore 74 = .ok (.getfield 28, 3) := by decide +kernel
theorem dX5_restore_77 : decode cX5_restore 77 = .ok (.aload_n 0, 1) := by decide +kernel
theorem dX5_restore_78 : decode cX5_restore 78 = .ok (.getfield 51, 3) := by decide +kernel
theorem dX5_restore_81 : decode cX5_restore 81 = .ok (.iload_n 1, 1) := by decide +kernel
theorem dX5_restore_82 : decode cX5_restore 82 = .ok (.iaload, 1) := by decide +kernel
theorem dX5_restore_83 : decode cX5_restore 83 = .ok (.putfield 157, 3) := by decide +kernel
theorem dX5_restore_86 : decode cX5_restore 86 = .ok (.return_, 1) := by decide +kernel
theorem dX5_nextChoice_0 : decode cX5_nextChoice 0 = .ok (.aload_n 0, 1) := by decide +kernel
theorem dX5_nextChoice_1 : decode cX5_nextChoice 1 = .ok (.getfield 14, 3) := by decide +kernel
theorem dX5_nextChoice_4 : decode cX5_nextChoice 4 = .ok (.iload_n 2, 1) := by decide +kernel
theorem dX5_nextChoice_5 : decode cX5_nextChoice 5 = .ok (.invokevirtual 112, 3) := by decide +kernel
theorem dX5_nextChoice_8 : decode cX5_nextChoice 8 = .ok (.istore 5, 2) := by decide +kernel
theorem dX5_nextChoice_10 : decode cX5_nextChoice 10 = .ok (.iload 5, 2) := by decide +kernel
theorem dX5_nextChoice_12 : decode cX5_nextChoice 12 = .ok (.iconst 2, 1) := by decide +kernel
theorem dX5_nextChoice_13 : decode cX5_nextChoice 13 = .ok (.if_icmp .ne 8, 3) := by decide +kernel
theorem dX5_nextChoice_16 : decode cX5_nextChoice 16 = .ok (.bipush 13, 2) := by decide +kernel
theorem dX5_nextChoice_18 : decode cX5_nextChoice 18 = .ok (.goto 15, 3) := by decide +kernel
theorem dX5_nextChoice_21 : decode cX5_nextChoice 21 = .ok (.iload 5, 2) := by decide +kernel
theorem dX5_nextChoice_23 : decode cX5_nextChoice 23 = .ok (.iconst 3, 1) := by decide +kernel
theorem dX5_nextChoice_24 : decode cX5_nextChoice 24 = .ok (.if_icmp .ne 8, 3) := by decide +kernel
theorem dX5_nextChoice_27 : decode cX5_nextChoice 27 = .ok (.bipush 16, 2) := by decide +kernel
theorem dX5_nextChoice_29 : decode cX5_nextChoice 29 = .ok (.goto 4, 3) := by decide +kernel
theorem dX5_nextChoice_32 : decode cX5_nextChoice 32 = .ok (.iconst 1, 1) := by decide +kernel
theorem dX5_nextChoice_33 : decode cX5_nextChoice 33 = .ok (.istore 6, 2) := by decide +kernel
theorem dX5_nextChoice_35 : decode cX5_nextChoice 35 = .ok (.iload 5, 2) := by decide +kernel
theorem dX5_nextChoice_37 : decode cX5_nextChoice 37 = .ok (.iconst 1, 1) := by decide +kernel
theorem dX5_nextChoice_38 : decode cX5_nextChoice 38 = .ok (.if_icmp .ne 8, 3) := by decide +kernel
theorem dX5_nextChoice_41 : decode cX5_nextChoice 41 = .ok (.bipush 11, 2) := by decide +kernel
theorem dX5_nextChoice_43 : decode cX5_nextChoice 43 = .ok (.goto 27, 3) := by decide +kernel
theorem dX5_nextChoice_46 : decode cX5_nextChoice 46 = .ok (.iload 5, 2) := by decide +kernel
theorem dX5_nextChoice_48 : decode cX5_nextChoice 48 = .ok (.iconst 2, 1) := by decide +kernel
theorem dX5_nextChoice_49 : decode cX5_nextChoice 49 = .ok (.if_icmp .ne 8, 3) := by decide +kernel
theorem dX5_nextChoice_52 : decode cX5_nextChoice 52 = .ok (.bipush 15, 2) := by decide +kernel
theorem dX5_nextChoice_54 : decode cX5_nextChoice 54 = .ok (.goto 16, 3) := by decide +kernel
theorem dX5_nextChoice_57 : decode cX5_nextChoice 57 = .ok (.iload 5, 2) := by decide +kernel
theorem dX5_nextChoice_59 : decode cX5_nextChoice 59 = .ok (.iconst 3, 1) := by decide +kernel
theorem dX5_nextChoice_60 : decode cX5_nextChoice 60 = .ok (.if_icmp .ne 8, 3) := by decide +kernel
theorem dX5_nextChoice_63 : decode cX5_nextChoice 63 = .ok (.bipush 17, 2) := by decide +kernel
theorem dX5_nextChoice_65 : decode cX5_nextChoice 65 = .ok (.goto 5, 3) := by decide +kernel
theorem dX5_nextChoice_68 : decode cX5_nextChoice 68 = .ok (.bipush 18, 2) := by decide +kernel
theorem dX5_nextChoice_70 : decode cX5_nextChoice 70 = .ok (.istore 7, 2) := by decide +kernel
theorem dX5_nextChoice_72 : decode cX5_nextChoice 72 = .ok (.aload_n 0, 1) := by decide +kernel
theorem dX5_nextChoice_73 : decode cX5_nextChoice 73 = .ok (.getfield 14, 3) := by decide +kernel
theorem dX5_nextChoice_76 : decode cX5_nextChoice 76 = .ok (.aload_n 0, 1) := by decide +kernel
theorem dX5_nextChoice_77 : decode cX5_nextChoice 77 = .ok (.getfield 14, 3) := by decide +kernel
theorem dX5_nextChoice_80 : decode cX5_nextChoice 80 = .ok (.iload_n 2, 1) := by decide +kernel
theorem dX5_nextChoice_81 : decode cX5_nextChoice 81 = .ok (.invokevirtual 177, 3) := by decide +kernel
theorem dX5_nextChoice_84 : decode cX5_nextChoice 84 = .ok (.invokevirtual 180, 3) := by decide +kernel
theorem dX5_nextChoice_87 : decode cX5_nextChoice 87 = .ok (.istore 8, 2) := by decide +kernel
theorem dX5_nextChoice_89 : decode cX5_nextChoice 89 = .ok (.iload 6, 2) := by decide +kernel
theorem dX5_nextChoice_91 : decode cX5_nextChoice 91 = .ok (.iload 4, 2) := by decide +kernel
theorem dX5_nextChoice_93 : decode cX5_nextChoice 93 = .ok (.iconst 1, 1) := by decide +kernel
theorem dX5_nextChoice_94 : decode cX5_nextChoice 94 = .ok (.iadd, 1) := by decide +kernel
theorem dX5_nextChoice_95 : decode cX5_nextChoice 95 = .ok (.invokestatic 183, 3) := by decide +kernel
theorem dX5_nextChoice_98 : decode cX5_nextChoice 98 = .ok (.istore 9, 2) := by decide +kernel
theorem dX5_nextChoice_100 : decode cX5_nextChoice 100 = .ok (.iload 9, 2) := by decide +kernel
theorem dX5_nextChoice_102 : decode cX5_nextChoice 102 = .ok (.iload 7, 2) := by decide +kernel
theorem dX5_nextChoice_104 : decode cX5_nextChoice 104 = .ok (.if_icmp .gt 76, 3) := by decide +kernel
theorem dX5_nextChoice_107 : decode cX5_nextChoice 107 = .ok (.iload 5, 2) := by decide +kernel
theorem dX5_nextChoice_109 : decode cX5_nextChoice 109 = .ok (.ifCond .ne 14, 3) := by decide +kernel
theorem dX5_nextChoice_112 : decode cX5_nextChoice 112 = .ok (.aload_n 0, 1) := by decide +kernel
theorem dX5_nextChoice_113 : decode cX5_nextChoice 113 = .ok (.aload_n 1, 1) := by decide +kernel
theorem dX5_nextChoice_114 : decode cX5_nextChoice 114 = .ok (.iload 9, 2) := by decide +kernel
theorem dX5_nextChoice_116 : decode cX5_nextChoice 116 = .ok (.iload_n 3, 1) := by decide +kernel
theorem dX5_nextChoice_117 : decode cX5_nextChoice 117 = .ok (.invokevirtual 188, 3) := by decide +kernel
theorem dX5_nextChoice_120 : decode cX5_nextChoice 120 = .ok (.goto 11, 3) := by decide +kernel
theorem dX5_nextChoice_123 : decode cX5_nextChoice 123 = .ok (.aload_n 0, 1) := by decide +kernel
theorem dX5_nextChoice_124 : decode cX5_nextChoice 124 = .ok (.getfield 14, 3) := by decide +kernel
theorem dX5_nextChoice_127 : decode cX5_nextChoice 127 = .ok (.iload_n 2, 1) := by decide +kernel
theorem dX5_nextChoice_128 : decode cX5_nextChoice 128 = .ok (.invokevirtual 192, 3) := by decide +kernel
theorem dX5_nextChoice_131 : decode cX5_nextChoice 131 = .ok (.istore 10, 2) := by decide +kernel
theorem dX5_nextChoice_133 : decode cX5_nextChoice 133 = .ok (.iload 5, 2) := by decide +kernel
theorem dX5_nextChoice_135 : decode cX5_nextChoice 135 = .ok (.ifCond .ne 11, 3) := by decide +kernel
theorem dX5_nextChoice_138 : decode cX5_nextChoice 138 = .ok (.iload 9, 2) := by decide +kernel
theorem dX5_nextChoice_140 : decode cX5_nextChoice 140 = .ok (.invokestatic 195, 3) := by decide +kernel
theorem dX5_nextChoice_143 : decode cX5_nextChoice 143 = .ok (.goto 5, 3) := by decide +kernel
theorem dX5_nextChoice_146 : decode cX5_nextChoice 146 = .ok (.iload 9, 2) := by decide +kernel
theorem dX5_nextChoice_148 : decode cX5_nextChoice 148 = .ok (.istore 11, 2) := by decide +kernel
theorem dX5_nextChoice_150 : decode cX5_nextChoice 150 = .ok (.aload_n 0, 1) := by decide +kernel
theorem dX5_nextChoice_151 : decode cX5_nextChoice 151 = .ok (.getfield 14, 3) := by decide +kernel
theorem dX5_nextChoice_154 : decode cX5_nextChoice 154 = .ok (.getfield 54, 3) := by decide +kernel
theorem dX5_nextChoice_157 : decode cX5_nextChoice 157 = .ok (.iload 10, 2) := by decide +kernel
theorem dX5_nextChoice_159 : decode cX5_nextChoice 159 = .ok (.iload 11, 2) := by decide +kernel
theorem dX5_nextChoice_161 : decode cX5_nextChoice 161 = .ok (.iload_n 3, 1) := by decide +kernel
theorem dX5_nextChoice_162 : decode cX5_nextChoice 162 = .ok (.invokevirtual 198, 3) := by decide +kernel
theorem dX5_nextChoice_165 : decode cX5_nextChoice 165 = .ok (.iload 8, 2) := by decide +kernel
theorem dX5_nextChoice_167 : decode cX5_nextChoice 167 = .ok (.iand, 1) := by decide +kernel
theorem dX5_nextChoice_168 : decode cX5_nextChoice 168 = .ok (.ifCond .eq 6, 3) := by decide +kernel
theorem dX5_nextChoice_171 : decode cX5_nextChoice 171 = .ok (.iload 9, 2) := by decide +kernel
theorem dX5_nextChoice_173 : decode cX5_nextChoice 173 = .ok (.ireturn, 1) := by decide +kernel
theorem dX5_nextChoice_174 : decode cX5_nextChoice 174 = .ok (.iinc 9 1, 3) := by decide +kernel
theorem dX5_nextChoice_177 : decode cX5_nextChoice 177 = .ok (.goto (-77), 3) := by decide +kernel
theorem dX5_nextChoice_180 : decode cX5_nextChoice 180 = .ok (.iconst 0, 1) := by decide +kernel
theorem dX5_nextChoice_181 : decode cX5_nextChoice 181 = .ok (.ireturn, 1) := by decide +kernel
theorem dX5_itemForm_0 : decode cX5_itemForm 0 = .ok (.iload_n 0, 1) := by decide +kernel
theorem dX5_itemForm_1 : decode cX5_itemForm 1 = .ok (.bipush 16, 2) := by decide +kernel
theorem dX5_itemForm_3 : decode cX5_itemForm 3 = .ok (.if_icmp .ne 8, 3) := by decide +kernel
theorem dX5_itemForm_6 : decode cX5_itemForm 6 = .ok (.bipush 15, 2) := by decide +kernel
theorem dX5_itemForm_8 : decode cX5_itemForm 8 = .ok (.goto 4, 3) := by decide +kernel
theorem dX5_itemForm_11 : decode cX5_itemForm 11 = .ok (.iload_n 0, 1) := by decide +kernel
theorem dX5_itemForm_12 : decode cX5_itemForm 12 = .ok (.ireturn, 1) := by decide +kernel
theorem dX5_itemKind_0 : decode cX5_itemKind 0 = .ok (.aload_n 1, 1) := by decide +kernel
theorem dX5_itemKind_1 : decode cX5_itemKind 1 = .ok (.getfield 70, 3) := by decide +kernel
theorem dX5_itemKind_4 : decode cX5_itemKind 4 = .ok (.iload_n 3, 1) := by decide +kernel
theorem dX5_itemKind_5 : decode cX5_itemKind 5 = .ok (.invokevirtual 202, 3) := by decide +kernel
theorem dX5_itemKind_8 : decode cX5_itemKind 8 = .ok (.istore 4, 2) := by decide +kernel
theorem dX5_itemKind_10 : decode cX5_itemKind 10 = .ok (.iload_n 2, 1) := by decide +kernel
theorem dX5_itemKind_11 : decode cX5_itemKind 11 = .ok (.tableswitch 136 1 18 #[85, 85, 136, 136, 136, 136, 136, 136, 136, 136, 136, 134, 136, 136, 88, 110, 134, 85], 85) := by decide +kernel
theorem dX5_itemKind_96 : decode cX5_itemKind 96 = .ok (.goto 56, 3) := by decide +kernel
theorem dX5_itemKind_99 : decode cX5_itemKind 99 = .ok (.aload_n 1, 1) := by decide +kernel
theorem dX5_itemKind_100 : decode cX5_itemKind 100 = .ok (.getfield 70, 3) := by decide +kernel
theorem dX5_itemKind_103 : decode cX5_itemKind 103 = .ok (.iload_n 3, 1) := by decide +kernel
theorem dX5_itemKind_104 : decode cX5_itemKind 104 = .ok (.invokevirtual 205, 3) := by decide +kernel
theorem dX5_itemKind_107 : decode cX5_itemKind 107 = .ok (.ifCond .eq 8, 3) := by decide +kernel
theorem dX5_itemKind_110 : decode cX5_itemKind 110 = .ok (.iload 4, 2) := by decide +kernel
theorem dX5_itemKind_112 : decode cX5_itemKind 112 = .ok (.goto 4, 3) := by decide +kernel
theorem dX5_itemKind_115 : decode cX5_itemKind 115 = .ok (.iconst (-1), 1) := by decide +kernel
theorem dX5_itemKind_116 : decode cX5_itemKind 116 = .ok (.istore 4, 2) := by decide +kernel
theorem dX5_itemKind_118 : decode cX5_itemKind 118 = .ok (.goto 34, 3) := by decide +kernel
theorem dX5_itemKind_121 : decode cX5_itemKind 121 = .ok (.aload_n 1, 1) := by decide +kernel
theorem dX5_itemKind_122 : decode cX5_itemKind 122 = .ok (.getfield 70, 3) := by decide +kernel
theorem dX5_itemKind_125 : decode cX5_itemKind 125 = .ok (.iload_n 3, 1) := by decide +kernel
theorem dX5_itemKind_126 : decode cX5_itemKind 126 = .ok (.invokevirtual 205, 3) := by decide +kernel
theorem dX5_itemKind_129 : decode cX5_itemKind 129 = .ok (.ifCond .eq 10, 3) := by decide +kernel
theorem dX5_itemKind_132 : decode cX5_itemKind 132 = .ok (.iload 4, 2) := by decide +kernel
theorem dX5_itemKind_134 : decode cX5_itemKind 134 = .ok (.iconst 1, 1) := by decide +kernel
theorem dX5_itemKind_135 : decode cX5_itemKind 135 = .ok (.isub, 1) := by decide +kernel
theorem dX5_itemKind_136 : decode cX5_itemKind 136 = .ok (.goto 4, 3) := by decide +kernel
theorem dX5_itemKind_139 : decode cX5_itemKind 139 = .ok (.iconst (-1), 1) := by decide +kernel
theorem dX5_itemKind_140 : decode cX5_itemKind 140 = .ok (.istore 4, 2) := by decide +kernel
theorem dX5_itemKind_142 : decode cX5_itemKind 142 = .ok (.goto 10, 3) := by decide +kernel
theorem dX5_itemKind_145 : decode cX5_itemKind 145 = .ok (.iconst (-1), 1) := by decide +kernel
theorem dX5_itemKind_146 : decode cX5_itemKind 146 = .ok (.ireturn, 1) := by decide +kernel
theorem dX5_itemKind_147 : decode cX5_itemKind 147 = .ok (.aload_n 1, 1) := by decide +kernel
theorem dX5_itemKind_148 : decode cX5_itemKind 148 = .ok (.getfield 209, 3) := by decide +kernel
theorem dX5_itemKind_151 : decode cX5_itemKind 151 = .ok (.ireturn, 1) := by decide +kernel
theorem dX5_itemKind_152 : decode cX5_itemKind 152 = .ok (.iload 4, 2) := by decide +kernel
theorem dX5_itemKind_154 : decode cX5_itemKind 154 = .ok (.ifCond .lt 17, 3) := by decide +kernel
theorem dX5_itemKind_157 : decode cX5_itemKind 157 = .ok (.iload 4, 2) := by decide +kernel
theorem dX5_itemKind_159 : decode cX5_itemKind 159 = .ok (.aload_n 1, 1) := by decide +kernel
theorem dX5_itemKind_160 : decode cX5_itemKind 160 = .ok (.getfield 209, 3) := by decide +kernel
theorem dX5_itemKind_163 : decode cX5_itemKind 163 = .ok (.if_icmp .gt 8, 3) := by decide +kernel
theorem dX5_itemKind_166 : decode cX5_itemKind 166 = .ok (.iload 4, 2) := by decide +kernel
theorem dX5_itemKind_168 : decode cX5_itemKind 168 = .ok (.goto 4, 3) := by decide +kernel
theorem dX5_itemKind_171 : decode cX5_itemKind 171 = .ok (.iconst (-1), 1) := by decide +kernel
theorem dX5_itemKind_172 : decode cX5_itemKind 172 = .ok (.ireturn, 1) := by decide +kernel
theorem dX5_choose_0 : decode cX5_choose 0 = .ok (.aload_n 0, 1) := by decide +kernel
theorem dX5_choose_1 : decode cX5_choose 1 = .ok (.getfield 14, 3) := by decide +kernel
theorem dX5_choose_4 : decode cX5_choose 4 = .ok (.aload_n 0, 1) := by decide +kernel
theorem dX5_choose_5 : decode cX5_choose 5 = .ok (.getfield 109, 3) := by decide +kernel
theorem dX5_choose_8 : decode cX5_choose 8 = .ok (.invokevirtual 112, 3) := by decide +kernel
theorem dX5_choose_11 : decode cX5_choose 11 = .ok (.ifCond .ne 7, 3) := by decide +kernel
theorem dX5_choose_14 : decode cX5_choose 14 = .ok (.iconst 1, 1) := by decide +kernel
theorem dX5_choose_15 : decode cX5_choose 15 = .ok (.goto 4, 3) := by decide +kernel
theorem dX5_choose_18 : decode cX5_choose 18 = .ok (.iconst 0, 1) := by decide +kernel
theorem dX5_choose_19 : decode cX5_choose 19 = .ok (.istore_n 3, 1) := by decide +kernel
theorem dX5_choose_20 : decode cX5_choose 20 = .ok (.iload_n 3, 1) := by decide +kernel
theorem dX5_choose_21 : decode cX5_choose 21 = .ok (.ifCond .eq 19, 3) := by decide +kernel
theorem dX5_choose_24 : decode cX5_choose 24 = .ok (.aload_n 0, 1) := by decide +kernel
theorem dX5_choose_25 : decode cX5_choose 25 = .ok (.aload_n 1, 1) := by decide +kernel
theorem dX5_choose_26 : decode cX5_choose 26 = .ok (.iload_n 2, 1) := by decide +kernel
theorem dX5_choose_27 : decode cX5_choose 27 = .ok (.aload_n 0, 1) := by decide +kernel
theorem dX5_choose_28 : decode cX5_choose 28 = .ok (.getfield 28, 3) := by decide +kernel
theorem dX5_choose_31 : decode cX5_choose 31 = .ok (.getfield 116, 3) := by decide +kernel
theorem dX5_choose_34 : decode cX5_choose 34 = .ok (.invokevirtual 188, 3) := by decide +kernel
theorem dX5_choose_37 : decode cX5_choose 37 = .ok (.goto 14, 3) := by decide +kernel
theorem dX5_choose_40 : decode cX5_choose 40 = .ok (.aload_n 0, 1) := by decide +kernel
theorem dX5_choose_41 : decode cX5_choose 41 = .ok (.getfield 14, 3) := by decide +kernel
theorem dX5_choose_44 : decode cX5_choose 44 = .ok (.aload_n 0, 1) := by decide +kernel
theorem dX5_choose_45 : decode cX5_choose 45 = .ok (.getfield 109, 3) := by decide +kernel
theorem dX5_choose_48 : decode cX5_choose 48 = .ok (.invokevirtual 192, 3) := by decide +kernel
theorem dX5_choose_51 : decode cX5_choose 51 = .ok (.istore 4, 2) := by decide +kernel
theorem dX5_choose_53 : decode cX5_choose 53 = .ok (.iload_n 3, 1) := by decide +kernel
theorem dX5_choose_54 : decode cX5_choose 54 = .ok (.ifCond .eq 10, 3) := by decide +kernel
theorem dX5_choose_57 : decode cX5_choose 57 = .ok (.iload_n 2, 1) := by decide +kernel
theorem dX5_choose_58 : decode cX5_choose 58 = .ok (.invokestatic 195, 3) := by decide +kernel
theorem dX5_choose_61 : decode cX5_choose 61 = .ok (.goto 4, 3) := by decide +kernel
theorem dX5_choose_64 : decode cX5_choose 64 = .ok (.iload_n 2, 1) := by decide +kernel
theorem dX5_choose_65 : decode cX5_choose 65 = .ok (.istore 5, 2) := by decide +kernel
theorem dX5_choose_67 : decode cX5_choose 67 = .ok (.aload_n 0, 1) := by decide +kernel
theorem dX5_choose_68 : decode cX5_choose 68 = .ok (.getfield 14, 3) := by decide +kernel
theorem dX5_choose_71 : decode cX5_choose 71 = .ok (.aload_n 0, 1) := by decide +kernel
theorem dX5_choose_72 : decode cX5_choose 72 = .ok (.getfield 109, 3) := by decide +kernel
theorem dX5_choose_75 : decode cX5_choose 75 = .ok (.invokevirtual 177, 3) := by decide +kernel
theorem dX5_choose_78 : decode cX5_choose 78 = .ok (.istore 6, 2) := by decide +kernel
theorem dX5_choose_80 : decode cX5_choose 80 = .ok (.aload_n 0, 1) := by decide +kernel
theorem dX5_choose_81 : decode cX5_choose 81 = .ok (.getfield 28, 3) := by decide +kernel
theorem dX5_choose_84 : decode cX5_choose 84 = .ok (.iload 5, 2) := by decide +kernel
theorem dX5_choose_86 : decode cX5_choose 86 = .ok (.invokevirtual 212, 3) := by decide +kernel
theorem dX5_choose_89 : decode cX5_choose 89 = .ok (.aload_n 0, 1) := by decide +kernel
theorem dX5_choose_90 : decode cX5_choose 90 = .ok (.iload 5, 2) := by decide +kernel
theorem dX5_choose_92 : decode cX5_choose 92 = .ok (.bipush 11, 2) := by decide +kernel
theorem dX5_choose_94 : decode cX5_choose 94 = .ok (.if_icmp .gt 17, 3) := by decide +kernel
theorem dX5_choose_97 : decode cX5_choose 97 = .ok (.aload_n 0, 1) := by decide +kernel
theorem dX5_choose_98 : decode cX5_choose 98 = .ok (.aload_n 1, 1) := by decide +kernel
theorem dX5_choose_99 : decode cX5_choose 99 = .ok (.iload 5, 2) := by decide +kernel
theorem dX5_choose_101 : decode cX5_choose 101 = .ok (.iload 4, 2) := by decide +kernel
theorem dX5_choose_103 : decode cX5_choose 103 = .ok (.iload 6, 2) := by decide +kernel
theorem dX5_choose_105 : decode cX5_choose 105 = .ok (.invokevirtual 215, 3) := by decide +kernel
theorem dX5_choose_108 : decode cX5_choose 108 = .ok (.goto 14, 3) := by decide +kernel
theorem dX5_choose_111 : decode cX5_choose 111 = .ok (.aload_n 0, 1) := by decide +kernel
theorem dX5_choose_112 : decode cX5_choose 112 = .ok (.aload_n 1, 1) := by decide +kernel
theorem dX5_choose_113 : decode cX5_choose 113 = .ok (.iload 5, 2) := by decide +kernel
theorem dX5_choose_115 : decode cX5_choose 115 = .ok (.iload 4, 2) := by decide +kernel
theorem dX5_choose_117 : decode cX5_choose 117 = .ok (.iload 6, 2) := by decide +kernel
theorem dX5_choose_119 : decode cX5_choose 119 = .ok (.invokevirtual 218, 3) := by decide +kernel
theorem dX5_choose_122 : decode cX5_choose 122 = .ok (.putfield 109, 3) := by decide +kernel
theorem dX5_choose_125 : decode cX5_choose 125 = .ok (.return_, 1) := by decide +kernel
theorem dX5_partsOfUnit_0 : decode cX5_partsOfUnit 0 = .ok (.aload_n 1, 1) := by decide +kernel
theorem dX5_partsOfUnit_1 : decode cX5_partsOfUnit 1 = .ok (.iload_n 3, 1) := by decide +kernel
theorem dX5_partsOfUnit_2 : decode cX5_partsOfUnit 2 = .ok (.invokevirtual 221, 3) := by decide +kernel
theorem dX5_partsOfUnit_5 : decode cX5_partsOfUnit 5 = .ok (.istore 5, 2) := by decide +kernel
theorem dX5_partsOfUnit_7 : decode cX5_partsOfUnit 7 = .ok (.iconst 2, 1) := by decide +kernel
theorem dX5_partsOfUnit_8 : decode cX5_partsOfUnit 8 = .ok (.aload_n 1, 1) := by decide +kernel
theorem dX5_partsOfUnit_9 : decode cX5_partsOfUnit 9 = .ok (.iload_n 3, 1) := by decide +kernel
theorem dX5_partsOfUnit_10 : decode cX5_partsOfUnit 10 = .ok (.iconst 1, 1) := by decide +kernel
theorem dX5_partsOfUnit_11 : decode cX5_partsOfUnit 11 = .ok (.iadd, 1) := by decide +kernel
theorem dX5_partsOfUnit_12 : decode cX5_partsOfUnit 12 = .ok (.invokevirtual 221, 3) := by decide +kernel
theorem dX5_partsOfUnit_15 : decode cX5_partsOfUnit 15 = .ok (.imul, 1) := by decide +kernel
theorem dX5_partsOfUnit_16 : decode cX5_partsOfUnit 16 = .ok (.istore 6, 2) := by decide +kernel
theorem dX5_partsOfUnit_18 : decode cX5_partsOfUnit 18 = .ok (.aload_n 1, 1) := by decide +kernel
theorem dX5_partsOfUnit_19 : decode cX5_partsOfUnit 19 = .ok (.iload_n 3, 1) := by decide +kernel
theorem dX5_partsOfUnit_20 : decode cX5_partsOfUnit 20 = .ok (.invokevirtual 224, 3) := by decide +kernel
theorem dX5_partsOfUnit_23 : decode cX5_partsOfUnit 23 = .ok (.ifCond .eq 20, 3) := by decide +kernel
theorem dX5_partsOfUnit_26 : decode cX5_partsOfUnit 26 = .ok (.iload_n 2, 1) := by decide +kernel
theorem dX5_partsOfUnit_27 : decode cX5_partsOfUnit 27 = .ok (.iconst 3, 1) := by decide +kernel
theorem dX5_partsOfUnit_28 : decode cX5_partsOfUnit 28 = .ok (.if_icmp .eq 15, 3) := by decide +kernel
theorem dX5_partsOfUnit_31 : decode cX5_partsOfUnit 31 = .ok (.aload_n 0, 1) := by decide +kernel
theorem dX5_partsOfUnit_32 : decode cX5_partsOfUnit 32 = .ok (.getfield 14, 3) := by decide +kernel
theorem dX5_partsOfUnit_35 : decode cX5_partsOfUnit 35 = .ok (.iload 4, 2) := by decide +kernel
theorem dX5_partsOfUnit_37 : decode cX5_partsOfUnit 37 = .ok (.invokevirtual 227, 3) := by decide +kernel
theorem dX5_partsOfUnit_40 : decode cX5_partsOfUnit 40 = .ok (.goto 5, 3) := by decide +kernel
theorem dX5_partsOfUnit_43 : decode cX5_partsOfUnit 43 = .ok (.iload 4, 2) := by decide +kernel
theorem dX5_partsOfUnit_45 : decode cX5_partsOfUnit 45 = .ok (.istore 7, 2) := by decide +kernel
theorem dX5_partsOfUnit_47 : decode cX5_partsOfUnit 47 = .ok (.iload_n 2, 1) := by decide +kernel
theorem dX5_partsOfUnit_48 : decode cX5_partsOfUnit 48 = .ok (.tableswitch 262 1 10 #[56, 56, 68, 80, 103, 116, 149, 171, 206, 239], 56) := by decide +kernel
theorem dX5_partsOfUnit_104 : decode cX5_partsOfUnit 104 = .ok (.aload_n 0, 1) := by decide +kernel
theorem dX5_partsOfUnit_105 : decode cX5_partsOfUnit 105 = .ok (.getfield 28, 3) := by decide +kernel
theorem dX5_partsOfUnit_108 : decode cX5_partsOfUnit 108 = .ok (.iload 5, 2) := by decide +kernel
theorem dX5_partsOfUnit_110 : decode cX5_partsOfUnit 110 = .ok (.invokevirtual 230, 3) := by decide +kernel
theorem dX5_partsOfUnit_113 : decode cX5_partsOfUnit 113 = .ok (.iload 7, 2) := by decide +kernel
theorem dX5_partsOfUnit_115 : decode cX5_partsOfUnit 115 = .ok (.ireturn, 1) := by decide +kernel
theorem dX5_partsOfUnit_116 : decode cX5_partsOfUnit 116 = .ok (.aload_n 0, 1) := by decide +kernel
theorem dX5_partsOfUnit_117 : decode cX5_partsOfUnit 117 = .ok (.getfield 28, 3) := by decide +kernel
theorem dX5_partsOfUnit_120 : decode cX5_partsOfUnit 120 = .ok (.iload 5, 2) := by decide +kernel
theorem dX5_partsOfUnit_122 : decode cX5_partsOfUnit 122 = .ok (.invokevirtual 233, 3) := by decide +kernel
theorem dX5_partsOfUnit_125 : decode cX5_partsOfUnit 125 = .ok (.iload 7, 2) := by decide +kernel
theorem dX5_partsOfUnit_127 : decode cX5_partsOfUnit 127 = .ok (.ireturn, 1) := by decide +kernel
theorem dX5_partsOfUnit_128 : decode cX5_partsOfUnit 128 = .ok (.aload_n 0, 1) := by decide +kernel
theorem dX5_partsOfUnit_129 : decode cX5_partsOfUnit 129 = .ok (.getfield 14, 3) := by decide +kernel
theorem dX5_partsOfUnit_132 : decode cX5_partsOfUnit 132 = .ok (.iload_n 3, 1) := by decide +kernel
theorem dX5_partsOfUnit_133 : decode cX5_partsOfUnit 133 = .ok (.iconst 1, 1) := by decide +kernel
theorem dX5_partsOfUnit_134 : decode cX5_partsOfUnit 134 = .ok (.iadd, 1) := by decide +kernel
theorem dX5_partsOfUnit_135 : decode cX5_partsOfUnit 135 = .ok (.aload_n 0, 1) := by decide +kernel
theorem dX5_partsOfUnit_136 : decode cX5_partsOfUnit 136 = .ok (.getfield 14, 3) := by decide +kernel
theorem dX5_partsOfUnit_139 : decode cX5_partsOfUnit 139 = .ok (.iload_n 3, 1) := by decide +kernel
theorem dX5_partsOfUnit_140 : decode cX5_partsOfUnit 140 = .ok (.iconst 1, 1) := by decide +kernel
theorem dX5_partsOfUnit_141 : decode cX5_partsOfUnit 141 = .ok (.iadd, 1) := by decide +kernel
theorem dX5_partsOfUnit_142 : decode cX5_partsOfUnit 142 = .ok (.iload 7, 2) := by decide +kernel
theorem dX5_partsOfUnit_144 : decode cX5_partsOfUnit 144 = .ok (.invokevirtual 236, 3) := by decide +kernel
theorem dX5_partsOfUnit_147 : decode cX5_partsOfUnit 147 = .ok (.invokevirtual 236, 3) := by decide +kernel
theorem dX5_partsOfUnit_150 : decode cX5_partsOfUnit 150 = .ok (.ireturn, 1) := by decide +kernel
theorem dX5_partsOfUnit_151 : decode cX5_partsOfUnit 151 = .ok (.aload_n 0, 1) := by decide +kernel
theorem dX5_partsOfUnit_152 : decode cX5_partsOfUnit 152 = .ok (.getfield 14, 3) := by decide +kernel
theorem dX5_partsOfUnit_155 : decode cX5_partsOfUnit 155 = .ok (.iload_n 3, 1) := by decide +kernel
theorem dX5_partsOfUnit_156 : decode cX5_partsOfUnit 156 = .ok (.iconst 1, 1) := by decide +kernel
theorem dX5_partsOfUnit_157 : decode cX5_partsOfUnit 157 = .ok (.iadd, 1) := by decide +kernel
theorem dX5_partsOfUnit_158 : decode cX5_partsOfUnit 158 = .ok (.iload 7, 2) := by decide +kernel
theorem dX5_partsOfUnit_160 : decode cX5_partsOfUnit 160 = .ok (.invokevirtual 239, 3) := by decide +kernel
theorem dX5_partsOfUnit_163 : decode cX5_partsOfUnit 163 = .ok (.ireturn, 1) := by decide +kernel
theorem dX5_partsOfUnit_164 : decode cX5_partsOfUnit 164 = .ok (.aload_n 0, 1) := by decide +kernel
theorem dX5_partsOfUnit_165 : decode cX5_partsOfUnit 165 = .ok (.getfield 14, 3) := by decide +kernel
theorem dX5_partsOfUnit_168 : decode cX5_partsOfUnit 168 = .ok (.iload_n 3, 1) := by decide +kernel
theorem dX5_partsOfUnit_169 : decode cX5_partsOfUnit 169 = .ok (.iconst 1, 1) := by decide +kernel
theorem dX5_partsOfUnit_170 : decode cX5_partsOfUnit 170 = .ok (.iadd, 1) := by decide +kernel
theorem dX5_partsOfUnit_171 : decode cX5_partsOfUnit 171 = .ok (.aload_n 0, 1) := by decide +kernel
theorem dX5_partsOfUnit_172 : decode cX5_partsOfUnit 172 = .ok (.getfield 14, 3) := by decide +kernel
theorem dX5_partsOfUnit_175 : decode cX5_partsOfUnit 175 = .ok (.iload_n 3, 1) := by decide +kernel
theorem dX5_partsOfUnit_176 : decode cX5_partsOfUnit 176 = .ok (.iconst 1, 1) := by decide +kernel
theorem dX5_partsOfUnit_177 : decode cX5_partsOfUnit 177 = .ok (.iadd, 1) := by decide +kernel
theorem dX5_partsOfUnit_178 : decode cX5_partsOfUnit 178 = .ok (.aload_n 0, 1) := by decide +kernel
theorem dX5_partsOfUnit_179 : decode cX5_partsOfUnit 179 = .ok (.getfield 14, 3) := by decide +kernel
theorem dX5_partsOfUnit_182 : decode cX5_partsOfUnit 182 = .ok (.iload_n 3, 1) := by decide +kernel
theorem dX5_partsOfUnit_183 : decode cX5_partsOfUnit 183 = .ok (.iconst 1, 1) := by decide +kernel
theorem dX5_partsOfUnit_184 : decode cX5_partsOfUnit 184 = .ok (.iadd, 1) := by decide +kernel
theorem dX5_partsOfUnit_185 : decode cX5_partsOfUnit 185 = .ok (.iload 7, 2) := by decide +kernel
theorem dX5_partsOfUnit_187 : decode cX5_partsOfUnit 187 = .ok (.invokevirtual 236, 3) := by decide +kernel
theorem dX5_partsOfUnit_190 : decode cX5_partsOfUnit 190 = .ok (.invokevirtual 236, 3) := by decide +kernel
theorem dX5_partsOfUnit_193 : decode cX5_partsOfUnit 193 = .ok (.invokevirtual 236, 3) := by decide +kernel
theorem dX5_partsOfUnit_196 : decode cX5_partsOfUnit 196 = .ok (.ireturn, 1) := by decide +kernel
theorem dX5_partsOfUnit_197 : decode cX5_partsOfUnit 197 = .ok (.aload_n 0, 1) := by decide +kernel
theorem dX5_partsOfUnit_198 : decode cX5_partsOfUnit 198 = .ok (.getfield 28, 3) := by decide +kernel
theorem dX5_partsOfUnit_201 : decode cX5_partsOfUnit 201 = .ok (.iload 6, 2) := by decide +kernel
theorem dX5_partsOfUnit_203 : decode cX5_partsOfUnit 203 = .ok (.invokevirtual 230, 3) := by decide +kernel
theorem dX5_partsOfUnit_206 : decode cX5_partsOfUnit 206 = .ok (.aload_n 0, 1) := by decide +kernel
theorem dX5_partsOfUnit_207 : decode cX5_partsOfUnit 207 = .ok (.getfield 14, 3) := by decide +kernel
theorem dX5_partsOfUnit_210 : decode cX5_partsOfUnit 210 = .ok (.iload_n 3, 1) := by decide +kernel
theorem dX5_partsOfUnit_211 : decode cX5_partsOfUnit 211 = .ok (.iconst 1, 1) := by decide +kernel
theorem dX5_partsOfUnit_212 : decode cX5_partsOfUnit 212 = .ok (.iadd, 1) := by decide +kernel
theorem dX5_partsOfUnit_213 : decode cX5_partsOfUnit 213 = .ok (.iload 7, 2) := by decide +kernel
theorem dX5_partsOfUnit_215 : decode cX5_partsOfUnit 215 = .ok (.invokevirtual 236, 3) := by decide +kernel
theorem dX5_partsOfUnit_218 : decode cX5_partsOfUnit 218 = .ok (.ireturn, 1) := by decide +kernel
theorem dX5_partsOfUnit_219 : decode cX5_partsOfUnit 219 = .ok (.aload_n 0, 1) := by decide +kernel
theorem dX5_partsOfUnit_220 : decode cX5_partsOfUnit 220 = .ok (.getfield 14, 3) := by decide +kernel
theorem dX5_partsOfUnit_223 : decode cX5_partsOfUnit 223 = .ok (.iload_n 3, 1) := by decide +kernel
theorem dX5_partsOfUnit_224 : decode cX5_partsOfUnit 224 = .ok (.iconst 1, 1) := by decide +kernel
theorem dX5_partsOfUnit_225 : decode cX5_partsOfUnit 225 = .ok (.iadd, 1) := by decide +kernel
theorem dX5_partsOfUnit_226 : decode cX5_partsOfUnit 226 = .ok (.aload_n 0, 1) := by decide +kernel
theorem dX5_partsOfUnit_227 : decode cX5_partsOfUnit 227 = .ok (.getfield 14, 3) := by decide +kernel
theorem dX5_partsOfUnit_230 : decode cX5_partsOfUnit 230 = .ok (.aload_n 0, 1) := by decide +kernel
theorem dX5_partsOfUnit_231 : decode cX5_partsOfUnit 231 = .ok (.getfield 14, 3) := by decide +kernel
theorem dX5_partsOfUnit_234 : decode cX5_partsOfUnit 234 = .ok (.getfield 54, 3) := by decide +kernel
theorem dX5_partsOfUnit_237 : decode cX5_partsOfUnit 237 = .ok (.iload_n 3, 1) := by decide +kernel
theorem dX5_partsOfUnit_238 : decode cX5_partsOfUnit 238 = .ok (.iconst 1, 1) := by decide +kernel
theorem dX5_partsOfUnit_239 : decode cX5_partsOfUnit 239 = .ok (.iadd, 1) := by decide +kernel
theorem dX5_partsOfUnit_240 : decode cX5_partsOfUnit 240 = .ok (.invokevirtual 242, 3) := by decide +kernel
theorem dX5_partsOfUnit_243 : decode cX5_partsOfUnit 243 = .ok (.iload 6, 2) := by decide +kernel
theorem dX5_partsOfUnit_245 : decode cX5_partsOfUnit 245 = .ok (.iload 7, 2) := by decide +kernel
theorem dX5_partsOfUnit_247 : decode cX5_partsOfUnit 247 = .ok (.invokevirtual 245, 3) := by decide +kernel
theorem dX5_partsOfUnit_250 : decode cX5_partsOfUnit 250 = .ok (.invokevirtual 236, 3) := by decide +kernel
theorem dX5_partsOfUnit_253 : decode cX5_partsOfUnit 253 = .ok (.ireturn, 1) := by decide +kernel
theorem dX5_partsOfUnit_254 : decode cX5_partsOfUnit 254 = .ok (.aload_n 0, 1) := by decide +kernel
theorem dX5_partsOfUnit_255 : decode cX5_partsOfUnit 255 = .ok (.getfield 14, 3) := by decide +kernel
theorem dX5_partsOfUnit_258 : decode cX5_partsOfUnit 258 = .ok (.iload_n 3, 1) := by decide +kernel
theorem dX5_partsOfUnit_259 : decode cX5_partsOfUnit 259 = .ok (.iconst 1, 1) := by decide +kernel
theorem dX5_partsOfUnit_260 : decode cX5_partsOfUnit 260 = .ok (.iadd, 1) := by decide +kernel
theorem dX5_partsOfUnit_261 : decode cX5_partsOfUnit 261 = .ok (.aload_n 0, 1) := by decide +kernel
theorem dX5_partsOfUnit_262 : decode cX5_partsOfUnit 262 = .ok (.getfield 14, 3) := by decide +kernel
theorem dX5_partsOfUnit_265 : decode cX5_partsOfUnit 265 = .ok (.aload_n 0, 1) := by decide +kernel
theorem dX5_partsOfUnit_266 : decode cX5_partsOfUnit 266 = .ok (.getfield 14, 3) := by decide +kernel
theorem dX5_partsOfUnit_269 : decode cX5_partsOfUnit 269 = .ok (.getfield 54, 3) := by decide +kernel
theorem dX5_partsOfUnit_272 : decode cX5_partsOfUnit 272 = .ok (.iload_n 3, 1) := by decide +kernel
theorem dX5_partsOfUnit_273 : decode cX5_partsOfUnit 273 = .ok (.invokevirtual 247, 3) := by decide +kernel
theorem dX5_partsOfUnit_276 : decode cX5_partsOfUnit 276 = .ok (.iload 6, 2) := by decide +kernel
theorem dX5_partsOfUnit_278 : decode cX5_partsOfUnit 278 = .ok (.iload 7, 2) := by decide +kernel
theorem dX5_partsOfUnit_280 : decode cX5_partsOfUnit 280 = .ok (.invokevirtual 245, 3) := by decide +kernel
theorem dX5_partsOfUnit_283 : decode cX5_partsOfUnit 283 = .ok (.invokevirtual 236, 3) := by decide +kernel
theorem dX5_partsOfUnit_286 : decode cX5_partsOfUnit 286 = .ok (.ireturn, 1) := by decide +kernel
theorem dX5_partsOfUnit_287 : decode cX5_partsOfUnit 287 = .ok (.aload_n 0, 1) := by decide +kernel
theorem dX5_partsOfUnit_288 : decode cX5_partsOfUnit 288 = .ok (.getfield 14, 3) := by decide +kernel
theorem dX5_partsOfUnit_291 : decode cX5_partsOfUnit 291 = .ok (.iload_n 3, 1) := by decide +kernel
theorem dX5_partsOfUnit_292 : decode cX5_partsOfUnit 292 = .ok (.iconst 1, 1) := by decide +kernel
theorem dX5_partsOfUnit_293 : decode cX5_partsOfUnit 293 = .ok (.iadd, 1) := by decide +kernel
theorem dX5_partsOfUnit_294 : decode cX5_partsOfUnit 294 = .ok (.aload_n 0, 1) := by decide +kernel
theorem dX5_partsOfUnit_295 : decode cX5_partsOfUnit 295 = .ok (.getfield 14, 3) := by decide +kernel
theorem dX5_partsOfUnit_298 : decode cX5_partsOfUnit 298 = .ok (.iload_n 3, 1) := by decide +kernel
theorem dX5_partsOfUnit_299 : decode cX5_partsOfUnit 299 = .ok (.iconst 1, 1) := by decide +kernel
theorem dX5_partsOfUnit_300 : decode cX5_partsOfUnit 300 = .ok (.iadd, 1) := by decide +kernel
theorem dX5_partsOfUnit_301 : decode cX5_partsOfUnit 301 = .ok (.iload 7, 2) := by decide +kernel
theorem dX5_partsOfUnit_303 : decode cX5_partsOfUnit 303 = .ok (.invokevirtual 239, 3) := by decide +kernel
theorem dX5_partsOfUnit_306 : decode cX5_partsOfUnit 306 = .ok (.invokevirtual 236, 3) := by decide +kernel
theorem dX5_partsOfUnit_309 : decode cX5_partsOfUnit 309 = .ok (.ireturn, 1) := by decide +kernel
theorem dX5_partsOfUnit_310 : decode cX5_partsOfUnit 310 = .ok (.aload_n 0, 1) := by decide +kernel
theorem dX5_partsOfUnit_311 : decode cX5_partsOfUnit 311 = .ok (.getfield 14, 3) := by decide +kernel
theorem dX5_partsOfUnit_314 : decode cX5_partsOfUnit 314 = .ok (.iload_n 3, 1) := by decide +kernel
theorem dX5_partsOfUnit_315 : decode cX5_partsOfUnit 315 = .ok (.iconst 1, 1) := by decide +kernel
theorem dX5_partsOfUnit_316 : decode cX5_partsOfUnit 316 = .ok (.iadd, 1) := by decide +kernel
theorem dX5_partsOfUnit_317 : decode cX5_partsOfUnit 317 = .ok (.aload_n 0, 1) := by decide +kernel
theorem dX5_partsOfUnit_318 : decode cX5_partsOfUnit 318 = .ok (.getfield 14, 3) := by decide +kernel
theorem dX5_partsOfUnit_321 : decode cX5_partsOfUnit 321 = .ok (.iload_n 3, 1) := by decide +kernel
theorem dX5_partsOfUnit_322 : decode cX5_partsOfUnit 322 = .ok (.iconst 1, 1) := by decide +kernel
theorem dX5_partsOfUnit_323 : decode cX5_partsOfUnit 323 = .ok (.iadd, 1) := by decide +kernel
theorem dX5_partsOfUnit_324 : decode cX5_partsOfUnit 324 = .ok (.iload 7, 2) := by decide +kernel
theorem dX5_partsOfUnit_326 : decode cX5_partsOfUnit 326 = .ok (.invokevirtual 236, 3) := by decide +kernel
theorem dX5_partsOfUnit_329 : decode cX5_partsOfUnit 329 = .ok (.invokevirtual 239, 3) := by decide +kernel
theorem dX5_partsOfUnit_332 : decode cX5_partsOfUnit 332 = .ok (.ireturn, 1) := by decide +kernel
theorem dX5_partsOfOthers_0 : decode cX5_partsOfOthers 0 = .ok (.aload_n 1, 1) := by decide +kernel
theorem dX5_partsOfOthers_1 : decode cX5_partsOfOthers 1 = .ok (.iload_n 3, 1) := by decide +kernel
theorem dX5_partsOfOthers_2 : decode cX5_partsOfOthers 2 = .ok (.invokevirtual 221, 3) := by decide +kernel
theorem dX5_partsOfOthers_5 : decode cX5_partsOfOthers 5 = .ok (.istore 5, 2) := by decide +kernel
theorem dX5_partsOfOthers_7 : decode cX5_partsOfOthers 7 = .ok (.iconst 3, 1) := by decide +kernel
theorem dX5_partsOfOthers_8 : decode cX5_partsOfOthers 8 = .ok (.aload_n 1, 1) := by decide +kernel
theorem dX5_partsOfOthers_9 : decode cX5_partsOfOthers 9 = .ok (.iload_n 3, 1) := by decide +kernel
theorem dX5_partsOfOthers_10 : decode cX5_partsOfOthers 10 = .ok (.iconst 1, 1) := by decide +kernel
theorem dX5_partsOfOthers_11 : decode cX5_partsOfOthers 11 = .ok (.iadd, 1) := by decide +kernel
theorem dX5_partsOfOthers_12 : decode cX5_partsOfOthers 12 = .ok (.invokevirtual 221, 3) := by decide +kernel
theorem dX5_partsOfOthers_15 : decode cX5_partsOfOthers 15 = .ok (.imul, 1) := by decide +kernel
theorem dX5_partsOfOthers_16 : decode cX5_partsOfOthers 16 = .ok (.istore 6, 2) := by decide +kernel
theorem dX5_partsOfOthers_18 : decode cX5_partsOfOthers 18 = .ok (.iload_n 2, 1) := by decide +kernel
theorem dX5_partsOfOthers_19 : decode cX5_partsOfOthers 19 = .ok (.tableswitch 156 13 17 #[33, 55, 88, 115, 131], 33) := by decide +kernel
theorem dX5_partsOfOthers_52 : decode cX5_partsOfOthers 52 = .ok (.aload_n 0, 1) := by decide +kernel
theorem dX5_partsOfOthers_53 : decode cX5_partsOfOthers 53 = .ok (.getfield 28, 3) := by decide +kernel
theorem dX5_partsOfOthers_56 : decode cX5_partsOfOthers 56 = .ok (.iload 6, 2) := by decide +kernel
theorem dX5_partsOfOthers_58 : decode cX5_partsOfOthers 58 = .ok (.invokevirtual 233, 3) := by decide +kernel
theorem dX5_partsOfOthers_61 : decode cX5_partsOfOthers 61 = .ok (.aload_n 0, 1) := by decide +kernel
theorem dX5_partsOfOthers_62 : decode cX5_partsOfOthers 62 = .ok (.getfield 14, 3) := by decide +kernel
theorem dX5_partsOfOthers_65 : decode cX5_partsOfOthers 65 = .ok (.iload_n 3, 1) := by decide +kernel
theorem dX5_partsOfOthers_66 : decode cX5_partsOfOthers 66 = .ok (.iconst 1, 1) := by decide +kernel
theorem dX5_partsOfOthers_67 : decode cX5_partsOfOthers 67 = .ok (.iadd, 1) := by decide +kernel
theorem dX5_partsOfOthers_68 : decode cX5_partsOfOthers 68 = .ok (.iload 4, 2) := by decide +kernel
theorem dX5_partsOfOthers_70 : decode cX5_partsOfOthers 70 = .ok (.invokevirtual 236, 3) := by decide +kernel
theorem dX5_partsOfOthers_73 : decode cX5_partsOfOthers 73 = .ok (.ireturn, 1) := by decide +kernel
theorem dX5_partsOfOthers_74 : decode cX5_partsOfOthers 74 = .ok (.aload_n 0, 1) := by decide +kernel
theorem dX5_partsOfOthers_75 : decode cX5_partsOfOthers 75 = .ok (.getfield 14, 3) := by decide +kernel
theorem dX5_partsOfOthers_78 : decode cX5_partsOfOthers 78 = .ok (.iload_n 3, 1) := by decide +kernel
theorem dX5_partsOfOthers_79 : decode cX5_partsOfOthers 79 = .ok (.iconst 1, 1) := by decide +kernel
theorem dX5_partsOfOthers_80 : decode cX5_partsOfOthers 80 = .ok (.iadd, 1) := by decide +kernel
theorem dX5_partsOfOthers_81 : decode cX5_partsOfOthers 81 = .ok (.aload_n 0, 1) := by decide +kernel
theorem dX5_partsOfOthers_82 : decode cX5_partsOfOthers 82 = .ok (.getfield 14, 3) := by decide +kernel
theorem dX5_partsOfOthers_85 : decode cX5_partsOfOthers 85 = .ok (.aload_n 0, 1) := by decide +kernel
theorem dX5_partsOfOthers_86 : decode cX5_partsOfOthers 86 = .ok (.getfield 14, 3) := by decide +kernel
theorem dX5_partsOfOthers_89 : decode cX5_partsOfOthers 89 = .ok (.getfield 54, 3) := by decide +kernel
theorem dX5_partsOfOthers_92 : decode cX5_partsOfOthers 92 = .ok (.iload_n 3, 1) := by decide +kernel
theorem dX5_partsOfOthers_93 : decode cX5_partsOfOthers 93 = .ok (.invokevirtual 250, 3) := by decide +kernel
theorem dX5_partsOfOthers_96 : decode cX5_partsOfOthers 96 = .ok (.iload 6, 2) := by decide +kernel
theorem dX5_partsOfOthers_98 : decode cX5_partsOfOthers 98 = .ok (.iload 4, 2) := by decide +kernel
theorem dX5_partsOfOthers_100 : decode cX5_partsOfOthers 100 = .ok (.invokevirtual 253, 3) := by decide +kernel
theorem dX5_partsOfOthers_103 : decode cX5_partsOfOthers 103 = .ok (.invokevirtual 236, 3) := by decide +kernel
theorem dX5_partsOfOthers_106 : decode cX5_partsOfOthers 106 = .ok (.ireturn, 1) := by decide +kernel
theorem dX5_partsOfOthers_107 : decode cX5_partsOfOthers 107 = .ok (.aload_n 0, 1) := by decide +kernel
theorem dX5_partsOfOthers_108 : decode cX5_partsOfOthers 108 = .ok (.getfield 14, 3) := by decide +kernel
theorem dX5_partsOfOthers_111 : decode cX5_partsOfOthers 111 = .ok (.iload_n 3, 1) := by decide +kernel
theorem dX5_partsOfOthers_112 : decode cX5_partsOfOthers 112 = .ok (.aload_n 0, 1) := by decide +kernel
theorem dX5_partsOfOthers_113 : decode cX5_partsOfOthers 113 = .ok (.getfield 14, 3) := by decide +kernel
theorem dX5_partsOfOthers_116 : decode cX5_partsOfOthers 116 = .ok (.iload_n 3, 1) := by decide +kernel
theorem dX5_partsOfOthers_117 : decode cX5_partsOfOthers 117 = .ok (.aload_n 0, 1) := by decide +kernel
theorem dX5_partsOfOthers_118 : decode cX5_partsOfOthers 118 = .ok (.getfield 14, 3) := by decide +kernel
theorem dX5_partsOfOthers_121 : decode cX5_partsOfOthers 121 = .ok (.iload_n 3, 1) := by decide +kernel
theorem dX5_partsOfOthers_122 : decode cX5_partsOfOthers 122 = .ok (.iload 4, 2) := by decide +kernel
theorem dX5_partsOfOthers_124 : decode cX5_partsOfOthers 124 = .ok (.invokevirtual 255, 3) := by decide +kernel
theorem dX5_partsOfOthers_127 : decode cX5_partsOfOthers 127 = .ok (.invokevirtual 255, 3) := by decide +kernel
theorem dX5_partsOfOthers_130 : decode cX5_partsOfOthers 130 = .ok (.invokevirtual 255, 3) := by decide +kernel
theorem dX5_partsOfOthers_133 : decode cX5_partsOfOthers 133 = .ok (.ireturn, 1) := by decide +kernel
theorem dX5_partsOfOthers_134 : decode cX5_partsOfOthers 134 = .ok (.aload_n 0, 1) := by decide +kernel
theorem dX5_partsOfOthers_135 : decode cX5_partsOfOthers 135 = .ok (.getfield 28, 3) := by decide +kernel
theorem dX5_partsOfOthers_138 : decode cX5_partsOfOthers 138 = .ok (.iload 5, 2) := by decide +kernel
theorem dX5_partsOfOthers_140 : decode cX5_partsOfOthers 140 = .ok (.iconst 3, 1) := by decide +kernel
theorem dX5_partsOfOthers_141 : decode cX5_partsOfOthers 141 = .ok (.idiv, 1) := by decide +kernel
theorem dX5_partsOfOthers_142 : decode cX5_partsOfOthers 142 = .ok (.iconst 2, 1) := by decide +kernel
theorem dX5_partsOfOthers_143 : decode cX5_partsOfOthers 143 = .ok (.imul, 1) := by decide +kernel
theorem dX5_partsOfOthers_144 : decode cX5_partsOfOthers 144 = .ok (.invokevirtual 230, 3) := by decide +kernel
theorem dX5_partsOfOthers_147 : decode cX5_partsOfOthers 147 = .ok (.iload 4, 2) := by decide +kernel
theorem dX5_partsOfOthers_149 : decode cX5_partsOfOthers 149 = .ok (.ireturn, 1) := by decide +kernel
theorem dX5_partsOfOthers_150 : decode cX5_partsOfOthers 150 = .ok (.aload_n 0, 1) := by decide +kernel
theorem dX5_partsOfOthers_151 : decode cX5_partsOfOthers 151 = .ok (.getfield 28, 3) := by decide +kernel
theorem dX5_partsOfOthers_154 : decode cX5_partsOfOthers 154 = .ok (.iload 5, 2) := by decide +kernel
theorem dX5_partsOfOthers_156 : decode cX5_partsOfOthers 156 = .ok (.iconst 3, 1) := by decide +kernel
theorem dX5_partsOfOthers_157 : decode cX5_partsOfOthers 157 = .ok (.idiv, 1) := by decide +kernel
theorem dX5_partsOfOthers_158 : decode cX5_partsOfOthers 158 = .ok (.invokevirtual 230, 3) := by decide +kernel
theorem dX5_partsOfOthers_161 : decode cX5_partsOfOthers 161 = .ok (.aload_n 0, 1) := by decide +kernel
theorem dX5_partsOfOthers_162 : decode cX5_partsOfOthers 162 = .ok (.getfield 28, 3) := by decide +kernel
theorem dX5_partsOfOthers_165 : decode cX5_partsOfOthers 165 = .ok (.iload 5, 2) := by decide +kernel
theorem dX5_partsOfOthers_167 : decode cX5_partsOfOthers 167 = .ok (.iconst 3, 1) := by decide +kernel
theorem dX5_partsOfOthers_168 : decode cX5_partsOfOthers 168 = .ok (.idiv, 1) := by decide +kernel
theorem dX5_partsOfOthers_169 : decode cX5_partsOfOthers 169 = .ok (.invokevirtual 230, 3) := by decide +kernel
theorem dX5_partsOfOthers_172 : decode cX5_partsOfOthers 172 = .ok (.iload 4, 2) := by decide +kernel
theorem dX5_partsOfOthers_174 : decode cX5_partsOfOthers 174 = .ok (.ireturn, 1) := by decide +kernel
theorem dX5_partsOfOthers_175 : decode cX5_partsOfOthers 175 = .ok (.aload_n 0, 1) := by decide +kernel
theorem dX5_partsOfOthers_176 : decode cX5_partsOfOthers 176 = .ok (.getfield 28, 3) := by decide +kernel
theorem dX5_partsOfOthers_179 : decode cX5_partsOfOthers 179 = .ok (.iload 5, 2) := by decide +kernel
theorem dX5_partsOfOthers_181 : decode cX5_partsOfOthers 181 = .ok (.iconst 2, 1) := by decide +kernel
theorem dX5_partsOfOthers_182 : decode cX5_partsOfOthers 182 = .ok (.idiv, 1) := by decide +kernel
theorem dX5_partsOfOthers_183 : decode cX5_partsOfOthers 183 = .ok (.iconst 3, 1) := by decide +kernel
theorem dX5_partsOfOthers_184 : decode cX5_partsOfOthers 184 = .ok (.imul, 1) := by decide +kernel
theorem dX5_partsOfOthers_185 : decode cX5_partsOfOthers 185 = .ok (.invokevirtual 233, 3) := by decide +kernel
theorem dX5_partsOfOthers_188 : decode cX5_partsOfOthers 188 = .ok (.iload 4, 2) := by decide +kernel
theorem dX5_partsOfOthers_190 : decode cX5_partsOfOthers 190 = .ok (.ireturn, 1) := by decide +kernel
theorem dX5_settle_0 : decode cX5_settle 0 = .ok (.iconst 0, 1) := by decide +kernel
theorem dX5_settle_1 : decode cX5_settle 1 = .ok (.istore_n 2, 1) := by decide +kernel
theorem dX5_settle_2 : decode cX5_settle 2 = .ok (.iload_n 2, 1) := by decide +kernel
theorem dX5_settle_3 : decode cX5_settle 3 = .ok (.sipush 128, 3) := by decide +kernel
theorem dX5_settle_6 : decode cX5_settle 6 = .ok (.if_icmp .ge 113, 3) := by decide +kernel
theorem dX5_settle_9 : decode cX5_settle 9 = .ok (.aload_n 0, 1) := by decide +kernel
theorem dX5_settle_10 : decode cX5_settle 10 = .ok (.getfield 14, 3) := by decide +kernel
theorem dX5_settle_13 : decode cX5_settle 13 = .ok (.aload_n 0, 1) := by decide +kernel
theorem dX5_settle_14 : decode cX5_settle 14 = .ok (.getfield 109, 3) := by decide +kernel
theorem dX5_settle_17 : decode cX5_settle 17 = .ok (.invokevirtual 112, 3) := by decide +kernel
theorem dX5_settle_20 : decode cX5_settle 20 = .ok (.istore_n 3, 1) := by decide +kernel
theorem dX5_settle_21 : decode cX5_settle 21 = .ok (.iload_n 3, 1) := by decide +kernel
theorem dX5_settle_22 : decode cX5_settle 22 = .ok (.iconst 4, 1) := by decide +kernel
theorem dX5_settle_23 : decode cX5_settle 23 = .ok (.if_icmp .ne 24, 3) := by decide +kernel
theorem dX5_settle_26 : decode cX5_settle 26 = .ok (.aload_n 0, 1) := by decide +kernel
theorem dX5_settle_27 : decode cX5_settle 27 = .ok (.getfield 28, 3) := by decide +kernel
theorem dX5_settle_30 : decode cX5_settle 30 = .ok (.aload_n 0, 1) := by decide +kernel
theorem dX5_settle_31 : decode cX5_settle 31 = .ok (.getfield 14, 3) := by decide +kernel
theorem dX5_settle_34 : decode cX5_settle 34 = .ok (.aload_n 0, 1) := by decide +kernel
theorem dX5_settle_35 : decode cX5_settle 35 = .ok (.getfield 109, 3) := by decide +kernel
theorem dX5_settle_38 : decode cX5_settle 38 = .ok (.invokevirtual 258, 3) := by decide +kernel
theorem dX5_settle_41 : decode cX5_settle 41 = .ok (.invokevirtual 230, 3) := by decide +kernel
theorem dX5_settle_44 : decode cX5_settle 44 = .ok (.goto 36, 3) := by decide +kernel
theorem dX5_settle_47 : decode cX5_settle 47 = .ok (.iload_n 3, 1) := by decide +kernel
theorem dX5_settle_48 : decode cX5_settle 48 = .ok (.iconst 5, 1) := by decide +kernel
theorem dX5_settle_49 : decode cX5_settle 49 = .ok (.if_icmp .ne 24, 3) := by decide +kernel
theorem dX5_settle_52 : decode cX5_settle 52 = .ok (.aload_n 0, 1) := by decide +kernel
theorem dX5_settle_53 : decode cX5_settle 53 = .ok (.getfield 28, 3) := by decide +kernel
theorem dX5_settle_56 : decode cX5_settle 56 = .ok (.aload_n 0, 1) := by decide +kernel
theorem dX5_settle_57 : decode cX5_settle 57 = .ok (.getfield 14, 3) := by decide +kernel
theorem dX5_settle_60 : decode cX5_settle 60 = .ok (.aload_n 0, 1) := by decide +kernel
theorem dX5_settle_61 : decode cX5_settle 61 = .ok (.getfield 109, 3) := by decide +kernel
theorem dX5_settle_64 : decode cX5_settle 64 = .ok (.invokevirtual 258, 3) := by decide +kernel
theorem dX5_settle_67 : decode cX5_settle 67 = .ok (.invokevirtual 233, 3) := by decide +kernel
theorem dX5_settle_70 : decode cX5_settle 70 = .ok (.goto 10, 3) := by decide +kernel
theorem dX5_settle_73 : decode cX5_settle 73 = .ok (.iload_n 3, 1) := by decide +kernel
theorem dX5_settle_74 : decode cX5_settle 74 = .ok (.bipush 6, 2) := by decide +kernel
theorem dX5_settle_76 : decode cX5_settle 76 = .ok (.if_icmp .eq 4, 3) := by decide +kernel
theorem dX5_settle_79 : decode cX5_settle 79 = .ok (.return_, 1) := by decide +kernel
theorem dX5_settle_80 : decode cX5_settle 80 = .ok (.aload_n 0, 1) := by decide +kernel
theorem dX5_settle_81 : decode cX5_settle 81 = .ok (.iload_n 3, 1) := by decide +kernel
theorem dX5_settle_82 : decode cX5_settle 82 = .ok (.bipush 6, 2) := by decide +kernel
theorem dX5_settle_84 : decode cX5_settle 84 = .ok (.if_icmp .ne 15, 3) := by decide +kernel
theorem dX5_settle_87 : decode cX5_settle 87 = .ok (.aload_n 0, 1) := by decide +kernel
theorem dX5_settle_88 : decode cX5_settle 88 = .ok (.aload_n 1, 1) := by decide +kernel
theorem dX5_settle_89 : decode cX5_settle 89 = .ok (.aload_n 0, 1) := by decide +kernel
theorem dX5_settle_90 : decode cX5_settle 90 = .ok (.getfield 109, 3) := by decide +kernel
theorem dX5_settle_93 : decode cX5_settle 93 = .ok (.invokevirtual 261, 3) := by decide +kernel
theorem dX5_settle_96 : decode cX5_settle 96 = .ok (.goto 14, 3) := by decide +kernel
theorem dX5_settle_99 : decode cX5_settle 99 = .ok (.aload_n 0, 1) := by decide +kernel
theorem dX5_settle_100 : decode cX5_settle 100 = .ok (.getfield 14, 3) := by decide +kernel
theorem dX5_settle_103 : decode cX5_settle 103 = .ok (.aload_n 0, 1) := by decide +kernel
theorem dX5_settle_104 : decode cX5_settle 104 = .ok (.getfield 109, 3) := by decide +kernel
theorem dX5_settle_107 : decode cX5_settle 107 = .ok (.invokevirtual 177, 3) := by decide +kernel
theorem dX5_settle_110 : decode cX5_settle 110 = .ok (.putfield 109, 3) := by decide +kernel
theorem dX5_settle_113 : decode cX5_settle 113 = .ok (.iinc 2 1, 3) := by decide +kernel
theorem dX5_settle_116 : decode cX5_settle 116 = .ok (.goto (-114), 3) := by decide +kernel
theorem dX5_settle_119 : decode cX5_settle 119 = .ok (.return_, 1) := by decide +kernel
theorem dX5_divide_0 : decode cX5_divide 0 = .ok (.iload_n 2, 1) := by decide +kernel
theorem dX5_divide_1 : decode cX5_divide 1 = .ok (.istore_n 3, 1) := by decide +kernel
theorem dX5_divide_2 : decode cX5_divide 2 = .ok (.iconst 0, 1) := by decide +kernel
theorem dX5_divide_3 : decode cX5_divide 3 = .ok (.istore 4, 2) := by decide +kernel
theorem dX5_divide_5 : decode cX5_divide 5 = .ok (.iconst 0, 1) := by decide +kernel
theorem dX5_divide_6 : decode cX5_divide 6 = .ok (.istore 5, 2) := by decide +kernel
theorem dX5_divide_8 : decode cX5_divide 8 = .ok (.iload 5, 2) := by decide +kernel
theorem dX5_divide_10 : decode cX5_divide 10 = .ok (.bipush 7, 2) := by decide +kernel
theorem dX5_divide_12 : decode cX5_divide 12 = .ok (.if_icmp .ge 34, 3) := by decide +kernel
theorem dX5_divide_15 : decode cX5_divide 15 = .ok (.aload_n 0, 1) := by decide +kernel
theorem dX5_divide_16 : decode cX5_divide 16 = .ok (.getfield 14, 3) := by decide +kernel
theorem dX5_divide_19 : decode cX5_divide 19 = .ok (.iload_n 3, 1) := by decide +kernel
theorem dX5_divide_20 : decode cX5_divide 20 = .ok (.invokevirtual 112, 3) := by decide +kernel
theorem dX5_divide_23 : decode cX5_divide 23 = .ok (.bipush 6, 2) := by decide +kernel
theorem dX5_divide_25 : decode cX5_divide 25 = .ok (.if_icmp .ne 21, 3) := by decide +kernel
theorem dX5_divide_28 : decode cX5_divide 28 = .ok (.iinc 4 1, 3) := by decide +kernel
theorem dX5_divide_31 : decode cX5_divide 31 = .ok (.aload_n 0, 1) := by decide +kernel
theorem dX5_divide_32 : decode cX5_divide 32 = .ok (.getfield 14, 3) := by decide +kernel
theorem dX5_divide_35 : decode cX5_divide 35 = .ok (.iload_n 3, 1) := by decide +kernel
theorem dX5_divide_36 : decode cX5_divide 36 = .ok (.invokevirtual 177, 3) := by decide +kernel
theorem dX5_divide_39 : decode cX5_divide 39 = .ok (.istore_n 3, 1) := by decide +kernel
theorem dX5_divide_40 : decode cX5_divide 40 = .ok (.iinc 5 1, 3) := by decide +kernel
theorem dX5_divide_43 : decode cX5_divide 43 = .ok (.goto (-35), 3) := by decide +kernel
theorem dX5_divide_46 : decode cX5_divide 46 = .ok (.aload_n 1, 1) := by decide +kernel
theorem dX5_divide_47 : decode cX5_divide 47 = .ok (.aload_n 0, 1) := by decide +kernel
theorem dX5_divide_48 : decode cX5_divide 48 = .ok (.getfield 28, 3) := by decide +kernel
theorem dX5_divide_51 : decode cX5_divide 51 = .ok (.getfield 116, 3) := by decide +kernel
theorem dX5_divide_54 : decode cX5_divide 54 = .ok (.invokevirtual 264, 3) := by decide +kernel
theorem dX5_divide_57 : decode cX5_divide 57 = .ok (.iconst 3, 1) := by decide +kernel
theorem dX5_divide_58 : decode cX5_divide 58 = .ok (.if_icmp .ne 34, 3) := by decide +kernel
theorem dX5_divide_61 : decode cX5_divide 61 = .ok (.aload_n 0, 1) := by decide +kernel
theorem dX5_divide_62 : decode cX5_divide 62 = .ok (.getfield 28, 3) := by decide +kernel
theorem dX5_divide_65 : decode cX5_divide 65 = .ok (.bipush 12, 2) := by decide +kernel
theorem dX5_divide_67 : decode cX5_divide 67 = .ok (.invokevirtual 212, 3) := by decide +kernel
theorem dX5_divide_70 : decode cX5_divide 70 = .ok (.aload_n 0, 1) := by decide +kernel
theorem dX5_divide_71 : decode cX5_divide 71 = .ok (.getfield 28, 3) := by decide +kernel
theorem dX5_divide_74 : decode cX5_divide 74 = .ok (.iconst 0, 1) := by decide +kernel
theorem dX5_divide_75 : decode cX5_divide 75 = .ok (.invokevirtual 230, 3) := by decide +kernel
theorem dX5_divide_78 : decode cX5_divide 78 = .ok (.aload_n 0, 1) := by decide +kernel
theorem dX5_divide_79 : decode cX5_divide 79 = .ok (.getfield 28, 3) := by decide +kernel
theorem dX5_divide_82 : decode cX5_divide 82 = .ok (.dup, 1) := by decide +kernel
theorem dX5_divide_83 : decode cX5_divide 83 = .ok (.getfield 157, 3) := by decide +kernel
theorem dX5_divide_86 : decode cX5_divide 86 = .ok (.iload 4, 2) := by decide +kernel
theorem dX5_divide_88 : decode cX5_divide 88 = .ok (.imul, 1) := by decide +kernel
theorem dX5_divide_89 : decode cX5_divide 89 = .ok (.putfield 157, 3) := by decide +kernel
theorem dX5_divide_92 : decode cX5_divide 92 = .ok (.iload_n 3, 1) := by decide +kernel
theorem dX5_divide_93 : decode cX5_divide 93 = .ok (.ireturn, 1) := by decide +kernel

theorem dX2_init_0 : decode cX2_init 0 = .ok (.aload_n 0, 1) := by decide +kernel
theorem dX2_init_1 : decode cX2_init 1 = .ok (.invokespecial 3, 3) := by decide +kernel
theorem dX2_init_4 : decode cX2_init 4 = .ok (.aload_n 0, 1) := by decide +kernel
theorem dX2_init_5 : decode cX2_init 5 = .ok (.bipush 24, 2) := by decide +kernel
theorem dX2_init_7 : decode cX2_init 7 = .ok (.newarray .int, 2) := by decide +kernel
theorem dX2_init_9 : decode cX2_init 9 = .ok (.putfield 9, 3) := by decide +kernel
theorem dX2_init_12 : decode cX2_init 12 = .ok (.aload_n 0, 1) := by decide +kernel
theorem dX2_init_13 : decode cX2_init 13 = .ok (.bipush 24, 2) := by decide +kernel
theorem dX2_init_15 : decode cX2_init 15 = .ok (.newarray .long, 2) := by decide +kernel
theorem dX2_init_17 : decode cX2_init 17 = .ok (.putfield 15, 3) := by decide +kernel
theorem dX2_init_20 : decode cX2_init 20 = .ok (.aload_n 0, 1) := by decide +kernel
theorem dX2_init_21 : decode cX2_init 21 = .ok (.bipush 24, 2) := by decide +kernel
theorem dX2_init_23 : decode cX2_init 23 = .ok (.newarray .long, 2) := by decide +kernel
theorem dX2_init_25 : decode cX2_init 25 = .ok (.putfield 19, 3) := by decide +kernel
theorem dX2_init_28 : decode cX2_init 28 = .ok (.aload_n 0, 1) := by decide +kernel
theorem dX2_init_29 : decode cX2_init 29 = .ok (.bipush 24, 2) := by decide +kernel
theorem dX2_init_31 : decode cX2_init 31 = .ok (.newarray .long, 2) := by decide +kernel
theorem dX2_init_33 : decode cX2_init 33 = .ok (.putfield 22, 3) := by decide +kernel
theorem dX2_init_36 : decode cX2_init 36 = .ok (.aload_n 0, 1) := by decide +kernel
theorem dX2_init_37 : decode cX2_init 37 = .ok (.bipush 24, 2) := by decide +kernel
theorem dX2_init_39 : decode cX2_init 39 = .ok (.newarray .long, 2) := by decide +kernel
theorem dX2_init_41 : decode cX2_init 41 = .ok (.putfield 25, 3) := by decide +kernel
theorem dX2_init_44 : decode cX2_init 44 = .ok (.aload_n 0, 1) := by decide +kernel
theorem dX2_init_45 : decode cX2_init 45 = .ok (.new 28, 3) := by decide +kernel
theorem dX2_init_48 : decode cX2_init 48 = .ok (.dup, 1) := by decide +kernel
theorem dX2_init_49 : decode cX2_init 49 = .ok (.invokespecial 30, 3) := by decide +kernel
theorem dX2_init_52 : decode cX2_init 52 = .ok (.putfield 31, 3) := by decide +kernel
theorem dX2_init_55 : decode cX2_init 55 = .ok (.aload_n 0, 1) := by decide +kernel
theorem dX2_init_56 : decode cX2_init 56 = .ok (.new 28, 3) := by decide +kernel
theorem dX2_init_59 : decode cX2_init 59 = .ok (.dup, 1) := by decide +kernel
theorem dX2_init_60 : decode cX2_init 60 = .ok (.invokespecial 30, 3) := by decide +kernel
theorem dX2_init_63 : decode cX2_init 63 = .ok (.putfield 35, 3) := by decide +kernel
theorem dX2_init_66 : decode cX2_init 66 = .ok (.return_, 1) := by decide +kernel
theorem dX2_follow_0 : decode cX2_follow 0 = .ok (.aload_n 0, 1) := by decide +kernel
theorem dX2_follow_1 : decode cX2_follow 1 = .ok (.getfield 31, 3) := by decide +kernel
theorem dX2_follow_4 : decode cX2_follow 4 = .ok (.iload_n 3, 1) := by decide +kernel
theorem dX2_follow_5 : decode cX2_follow 5 = .ok (.i2l, 1) := by decide +kernel
theorem dX2_follow_6 : decode cX2_follow 6 = .ok (.lconst 1, 1) := by decide +kernel
theorem dX2_follow_7 : decode cX2_follow 7 = .ok (.invokevirtual 38, 3) := by decide +kernel
theorem dX2_follow_10 : decode cX2_follow 10 = .ok (.iconst 0, 1) := by decide +kernel
theorem dX2_follow_11 : decode cX2_follow 11 = .ok (.istore 5, 2) := by decide +kernel
theorem dX2_follow_13 : decode cX2_follow 13 = .ok (.iconst 0, 1) := by decide +kernel
theorem dX2_follow_14 : decode cX2_follow 14 = .ok (.istore 6, 2) := by decide +kernel
theorem dX2_follow_16 : decode cX2_follow 16 = .ok (.iconst 0, 1) := by decide +kernel
theorem dX2_follow_17 : decode cX2_follow 17 = .ok (.istore 7, 2) := by decide +kernel
theorem dX2_follow_19 : decode cX2_follow 19 = .ok (.iload 7, 2) := by decide +kernel
theorem dX2_follow_21 : decode cX2_follow 21 = .ok (.aload_n 1, 1) := by decide +kernel
theorem dX2_follow_22 : decode cX2_follow 22 = .ok (.getfield 42, 3) := by decide +kernel
theorem dX2_follow_25 : decode cX2_follow 25 = .ok (.getfield 48, 3) := by decide +kernel
theorem dX2_follow_28 : decode cX2_follow 28 = .ok (.if_icmp .ge 201, 3) := by decide +kernel
theorem dX2_follow_31 : decode cX2_follow 31 = .ok (.iload_n 2, 1) := by decide +kernel
theorem dX2_follow_32 : decode cX2_follow 32 = .ok (.iconst 1, 1) := by decide +kernel
theorem dX2_follow_33 : decode cX2_follow 33 = .ok (.iand, 1) := by decide +kernel
theorem dX2_follow_34 : decode cX2_follow 34 = .ok (.ifCond .eq 18, 3) := by decide +kernel
theorem dX2_follow_37 : decode cX2_follow 37 = .ok (.aload_n 1, 1) := by decide +kernel
theorem dX2_follow_38 : decode cX2_follow 38 = .ok (.getfield 42, 3) := by decide +kernel
theorem dX2_follow_41 : decode cX2_follow 41 = .ok (.getfield 48, 3) := by decide +kernel
theorem dX2_follow_44 : decode cX2_follow 44 = .ok (.iconst 1, 1) := by decide +kernel
theorem dX2_follow_45 : decode cX2_follow 45 = .ok (.isub, 1) := by decide +kernel
theorem dX2_follow_46 : decode cX2_follow 46 = .ok (.iload 7, 2) := by decide +kernel
theorem dX2_follow_48 : decode cX2_follow 48 = .ok (.isub, 1) := by decide +kernel
theorem dX2_follow_49 : decode cX2_follow 49 = .ok (.goto 5, 3) := by decide +kernel
theorem dX2_follow_52 : decode cX2_follow 52 = .ok (.iload 7, 2) := by decide +kernel
theorem dX2_follow_54 : decode cX2_follow 54 = .ok (.istore 8, 2) := by decide +kernel
theorem dX2_follow_56 : decode cX2_follow 56 = .ok (.aload_n 1, 1) := by decide +kernel
theorem dX2_follow_57 : decode cX2_follow 57 = .ok (.getfield 42, 3) := by decide +kernel
theorem dX2_follow_60 : decode cX2_follow 60 = .ok (.iload 8, 2) := by decide +kernel
theorem dX2_follow_62 : decode cX2_follow 62 = .ok (.invokevirtual 54, 3) := by decide +kernel
theorem dX2_follow_65 : decode cX2_follow 65 = .ok (.iconst 3, 1) := by decide +kernel
theorem dX2_follow_66 : decode cX2_follow 66 = .ok (.if_icmp .ne 6, 3) := by decide +kernel
theorem dX2_follow_69 : decode cX2_follow 69 = .ok (.goto 154, 3) := by decide +kernel
theorem dX2_follow_72 : decode cX2_follow 72 = .ok (.aload_n 1, 1) := by decide +kernel
theorem dX2_follow_73 : decode cX2_follow 73 = .ok (.getfield 42, 3) := by decide +kernel
theorem dX2_follow_76 : decode cX2_follow 76 = .ok (.iload 8, 2) := by decide +kernel
theorem dX2_follow_78 : decode cX2_follow 78 = .ok (.invokevirtual 58, 3) := by decide +kernel
theorem dX2_follow_81 : decode cX2_follow 81 = .ok (.istore 9, 2) := by decide +kernel
theorem dX2_follow_83 : decode cX2_follow 83 = .ok (.aload_n 1, 1) := by decide +kernel
theorem dX2_follow_84 : decode cX2_follow 84 = .ok (.getfield 42, 3) := by decide +kernel
theorem dX2_follow_87 : decode cX2_follow 87 = .ok (.iload 8, 2) := by decide +kernel
theorem dX2_follow_89 : decode cX2_follow 89 = .ok (.invokevirtual 54, 3) := by decide +kernel
theorem dX2_follow_92 : decode cX2_follow 92 = .ok (.iconst 1, 1) := by decide +kernel
theorem dX2_follow_93 : decode cX2_follow 93 = .ok (.if_icmp .ne 7, 3) := by decide +kernel
theorem dX2_follow_96 : decode cX2_follow 96 = .ok (.iconst 1, 1) := by decide +kernel
theorem dX2_follow_97 : decode cX2_follow 97 = .ok (.goto 4, 3) := by decide +kernel
theorem dX2_follow_100 : decode cX2_follow 100 = .ok (.iconst 0, 1) := by decide +kernel
theorem dX2_follow_101 : decode cX2_follow 101 = .ok (.istore 10, 2) := by decide +kernel
theorem dX2_follow_103 : decode cX2_follow 103 = .ok (.iload 10, 2) := by decide +kernel
theorem dX2_follow_105 : decode cX2_follow 105 = .ok (.ifCond .eq 15, 3) := by decide +kernel
theorem dX2_follow_108 : decode cX2_follow 108 = .ok (.iload 5, 2) := by decide +kernel
theorem dX2_follow_110 : decode cX2_follow 110 = .ok (.ifCond .ne 10, 3) := by decide +kernel
theorem dX2_follow_113 : decode cX2_follow 113 = .ok (.iconst 1, 1) := by decide +kernel
theorem dX2_follow_114 : decode cX2_follow 114 = .ok (.istore 5, 2) := by decide +kernel
theorem dX2_follow_116 : decode cX2_follow 116 = .ok (.iload 9, 2) := by decide +kernel
theorem dX2_follow_118 : decode cX2_follow 118 = .ok (.istore 6, 2) := by decide +kernel
theorem dX2_follow_120 : decode cX2_follow 120 = .ok (.iload_n 2, 1) := by decide +kernel
theorem dX2_follow_121 : decode cX2_follow 121 = .ok (.iconst 2, 1) := by decide +kernel
theorem dX2_follow_122 : decode cX2_follow 122 = .ok (.iand, 1) := by decide +kernel
theorem dX2_follow_123 : decode cX2_follow 123 = .ok (.ifCond .eq 13, 3) := by decide +kernel
theorem dX2_follow_126 : decode cX2_follow 126 = .ok (.iconst 2, 1) := by decide +kernel
theorem dX2_follow_127 : decode cX2_follow 127 = .ok (.iload 6, 2) := by decide +kernel
theorem dX2_follow_129 : decode cX2_follow 129 = .ok (.imul, 1) := by decide +kernel
theorem dX2_follow_130 : decode cX2_follow 130 = .ok (.iload 9, 2) := by decide +kernel
theorem dX2_follow_132 : decode cX2_follow 132 = .ok (.isub, 1) := by decide +kernel
theorem dX2_follow_133 : decode cX2_follow 133 = .ok (.goto 5, 3) := by decide +kernel
theorem dX2_follow_136 : decode cX2_follow 136 = .ok (.iload 9, 2) := by decide +kernel
theorem dX2_follow_138 : decode cX2_follow 138 = .ok (.istore 11, 2) := by decide +kernel
theorem dX2_follow_140 : decode cX2_follow 140 = .ok (.iload_n 2, 1) := by decide +kernel
theorem dX2_follow_141 : decode cX2_follow 141 = .ok (.iconst 4, 1) := by decide +kernel
theorem dX2_follow_142 : decode cX2_follow 142 = .ok (.iand, 1) := by decide +kernel
theorem dX2_follow_143 : decode cX2_follow 143 = .ok (.ifCond .eq 7, 3) := by decide +kernel
theorem dX2_follow_146 : decode cX2_follow 146 = .ok (.iconst 2, 1) := by decide +kernel
theorem dX2_follow_147 : decode cX2_follow 147 = .ok (.goto 4, 3) := by decide +kernel
theorem dX2_follow_150 : decode cX2_follow 150 = .ok (.iconst 1, 1) := by decide +kernel
theorem dX2_follow_151 : decode cX2_follow 151 = .ok (.istore 12, 2) := by decide +kernel
theorem dX2_follow_153 : decode cX2_follow 153 = .ok (.aload_n 0, 1) := by decide +kernel
theorem dX2_follow_154 : decode cX2_follow 154 = .ok (.getfield 35, 3) := by decide +kernel
theorem dX2_follow_157 : decode cX2_follow 157 = .ok (.aload_n 1, 1) := by decide +kernel
theorem dX2_follow_158 : decode cX2_follow 158 = .ok (.iload 8, 2) := by decide +kernel
theorem dX2_follow_160 : decode cX2_follow 160 = .ok (.invokevirtual 61, 3) := by decide +kernel
theorem dX2_follow_163 : decode cX2_follow 163 = .ok (.i2l, 1) := by decide +kernel
theorem dX2_follow_164 : decode cX2_follow 164 = .ok (.aload_n 1, 1) := by decide +kernel
theorem dX2_follow_165 : decode cX2_follow 165 = .ok (.getfield 42, 3) := by decide +kernel
theorem dX2_follow_168 : decode cX2_follow 168 = .ok (.iload 8, 2) := by decide +kernel
theorem dX2_follow_170 : decode cX2_follow 170 = .ok (.invokevirtual 64, 3) := by decide +kernel
theorem dX2_follow_173 : decode cX2_follow 173 = .ok (.i2l, 1) := by decide +kernel
theorem dX2_follow_174 : decode cX2_follow 174 = .ok (.lmul, 1) := by decide +kernel
theorem dX2_follow_175 : decode cX2_follow 175 = .ok (.iload 12, 2) := by decide +kernel
theorem dX2_follow_177 : decode cX2_follow 177 = .ok (.i2l, 1) := by decide +kernel
theorem dX2_follow_178 : decode cX2_follow 178 = .ok (.lmul, 1) := by decide +kernel
theorem dX2_follow_179 : decode cX2_follow 179 = .ok (.aload_n 1, 1) := by decide +kernel
theorem dX2_follow_180 : decode cX2_follow 180 = .ok (.getfield 42, 3) := by decide +kernel
theorem dX2_follow_183 : decode cX2_follow 183 = .ok (.iload 8, 2) := by decide +kernel
theorem dX2_follow_185 : decode cX2_follow 185 = .ok (.invokevirtual 67, 3) := by decide +kernel
theorem dX2_follow_188 : decode cX2_follow 188 = .ok (.i2l, 1) := by decide +kernel
theorem dX2_follow_189 : decode cX2_follow 189 = .ok (.invokevirtual 38, 3) := by decide +kernel
theorem dX2_follow_192 : decode cX2_follow 192 = .ok (.aload_n 0, 1) := by decide +kernel
theorem dX2_follow_193 : decode cX2_follow 193 = .ok (.iload 10, 2) := by decide +kernel
theorem dX2_follow_195 : decode cX2_follow 195 = .ok (.ifCond .eq 11, 3) := by decide +kernel
theorem dX2_follow_198 : decode cX2_follow 198 = .ok (.iload 11, 2) := by decide +kernel
theorem dX2_follow_200 : decode cX2_follow 200 = .ok (.iload 4, 2) := by decide +kernel
theorem dX2_follow_202 : decode cX2_follow 202 = .ok (.iadd, 1) := by decide +kernel
theorem dX2_follow_203 : decode cX2_follow 203 = .ok (.goto 6, 3) := by decide +kernel
theorem dX2_follow_206 : decode cX2_follow 206 = .ok (.sipush 1000, 3) := by decide +kernel
theorem dX2_follow_209 : decode cX2_follow 209 = .ok (.invokevirtual 70, 3) := by decide +kernel
theorem dX2_follow_212 : decode cX2_follow 212 = .ok (.aload_n 0, 1) := by decide +kernel
theorem dX2_follow_213 : decode cX2_follow 213 = .ok (.getfield 31, 3) := by decide +kernel
theorem dX2_follow_216 : decode cX2_follow 216 = .ok (.aload_n 0, 1) := by decide +kernel
theorem dX2_follow_217 : decode cX2_follow 217 = .ok (.getfield 35, 3) := by decide +kernel
theorem dX2_follow_220 : decode cX2_follow 220 = .ok (.invokevirtual 74, 3) := by decide +kernel
theorem dX2_follow_223 : decode cX2_follow 223 = .ok (.iinc 7 1, 3) := by decide +kernel
theorem dX2_follow_226 : decode cX2_follow 226 = .ok (.goto (-207), 3) := by decide +kernel
theorem dX2_follow_229 : decode cX2_follow 229 = .ok (.return_, 1) := by decide +kernel
theorem dX2_append_0 : decode cX2_append 0 = .ok (.aload_n 0, 1) := by decide +kernel
theorem dX2_append_1 : decode cX2_append 1 = .ok (.getfield 78, 3) := by decide +kernel
theorem dX2_append_4 : decode cX2_append 4 = .ok (.ifCond .lt 12, 3) := by decide +kernel
theorem dX2_append_7 : decode cX2_append 7 = .ok (.aload_n 0, 1) := by decide +kernel
theorem dX2_append_8 : decode cX2_append 8 = .ok (.getfield 78, 3) := by decide +kernel
theorem dX2_append_11 : decode cX2_append 11 = .ok (.bipush 24, 2) := by decide +kernel
theorem dX2_append_13 : decode cX2_append 13 = .ok (.if_icmp .lt 4, 3) := by decide +kernel
theorem dX2_append_16 : decode cX2_append 16 = .ok (.return_, 1) := by decide +kernel
theorem dX2_append_17 : decode cX2_append 17 = .ok (.aload_n 0, 1) := by decide +kernel
theorem dX2_append_18 : decode cX2_append 18 = .ok (.getfield 9, 3) := by decide +kernel
theorem dX2_append_21 : decode cX2_append 21 = .ok (.aload_n 0, 1) := by decide +kernel
theorem dX2_append_22 : decode cX2_append 22 = .ok (.getfield 78, 3) := by decide +kernel
theorem dX2_append_25 : decode cX2_append 25 = .ok (.iload_n 1, 1) := by decide +kernel
theorem dX2_append_26 : decode cX2_append 26 = .ok (.iastore, 1) := by decide +kernel
theorem dX2_append_27 : decode cX2_append 27 = .ok (.aload_n 0, 1) := by decide +kernel
theorem dX2_append_28 : decode cX2_append 28 = .ok (.getfield 15, 3) := by decide +kernel
theorem dX2_append_31 : decode cX2_append 31 = .ok (.aload_n 0, 1) := by decide +kernel
theorem dX2_append_32 : decode cX2_append 32 = .ok (.getfield 78, 3) := by decide +kernel
theorem dX2_append_35 : decode cX2_append 35 = .ok (.aload_n 0, 1) := by decide +kernel
theorem dX2_append_36 : decode cX2_append 36 = .ok (.getfield 31, 3) := by decide +kernel
theorem dX2_append_39 : decode cX2_append 39 = .ok (.getfield 79, 3) := by decide +kernel
theorem dX2_append_42 : decode cX2_append 42 = .ok (.lastore, 1) := by decide +kernel
theorem dX2_append_43 : decode cX2_append 43 = .ok (.aload_n 0, 1) := by decide +kernel
theorem dX2_append_44 : decode cX2_append 44 = .ok (.getfield 19, 3) := by decide +kernel
theorem dX2_append_47 : decode cX2_append 47 = .ok (.aload_n 0, 1) := by decide +kernel
theorem dX2_append_48 : decode cX2_append 48 = .ok (.getfield 78, 3) := by decide +kernel
theorem dX2_append_51 : decode cX2_append 51 = .ok (.aload_n 0, 1) := by decide +kernel
theorem dX2_append_52 : decode cX2_append 52 = .ok (.getfield 31, 3) := by decide +kernel
theorem dX2_append_55 : decode cX2_append 55 = .ok (.getfield 83, 3) := by decide +kernel
theorem dX2_append_58 : decode cX2_append 58 = .ok (.lastore, 1) := by decide +kernel
theorem dX2_append_59 : decode cX2_append 59 = .ok (.aload_n 0, 1) := by decide +kernel
theorem dX2_append_60 : decode cX2_append 60 = .ok (.getfield 22, 3) := by decide +kernel
theorem dX2_append_63 : decode cX2_append 63 = .ok (.aload_n 0, 1) := by decide +kernel
theorem dX2_append_64 : decode cX2_append 64 = .ok (.getfield 78, 3) := by decide +kernel
theorem dX2_append_67 : decode cX2_append 67 = .ok (.aload_n 0, 1) := by decide +kernel
theorem dX2_append_68 : decode cX2_append 68 = .ok (.getfield 35, 3) := by decide +kernel
theorem dX2_append_71 : decode cX2_append 71 = .ok (.getfield 79, 3) := by decide +kernel
theorem dX2_append_74 : decode cX2_append 74 = .ok (.lastore, 1) := by decide +kernel
theorem dX2_append_75 : decode cX2_append 75 = .ok (.aload_n 0, 1) := by decide +kernel
theorem dX2_append_76 : decode cX2_append 76 = .ok (.getfield 25, 3) := by decide +kernel
theorem dX2_append_79 : decode cX2_append 79 = .ok (.aload_n 0, 1) := by decide +kernel
theorem dX2_append_80 : decode cX2_append 80 = .ok (.getfield 78, 3) := by decide +kernel
theorem dX2_append_83 : decode cX2_append 83 = .ok (.aload_n 0, 1) := by decide +kernel
theorem dX2_append_84 : decode cX2_append 84 = .ok (.getfield 35, 3) := by decide +kernel
theorem dX2_append_87 : decode cX2_append 87 = .ok (.getfield 83, 3) := by decide +kernel
theorem dX2_append_90 : decode cX2_append 90 = .ok (.lastore, 1) := by decide +kernel
theorem dX2_append_91 : decode cX2_append 91 = .ok (.aload_n 0, 1) := by decide +kernel
theorem dX2_append_92 : decode cX2_append 92 = .ok (.dup, 1) := by decide +kernel
theorem dX2_append_93 : decode cX2_append 93 = .ok (.getfield 78, 3) := by decide +kernel
theorem dX2_append_96 : decode cX2_append 96 = .ok (.iconst 1, 1) := by decide +kernel
theorem dX2_append_97 : decode cX2_append 97 = .ok (.iadd, 1) := by decide +kernel
theorem dX2_append_98 : decode cX2_append 98 = .ok (.putfield 78, 3) := by decide +kernel
theorem dX2_append_101 : decode cX2_append 101 = .ok (.return_, 1) := by decide +kernel
theorem dX2_tell_0 : decode cX2_tell 0 = .ok (.iload_n 1, 1) := by decide +kernel
theorem dX2_tell_1 : decode cX2_tell 1 = .ok (.ifCond .lt 17, 3) := by decide +kernel
theorem dX2_tell_4 : decode cX2_tell 4 = .ok (.iload_n 1, 1) := by decide +kernel
theorem dX2_tell_5 : decode cX2_tell 5 = .ok (.aload_n 0, 1) := by decide +kernel
theorem dX2_tell_6 : decode cX2_tell 6 = .ok (.getfield 78, 3) := by decide +kernel
theorem dX2_tell_9 : decode cX2_tell 9 = .ok (.if_icmp .ge 9, 3) := by decide +kernel
theorem dX2_tell_12 : decode cX2_tell 12 = .ok (.iload_n 1, 1) := by decide +kernel
theorem dX2_tell_13 : decode cX2_tell 13 = .ok (.bipush 24, 2) := by decide +kernel
theorem dX2_tell_15 : decode cX2_tell 15 = .ok (.if_icmp .lt 7, 3) := by decide +kernel
theorem dX2_tell_18 : decode cX2_tell 18 = .ok (.ldc2_w 86, 3) := by decide +kernel
theorem dX2_tell_21 : decode cX2_tell 21 = .ok (.lreturn, 1) := by decide +kernel
theorem dX2_tell_22 : decode cX2_tell 22 = .ok (.iload_n 2, 1) := by decide +kernel
theorem dX2_tell_23 : decode cX2_tell 23 = .ok (.tableswitch 69 0 4 #[33, 41, 48, 55, 62], 33) := by decide +kernel
theorem dX2_tell_56 : decode cX2_tell 56 = .ok (.aload_n 0, 1) := by decide +kernel
theorem dX2_tell_57 : decode cX2_tell 57 = .ok (.getfield 9, 3) := by decide +kernel
theorem dX2_tell_60 : decode cX2_tell 60 = .ok (.iload_n 1, 1) := by decide +kernel
theorem dX2_tell_61 : decode cX2_tell 61 = .ok (.iaload, 1) := by decide +kernel
theorem dX2_tell_62 : decode cX2_tell 62 = .ok (.i2l, 1) := by decide +kernel
theorem dX2_tell_63 : decode cX2_tell 63 = .ok (.lreturn, 1) := by decide +kernel
theorem dX2_tell_64 : decode cX2_tell 64 = .ok (.aload_n 0, 1) := by decide +kernel
theorem dX2_tell_65 : decode cX2_tell 65 = .ok (.getfield 15, 3) := by decide +kernel
theorem dX2_tell_68 : decode cX2_tell 68 = .ok (.iload_n 1, 1) := by decide +kernel
theorem dX2_tell_69 : decode cX2_tell 69 = .ok (.laload, 1) := by decide +kernel
theorem dX2_tell_70 : decode cX2_tell 70 = .ok (.lreturn, 1) := by decide +kernel
theorem dX2_tell_71 : decode cX2_tell 71 = .ok (.aload_n 0, 1) := by decide +kernel
theorem dX2_tell_72 : decode cX2_tell 72 = .ok (.getfield 19, 3) := by decide +kernel
theorem dX2_tell_75 : decode cX2_tell 75 = .ok (.iload_n 1, 1) := by decide +kernel
theorem dX2_tell_76 : decode cX2_tell 76 = .ok (.laload, 1) := by decide +kernel
theorem dX2_tell_77 : decode cX2_tell 77 = .ok (.lreturn, 1) := by decide +kernel
theorem dX2_tell_78 : decode cX2_tell 78 = .ok (.aload_n 0, 1) := by decide +kernel
theorem dX2_tell_79 : decode cX2_tell 79 = .ok (.getfield 22, 3) := by decide +kernel
theorem dX2_tell_82 : decode cX2_tell 82 = .ok (.iload_n 1, 1) := by decide +kernel
theorem dX2_tell_83 : decode cX2_tell 83 = .ok (.laload, 1) := by decide +kernel
theorem dX2_tell_84 : decode cX2_tell 84 = .ok (.lreturn, 1) := by decide +kernel
theorem dX2_tell_85 : decode cX2_tell 85 = .ok (.aload_n 0, 1) := by decide +kernel
theorem dX2_tell_86 : decode cX2_tell 86 = .ok (.getfield 25, 3) := by decide +kernel
theorem dX2_tell_89 : decode cX2_tell 89 = .ok (.iload_n 1, 1) := by decide +kernel
theorem dX2_tell_90 : decode cX2_tell 90 = .ok (.laload, 1) := by decide +kernel
theorem dX2_tell_91 : decode cX2_tell 91 = .ok (.lreturn, 1) := by decide +kernel
theorem dX2_tell_92 : decode cX2_tell 92 = .ok (.ldc2_w 88, 3) := by decide +kernel
theorem dX2_tell_95 : decode cX2_tell 95 = .ok (.lreturn, 1) := by decide +kernel
theorem dX8_init_0 : decode cX8_init 0 = .ok (.aload_n 0, 1) := by decide +kernel
theorem dX8_init_1 : decode cX8_init 1 = .ok (.invokespecial 3, 3) := by decide +kernel
theorem dX8_init_4 : decode cX8_init 4 = .ok (.aload_n 0, 1) := by decide +kernel
theorem dX8_init_5 : decode cX8_init 5 = .ok (.bipush 25, 2) := by decide +kernel
theorem dX8_init_7 : decode cX8_init 7 = .ok (.newarray .long, 2) := by decide +kernel
theorem dX8_init_9 : decode cX8_init 9 = .ok (.putfield 9, 3) := by decide +kernel
theorem dX8_init_12 : decode cX8_init 12 = .ok (.aload_n 0, 1) := by decide +kernel
theorem dX8_init_13 : decode cX8_init 13 = .ok (.bipush 25, 2) := by decide +kernel
theorem dX8_init_15 : decode cX8_init 15 = .ok (.newarray .long, 2) := by decide +kernel
theorem dX8_init_17 : decode cX8_init 17 = .ok (.putfield 15, 3) := by decide +kernel
theorem dX8_init_20 : decode cX8_init 20 = .ok (.aload_n 0, 1) := by decide +kernel
theorem dX8_init_21 : decode cX8_init 21 = .ok (.new 18, 3) := by decide +kernel
theorem dX8_init_24 : decode cX8_init 24 = .ok (.dup, 1) := by decide +kernel
theorem dX8_init_25 : decode cX8_init 25 = .ok (.invokespecial 20, 3) := by decide +kernel
theorem dX8_init_28 : decode cX8_init 28 = .ok (.putfield 21, 3) := by decide +kernel
theorem dX8_init_31 : decode cX8_init 31 = .ok (.aload_n 0, 1) := by decide +kernel
theorem dX8_init_32 : decode cX8_init 32 = .ok (.new 18, 3) := by decide +kernel
theorem dX8_init_35 : decode cX8_init 35 = .ok (.dup, 1) := by decide +kernel
theorem dX8_init_36 : decode cX8_init 36 = .ok (.invokespecial 20, 3) := by decide +kernel
theorem dX8_init_39 : decode cX8_init 39 = .ok (.putfield 25, 3) := by decide +kernel
theorem dX8_init_42 : decode cX8_init 42 = .ok (.return_, 1) := by decide +kernel
theorem dX8_fill_0 : decode cX8_fill 0 = .ok (.aload_n 0, 1) := by decide +kernel
theorem dX8_fill_1 : decode cX8_fill 1 = .ok (.iconst 0, 1) := by decide +kernel
theorem dX8_fill_2 : decode cX8_fill 2 = .ok (.aload_n 1, 1) := by decide +kernel
theorem dX8_fill_3 : decode cX8_fill 3 = .ok (.getfield 28, 3) := by decide +kernel
theorem dX8_fill_6 : decode cX8_fill 6 = .ok (.getfield 34, 3) := by decide +kernel
theorem dX8_fill_9 : decode cX8_fill 9 = .ok (.bipush 24, 2) := by decide +kernel
theorem dX8_fill_11 : decode cX8_fill 11 = .ok (.invokestatic 40, 3) := by decide +kernel
theorem dX8_fill_14 : decode cX8_fill 14 = .ok (.invokestatic 46, 3) := by decide +kernel
theorem dX8_fill_17 : decode cX8_fill 17 = .ok (.putfield 49, 3) := by decide +kernel
theorem dX8_fill_20 : decode cX8_fill 20 = .ok (.aload_n 0, 1) := by decide +kernel
theorem dX8_fill_21 : decode cX8_fill 21 = .ok (.getfield 21, 3) := by decide +kernel
theorem dX8_fill_24 : decode cX8_fill 24 = .ok (.lconst 0, 1) := by decide +kernel
theorem dX8_fill_25 : decode cX8_fill 25 = .ok (.lconst 1, 1) := by decide +kernel
theorem dX8_fill_26 : decode cX8_fill 26 = .ok (.invokevirtual 50, 3) := by decide +kernel
theorem dX8_fill_29 : decode cX8_fill 29 = .ok (.iconst 0, 1) := by decide +kernel
theorem dX8_fill_30 : decode cX8_fill 30 = .ok (.istore_n 2, 1) := by decide +kernel
theorem dX8_fill_31 : decode cX8_fill 31 = .ok (.iload_n 2, 1) := by decide +kernel
theorem dX8_fill_32 : decode cX8_fill 32 = .ok (.aload_n 0, 1) := by decide +kernel
theorem dX8_fill_33 : decode cX8_fill 33 = .ok (.getfield 49, 3) := by decide +kernel
theorem dX8_fill_36 : decode cX8_fill 36 = .ok (.if_icmp .gt 86, 3) := by decide +kernel
theorem dX8_fill_39 : decode cX8_fill 39 = .ok (.aload_n 0, 1) := by decide +kernel
theorem dX8_fill_40 : decode cX8_fill 40 = .ok (.getfield 9, 3) := by decide +kernel
theorem dX8_fill_43 : decode cX8_fill 43 = .ok (.iload_n 2, 1) := by decide +kernel
theorem dX8_fill_44 : decode cX8_fill 44 = .ok (.aload_n 0, 1) := by decide +kernel
theorem dX8_fill_45 : decode cX8_fill 45 = .ok (.getfield 21, 3) := by decide +kernel
theorem dX8_fill_48 : decode cX8_fill 48 = .ok (.getfield 54, 3) := by decide +kernel
theorem dX8_fill_51 : decode cX8_fill 51 = .ok (.lastore, 1) := by decide +kernel
theorem dX8_fill_52 : decode cX8_fill 52 = .ok (.aload_n 0, 1) := by decide +kernel
theorem dX8_fill_53 : decode cX8_fill 53 = .ok (.getfield 15, 3) := by decide +kernel
theorem dX8_fill_56 : decode cX8_fill 56 = .ok (.iload_n 2, 1) := by decide +kernel
theorem dX8_fill_57 : decode cX8_fill 57 = .ok (.aload_n 0, 1) := by decide +kernel
theorem dX8_fill_58 : decode cX8_fill 58 = .ok (.getfield 21, 3) := by decide +kernel
theorem dX8_fill_61 : decode cX8_fill 61 = .ok (.getfield 58, 3) := by decide +kernel
theorem dX8_fill_64 : decode cX8_fill 64 = .ok (.lastore, 1) := by decide +kernel
theorem dX8_fill_65 : decode cX8_fill 65 = .ok (.iload_n 2, 1) := by decide +kernel
theorem dX8_fill_66 : decode cX8_fill 66 = .ok (.aload_n 0, 1) := by decide +kernel
theorem dX8_fill_67 : decode cX8_fill 67 = .ok (.getfield 49, 3) := by decide +kernel
theorem dX8_fill_70 : decode cX8_fill 70 = .ok (.if_icmp .ge 46, 3) := by decide +kernel
theorem dX8_fill_73 : decode cX8_fill 73 = .ok (.aload_n 0, 1) := by decide +kernel
theorem dX8_fill_74 : decode cX8_fill 74 = .ok (.getfield 25, 3) := by decide +kernel
theorem dX8_fill_77 : decode cX8_fill 77 = .ok (.aload_n 1, 1) := by decide +kernel
theorem dX8_fill_78 : decode cX8_fill 78 = .ok (.iload_n 2, 1) := by decide +kernel
theorem dX8_fill_79 : decode cX8_fill 79 = .ok (.invokevirtual 61, 3) := by decide +kernel
theorem dX8_fill_82 : decode cX8_fill 82 = .ok (.i2l, 1) := by decide +kernel
theorem dX8_fill_83 : decode cX8_fill 83 = .ok (.aload_n 1, 1) := by decide +kernel
theorem dX8_fill_84 : decode cX8_fill 84 = .ok (.getfield 28, 3) := by decide +kernel
theorem dX8_fill_87 : decode cX8_fill 87 = .ok (.iload_n 2, 1) := by decide +kernel
theorem dX8_fill_88 : decode cX8_fill 88 = .ok (.invokevirtual 65, 3) := by decide +kernel
theorem dX8_fill_91 : decode cX8_fill 91 = .ok (.i2l, 1) := by decide +kernel
theorem dX8_fill_92 : decode cX8_fill 92 = .ok (.lmul, 1) := by decide +kernel
theorem dX8_fill_93 : decode cX8_fill 93 = .ok (.aload_n 1, 1) := by decide +kernel
theorem dX8_fill_94 : decode cX8_fill 94 = .ok (.getfield 28, 3) := by decide +kernel
theorem dX8_fill_97 : decode cX8_fill 97 = .ok (.iload_n 2, 1) := by decide +kernel
theorem dX8_fill_98 : decode cX8_fill 98 = .ok (.invokevirtual 68, 3) := by decide +kernel
theorem dX8_fill_101 : decode cX8_fill 101 = .ok (.i2l, 1) := by decide +kernel
theorem dX8_fill_102 : decode cX8_fill 102 = .ok (.invokevirtual 50, 3) := by decide +kernel
theorem dX8_fill_105 : decode cX8_fill 105 = .ok (.aload_n 0, 1) := by decide +kernel
theorem dX8_fill_106 : decode cX8_fill 106 = .ok (.getfield 21, 3) := by decide +kernel
theorem dX8_fill_109 : decode cX8_fill 109 = .ok (.aload_n 0, 1) := by decide +kernel
theorem dX8_fill_110 : decode cX8_fill 110 = .ok (.getfield 25, 3) := by decide +kernel
theorem dX8_fill_113 : decode cX8_fill 113 = .ok (.invokevirtual 71, 3) := by decide +kernel
theorem dX8_fill_116 : decode cX8_fill 116 = .ok (.iinc 2 1, 3) := by decide +kernel
theorem dX8_fill_119 : decode cX8_fill 119 = .ok (.goto (-88), 3) := by decide +kernel
theorem dX8_fill_122 : decode cX8_fill 122 = .ok (.return_, 1) := by decide +kernel
theorem dX8_upAt_0 : decode cX8_upAt 0 = .ok (.iload_n 1, 1) := by decide +kernel
theorem dX8_upAt_1 : decode cX8_upAt 1 = .ok (.ifCond .lt 20, 3) := by decide +kernel
theorem dX8_upAt_4 : decode cX8_upAt 4 = .ok (.iload_n 1, 1) := by decide +kernel
theorem dX8_upAt_5 : decode cX8_upAt 5 = .ok (.aload_n 0, 1) := by decide +kernel
theorem dX8_upAt_6 : decode cX8_upAt 6 = .ok (.getfield 49, 3) := by decide +kernel
theorem dX8_upAt_9 : decode cX8_upAt 9 = .ok (.if_icmp .gt 12, 3) := by decide +kernel
theorem dX8_upAt_12 : decode cX8_upAt 12 = .ok (.iload_n 1, 1) := by decide +kernel
theorem dX8_upAt_13 : decode cX8_upAt 13 = .ok (.aload_n 0, 1) := by decide +kernel
theorem dX8_upAt_14 : decode cX8_upAt 14 = .ok (.getfield 9, 3) := by decide +kernel
theorem dX8_upAt_17 : decode cX8_upAt 17 = .ok (.arraylength, 1) := by decide +kernel
theorem dX8_upAt_18 : decode cX8_upAt 18 = .ok (.if_icmp .lt 9, 3) := by decide +kernel
theorem dX8_upAt_21 : decode cX8_upAt 21 = .ok (.ldc2_w 75, 3) := by decide +kernel
theorem dX8_upAt_24 : decode cX8_upAt 24 = .ok (.goto 9, 3) := by decide +kernel
theorem dX8_upAt_27 : decode cX8_upAt 27 = .ok (.aload_n 0, 1) := by decide +kernel
theorem dX8_upAt_28 : decode cX8_upAt 28 = .ok (.getfield 9, 3) := by decide +kernel
theorem dX8_upAt_31 : decode cX8_upAt 31 = .ok (.iload_n 1, 1) := by decide +kernel
theorem dX8_upAt_32 : decode cX8_upAt 32 = .ok (.laload, 1) := by decide +kernel
theorem dX8_upAt_33 : decode cX8_upAt 33 = .ok (.lreturn, 1) := by decide +kernel
theorem dX8_downAt_0 : decode cX8_downAt 0 = .ok (.iload_n 1, 1) := by decide +kernel
theorem dX8_downAt_1 : decode cX8_downAt 1 = .ok (.ifCond .lt 20, 3) := by decide +kernel
theorem dX8_downAt_4 : decode cX8_downAt 4 = .ok (.iload_n 1, 1) := by decide +kernel
theorem dX8_downAt_5 : decode cX8_downAt 5 = .ok (.aload_n 0, 1) := by decide +kernel
theorem dX8_downAt_6 : decode cX8_downAt 6 = .ok (.getfield 49, 3) := by decide +kernel
theorem dX8_downAt_9 : decode cX8_downAt 9 = .ok (.if_icmp .gt 12, 3) := by decide +kernel
theorem dX8_downAt_12 : decode cX8_downAt 12 = .ok (.iload_n 1, 1) := by decide +kernel
theorem dX8_downAt_13 : decode cX8_downAt 13 = .ok (.aload_n 0, 1) := by decide +kernel
theorem dX8_downAt_14 : decode cX8_downAt 14 = .ok (.getfield 15, 3) := by decide +kernel
theorem dX8_downAt_17 : decode cX8_downAt 17 = .ok (.arraylength, 1) := by decide +kernel
theorem dX8_downAt_18 : decode cX8_downAt 18 = .ok (.if_icmp .lt 9, 3) := by decide +kernel
theorem dX8_downAt_21 : decode cX8_downAt 21 = .ok (.ldc2_w 75, 3) := by decide +kernel
theorem dX8_downAt_24 : decode cX8_downAt 24 = .ok (.goto 9, 3) := by decide +kernel
theorem dX8_downAt_27 : decode cX8_downAt 27 = .ok (.aload_n 0, 1) := by decide +kernel
theorem dX8_downAt_28 : decode cX8_downAt 28 = .ok (.getfield 15, 3) := by decide +kernel
theorem dX8_downAt_31 : decode cX8_downAt 31 = .ok (.iload_n 1, 1) := by decide +kernel
theorem dX8_downAt_32 : decode cX8_downAt 32 = .ok (.laload, 1) := by decide +kernel
theorem dX8_downAt_33 : decode cX8_downAt 33 = .ok (.lreturn, 1) := by decide +kernel
theorem dX8_compareAt_0 : decode cX8_compareAt 0 = .ok (.aload_n 0, 1) := by decide +kernel
theorem dX8_compareAt_1 : decode cX8_compareAt 1 = .ok (.iload_n 1, 1) := by decide +kernel
theorem dX8_compareAt_2 : decode cX8_compareAt 2 = .ok (.invokevirtual 77, 3) := by decide +kernel
theorem dX8_compareAt_5 : decode cX8_compareAt 5 = .ok (.aload_n 0, 1) := by decide +kernel
theorem dX8_compareAt_6 : decode cX8_compareAt 6 = .ok (.iload_n 1, 1) := by decide +kernel
theorem dX8_compareAt_7 : decode cX8_compareAt 7 = .ok (.invokevirtual 80, 3) := by decide +kernel
theorem dX8_compareAt_10 : decode cX8_compareAt 10 = .ok (.lload_n 2, 1) := by decide +kernel
theorem dX8_compareAt_11 : decode cX8_compareAt 11 = .ok (.lload 4, 2) := by decide +kernel
theorem dX8_compareAt_13 : decode cX8_compareAt 13 = .ok (.invokestatic 82, 3) := by decide +kernel
theorem dX8_compareAt_16 : decode cX8_compareAt 16 = .ok (.ireturn, 1) := by decide +kernel
theorem dX8_isEndOf_0 : decode cX8_isEndOf 0 = .ok (.aload_n 0, 1) := by decide +kernel
theorem dX8_isEndOf_1 : decode cX8_isEndOf 1 = .ok (.aload_n 0, 1) := by decide +kernel
theorem dX8_isEndOf_2 : decode cX8_isEndOf 2 = .ok (.getfield 49, 3) := by decide +kernel
theorem dX8_isEndOf_5 : decode cX8_isEndOf 5 = .ok (.invokevirtual 77, 3) := by decide +kernel
theorem dX8_isEndOf_8 : decode cX8_isEndOf 8 = .ok (.aload_n 1, 1) := by decide +kernel
theorem dX8_isEndOf_9 : decode cX8_isEndOf 9 = .ok (.aload_n 1, 1) := by decide +kernel
theorem dX8_isEndOf_10 : decode cX8_isEndOf 10 = .ok (.getfield 49, 3) := by decide +kernel
theorem dX8_isEndOf_13 : decode cX8_isEndOf 13 = .ok (.invokevirtual 77, 3) := by decide +kernel
theorem dX8_isEndOf_16 : decode cX8_isEndOf 16 = .ok (.lcmp, 1) := by decide +kernel
theorem dX8_isEndOf_17 : decode cX8_isEndOf 17 = .ok (.ifCond .ne 27, 3) := by decide +kernel
theorem dX8_isEndOf_20 : decode cX8_isEndOf 20 = .ok (.aload_n 0, 1) := by decide +kernel
theorem dX8_isEndOf_21 : decode cX8_isEndOf 21 = .ok (.aload_n 0, 1) := by decide +kernel
theorem dX8_isEndOf_22 : decode cX8_isEndOf 22 = .ok (.getfield 49, 3) := by decide +kernel
theorem dX8_isEndOf_25 : decode cX8_isEndOf 25 = .ok (.invokevirtual 80, 3) := by decide +kernel
theorem dX8_isEndOf_28 : decode cX8_isEndOf 28 = .ok (.aload_n 1, 1) := by decide +kernel
theorem dX8_isEndOf_29 : decode cX8_isEndOf 29 = .ok (.aload_n 1, 1) := by decide +kernel
theorem dX8_isEndOf_30 : decode cX8_isEndOf 30 = .ok (.getfield 49, 3) := by decide +kernel
theorem dX8_isEndOf_33 : decode cX8_isEndOf 33 = .ok (.invokevirtual 80, 3) := by decide +kernel
theorem dX8_isEndOf_36 : decode cX8_isEndOf 36 = .ok (.lcmp, 1) := by decide +kernel
theorem dX8_isEndOf_37 : decode cX8_isEndOf 37 = .ok (.ifCond .ne 7, 3) := by decide +kernel
theorem dX8_isEndOf_40 : decode cX8_isEndOf 40 = .ok (.iconst 1, 1) := by decide +kernel
theorem dX8_isEndOf_41 : decode cX8_isEndOf 41 = .ok (.goto 4, 3) := by decide +kernel
theorem dX8_isEndOf_44 : decode cX8_isEndOf 44 = .ok (.iconst 0, 1) := by decide +kernel
theorem dX8_isEndOf_45 : decode cX8_isEndOf 45 = .ok (.ireturn, 1) := by decide +kernel
theorem dX10_init_0 : decode cX10_init 0 = .ok (.aload_n 0, 1) := by decide +kernel
theorem dX10_init_1 : decode cX10_init 1 = .ok (.invokespecial 5, 3) := by decide +kernel
theorem dX10_init_4 : decode cX10_init 4 = .ok (.aload_n 0, 1) := by decide +kernel
theorem dX10_init_5 : decode cX10_init 5 = .ok (.new 11, 3) := by decide +kernel
theorem dX10_init_8 : decode cX10_init 8 = .ok (.dup, 1) := by decide +kernel
theorem dX10_init_9 : decode cX10_init 9 = .ok (.invokespecial 13, 3) := by decide +kernel
theorem dX10_init_12 : decode cX10_init 12 = .ok (.putfield 14, 3) := by decide +kernel
theorem dX10_init_15 : decode cX10_init 15 = .ok (.aload_n 0, 1) := by decide +kernel
theorem dX10_init_16 : decode cX10_init 16 = .ok (.iconst 3, 1) := by decide +kernel
theorem dX10_init_17 : decode cX10_init 17 = .ok (.newarray .int, 2) := by decide +kernel
theorem dX10_init_19 : decode cX10_init 19 = .ok (.putfield 18, 3) := by decide +kernel
theorem dX10_init_22 : decode cX10_init 22 = .ok (.aload_n 0, 1) := by decide +kernel
theorem dX10_init_23 : decode cX10_init 23 = .ok (.iconst 3, 1) := by decide +kernel
theorem dX10_init_24 : decode cX10_init 24 = .ok (.newarray .int, 2) := by decide +kernel
theorem dX10_init_26 : decode cX10_init 26 = .ok (.putfield 22, 3) := by decide +kernel
theorem dX10_init_29 : decode cX10_init 29 = .ok (.aload_n 0, 1) := by decide +kernel
theorem dX10_init_30 : decode cX10_init 30 = .ok (.bipush 42, 2) := by decide +kernel
theorem dX10_init_32 : decode cX10_init 32 = .ok (.newarray .int, 2) := by decide +kernel
theorem dX10_init_34 : decode cX10_init 34 = .ok (.putfield 25, 3) := by decide +kernel
theorem dX10_init_37 : decode cX10_init 37 = .ok (.aload_n 0, 1) := by decide +kernel
theorem dX10_init_38 : decode cX10_init 38 = .ok (.iconst 3, 1) := by decide +kernel
theorem dX10_init_39 : decode cX10_init 39 = .ok (.newarray .int, 2) := by decide +kernel
theorem dX10_init_41 : decode cX10_init 41 = .ok (.putfield 28, 3) := by decide +kernel
theorem dX10_init_44 : decode cX10_init 44 = .ok (.aload_n 0, 1) := by decide +kernel
theorem dX10_init_45 : decode cX10_init 45 = .ok (.bipush 6, 2) := by decide +kernel
theorem dX10_init_47 : decode cX10_init 47 = .ok (.newarray .int, 2) := by decide +kernel
theorem dX10_init_49 : decode cX10_init 49 = .ok (.putfield 31, 3) := by decide +kernel
theorem dX10_init_52 : decode cX10_init 52 = .ok (.return_, 1) := by decide +kernel
theorem dX10_begin_0 : decode cX10_begin 0 = .ok (.aload_n 0, 1) := by decide +kernel
theorem dX10_begin_1 : decode cX10_begin 1 = .ok (.getfield 14, 3) := by decide +kernel
theorem dX10_begin_4 : decode cX10_begin 4 = .ok (.iload_n 1, 1) := by decide +kernel
theorem dX10_begin_5 : decode cX10_begin 5 = .ok (.invokevirtual 34, 3) := by decide +kernel
theorem dX10_begin_8 : decode cX10_begin 8 = .ok (.aload_n 0, 1) := by decide +kernel
theorem dX10_begin_9 : decode cX10_begin 9 = .ok (.iconst 0, 1) := by decide +kernel
theorem dX10_begin_10 : decode cX10_begin 10 = .ok (.iload_n 2, 1) := by decide +kernel
theorem dX10_begin_11 : decode cX10_begin 11 = .ok (.iconst 3, 1) := by decide +kernel
theorem dX10_begin_12 : decode cX10_begin 12 = .ok (.invokestatic 38, 3) := by decide +kernel
theorem dX10_begin_15 : decode cX10_begin 15 = .ok (.invokestatic 44, 3) := by decide +kernel
theorem dX10_begin_18 : decode cX10_begin 18 = .ok (.putfield 47, 3) := by decide +kernel
theorem dX10_begin_21 : decode cX10_begin 21 = .ok (.aload_n 0, 1) := by decide +kernel
theorem dX10_begin_22 : decode cX10_begin 22 = .ok (.getfield 18, 3) := by decide +kernel
theorem dX10_begin_25 : decode cX10_begin 25 = .ok (.iconst 0, 1) := by decide +kernel
theorem dX10_begin_26 : decode cX10_begin 26 = .ok (.iload_n 3, 1) := by decide +kernel
theorem dX10_begin_27 : decode cX10_begin 27 = .ok (.iastore, 1) := by decide +kernel
theorem dX10_begin_28 : decode cX10_begin 28 = .ok (.aload_n 0, 1) := by decide +kernel
theorem dX10_begin_29 : decode cX10_begin 29 = .ok (.getfield 18, 3) := by decide +kernel
theorem dX10_begin_32 : decode cX10_begin 32 = .ok (.iconst 1, 1) := by decide +kernel
theorem dX10_begin_33 : decode cX10_begin 33 = .ok (.iload 4, 2) := by decide +kernel
theorem dX10_begin_35 : decode cX10_begin 35 = .ok (.iastore, 1) := by decide +kernel
theorem dX10_begin_36 : decode cX10_begin 36 = .ok (.aload_n 0, 1) := by decide +kernel
theorem dX10_begin_37 : decode cX10_begin 37 = .ok (.getfield 18, 3) := by decide +kernel
theorem dX10_begin_40 : decode cX10_begin 40 = .ok (.iconst 2, 1) := by decide +kernel
theorem dX10_begin_41 : decode cX10_begin 41 = .ok (.iload 5, 2) := by decide +kernel
theorem dX10_begin_43 : decode cX10_begin 43 = .ok (.iastore, 1) := by decide +kernel
theorem dX10_begin_44 : decode cX10_begin 44 = .ok (.aload_n 0, 1) := by decide +kernel
theorem dX10_begin_45 : decode cX10_begin 45 = .ok (.iconst 1, 1) := by decide +kernel
theorem dX10_begin_46 : decode cX10_begin 46 = .ok (.putfield 51, 3) := by decide +kernel
theorem dX10_begin_49 : decode cX10_begin 49 = .ok (.aload_n 0, 1) := by decide +kernel
theorem dX10_begin_50 : decode cX10_begin 50 = .ok (.iconst 0, 1) := by decide +kernel
theorem dX10_begin_51 : decode cX10_begin 51 = .ok (.putfield 54, 3) := by decide +kernel
theorem dX10_begin_54 : decode cX10_begin 54 = .ok (.iconst 0, 1) := by decide +kernel
theorem dX10_begin_55 : decode cX10_begin 55 = .ok (.istore 6, 2) := by decide +kernel
theorem dX10_begin_57 : decode cX10_begin 57 = .ok (.iload 6, 2) := by decide +kernel
theorem dX10_begin_59 : decode cX10_begin 59 = .ok (.aload_n 0, 1) := by decide +kernel
theorem dX10_begin_60 : decode cX10_begin 60 = .ok (.getfield 47, 3) := by decide +kernel
theorem dX10_begin_63 : decode cX10_begin 63 = .ok (.if_icmp .ge 111, 3) := by decide +kernel
theorem dX10_begin_66 : decode cX10_begin 66 = .ok (.aload_n 0, 1) := by decide +kernel
theorem dX10_begin_67 : decode cX10_begin 67 = .ok (.getfield 28, 3) := by decide +kernel
theorem dX10_begin_70 : decode cX10_begin 70 = .ok (.iload 6, 2) := by decide +kernel
theorem dX10_begin_72 : decode cX10_begin 72 = .ok (.iconst 0, 1) := by decide +kernel
theorem dX10_begin_73 : decode cX10_begin 73 = .ok (.iastore, 1) := by decide +kernel
theorem dX10_begin_74 : decode cX10_begin 74 = .ok (.iconst 0, 1) := by decide +kernel
theorem dX10_begin_75 : decode cX10_begin 75 = .ok (.istore 7, 2) := by decide +kernel
theorem dX10_begin_77 : decode cX10_begin 77 = .ok (.iload 7, 2) := by decide +kernel
theorem dX10_begin_79 : decode cX10_begin 79 = .ok (.bipush 14, 2) := by decide +kernel
theorem dX10_begin_81 : decode cX10_begin 81 = .ok (.if_icmp .ge 71, 3) := by decide +kernel
theorem dX10_begin_84 : decode cX10_begin 84 = .ok (.aload_n 0, 1) := by decide +kernel
theorem dX10_begin_85 : decode cX10_begin 85 = .ok (.iload 7, 2) := by decide +kernel
theorem dX10_begin_87 : decode cX10_begin 87 = .ok (.iconst 1, 1) := by decide +kernel
theorem dX10_begin_88 : decode cX10_begin 88 = .ok (.ishr, 1) := by decide +kernel
theorem dX10_begin_89 : decode cX10_begin 89 = .ok (.iload 7, 2) := by decide +kernel
theorem dX10_begin_91 : decode cX10_begin 91 = .ok (.iconst 1, 1) := by decide +kernel
theorem dX10_begin_92 : decode cX10_begin 92 = .ok (.iand, 1) := by decide +kernel
theorem dX10_begin_93 : decode cX10_begin 93 = .ok (.iconst 1, 1) := by decide +kernel
theorem dX10_begin_94 : decode cX10_begin 94 = .ok (.if_icmp .ne 7, 3) := by decide +kernel
theorem dX10_begin_97 : decode cX10_begin 97 = .ok (.iconst 1, 1) := by decide +kernel
theorem dX10_begin_98 : decode cX10_begin 98 = .ok (.goto 4, 3) := by decide +kernel
theorem dX10_begin_101 : decode cX10_begin 101 = .ok (.iconst 0, 1) := by decide +kernel
theorem dX10_begin_102 : decode cX10_begin 102 = .ok (.aload_n 0, 1) := by decide +kernel
theorem dX10_begin_103 : decode cX10_begin 103 = .ok (.getfield 18, 3) := by decide +kernel
theorem dX10_begin_106 : decode cX10_begin 106 = .ok (.iload 6, 2) := by decide +kernel
theorem dX10_begin_108 : decode cX10_begin 108 = .ok (.iaload, 1) := by decide +kernel
theorem dX10_begin_109 : decode cX10_begin 109 = .ok (.invokevirtual 57, 3) := by decide +kernel
theorem dX10_begin_112 : decode cX10_begin 112 = .ok (.ifCond .eq 34, 3) := by decide +kernel
theorem dX10_begin_115 : decode cX10_begin 115 = .ok (.aload_n 0, 1) := by decide +kernel
theorem dX10_begin_116 : decode cX10_begin 116 = .ok (.getfield 25, 3) := by decide +kernel
theorem dX10_begin_119 : decode cX10_begin 119 = .ok (.iload 6, 2) := by decide +kernel
theorem dX10_begin_121 : decode cX10_begin 121 = .ok (.bipush 14, 2) := by decide +kernel
theorem dX10_begin_123 : decode cX10_begin 123 = .ok (.imul, 1) := by decide +kernel
theorem dX10_begin_124 : decode cX10_begin 124 = .ok (.aload_n 0, 1) := by decide +kernel
theorem dX10_begin_125 : decode cX10_begin 125 = .ok (.getfield 28, 3) := by decide +kernel
theorem dX10_begin_128 : decode cX10_begin 128 = .ok (.iload 6, 2) := by decide +kernel
theorem dX10_begin_130 : decode cX10_begin 130 = .ok (.iaload, 1) := by decide +kernel
theorem dX10_begin_131 : decode cX10_begin 131 = .ok (.iadd, 1) := by decide +kernel
theorem dX10_begin_132 : decode cX10_begin 132 = .ok (.iload 7, 2) := by decide +kernel
theorem dX10_begin_134 : decode cX10_begin 134 = .ok (.iastore, 1) := by decide +kernel
theorem dX10_begin_135 : decode cX10_begin 135 = .ok (.aload_n 0, 1) := by decide +kernel
theorem dX10_begin_136 : decode cX10_begin 136 = .ok (.getfield 28, 3) := by decide +kernel
theorem dX10_begin_139 : decode cX10_begin 139 = .ok (.iload 6, 2) := by decide +kernel
theorem dX10_begin_141 : decode cX10_begin 141 = .ok (.dup2, 1) := by decide +kernel
theorem dX10_begin_142 : decode cX10_begin 142 = .ok (.iaload, 1) := by decide +kernel
theorem dX10_begin_143 : decode cX10_begin 143 = .ok (.iconst 1, 1) := by decide +kernel
theorem dX10_begin_144 : decode cX10_begin 144 = .ok (.iadd, 1) := by decide +kernel
theorem dX10_begin_145 : decode cX10_begin 145 = .ok (.iastore, 1) := by decide +kernel
theorem dX10_begin_146 : decode cX10_begin 146 = .ok (.iinc 7 1, 3) := by decide +kernel
theorem dX10_begin_149 : decode cX10_begin 149 = .ok (.goto (-72), 3) := by decide +kernel
theorem dX10_begin_152 : decode cX10_begin 152 = .ok (.aload_n 0, 1) := by decide +kernel
theorem dX10_begin_153 : decode cX10_begin 153 = .ok (.dup, 1) := by decide +kernel
theorem dX10_begin_154 : decode cX10_begin 154 = .ok (.getfield 51, 3) := by decide +kernel
theorem dX10_begin_157 : decode cX10_begin 157 = .ok (.aload_n 0, 1) := by decide +kernel
theorem dX10_begin_158 : decode cX10_begin 158 = .ok (.getfield 28, 3) := by decide +kernel
theorem dX10_begin_161 : decode cX10_begin 161 = .ok (.iload 6, 2) := by decide +kernel
theorem dX10_begin_163 : decode cX10_begin 163 = .ok (.iaload, 1) := by decide +kernel
theorem dX10_begin_164 : decode cX10_begin 164 = .ok (.imul, 1) := by decide +kernel
theorem dX10_begin_165 : decode cX10_begin 165 = .ok (.putfield 51, 3) := by decide +kernel
theorem dX10_begin_168 : decode cX10_begin 168 = .ok (.iinc 6 1, 3) := by decide +kernel
theorem dX10_begin_171 : decode cX10_begin 171 = .ok (.goto (-114), 3) := by decide +kernel
theorem dX10_begin_174 : decode cX10_begin 174 = .ok (.return_, 1) := by decide +kernel
theorem dX10_canBe_0 : decode cX10_canBe 0 = .ok (.aload_n 0, 1) := by decide +kernel
theorem dX10_canBe_1 : decode cX10_canBe 1 = .ok (.getfield 14, 3) := by decide +kernel
theorem dX10_canBe_4 : decode cX10_canBe 4 = .ok (.iload_n 1, 1) := by decide +kernel
theorem dX10_canBe_5 : decode cX10_canBe 5 = .ok (.invokevirtual 61, 3) := by decide +kernel
theorem dX10_canBe_8 : decode cX10_canBe 8 = .ok (.istore 4, 2) := by decide +kernel
theorem dX10_canBe_10 : decode cX10_canBe 10 = .ok (.aload_n 0, 1) := by decide +kernel
theorem dX10_canBe_11 : decode cX10_canBe 11 = .ok (.getfield 14, 3) := by decide +kernel
theorem dX10_canBe_14 : decode cX10_canBe 14 = .ok (.iload_n 1, 1) := by decide +kernel
theorem dX10_canBe_15 : decode cX10_canBe 15 = .ok (.iconst 1, 1) := by decide +kernel
theorem dX10_canBe_16 : decode cX10_canBe 16 = .ok (.iadd, 1) := by decide +kernel
theorem dX10_canBe_17 : decode cX10_canBe 17 = .ok (.invokevirtual 61, 3) := by decide +kernel
theorem dX10_canBe_20 : decode cX10_canBe 20 = .ok (.istore 5, 2) := by decide +kernel
theorem dX10_canBe_22 : decode cX10_canBe 22 = .ok (.aload_n 0, 1) := by decide +kernel
theorem dX10_canBe_23 : decode cX10_canBe 23 = .ok (.getfield 14, 3) := by decide +kernel
theorem dX10_canBe_26 : decode cX10_canBe 26 = .ok (.iload_n 1, 1) := by decide +kernel
theorem dX10_canBe_27 : decode cX10_canBe 27 = .ok (.invokevirtual 65, 3) := by decide +kernel
theorem dX10_canBe_30 : decode cX10_canBe 30 = .ok (.istore 6, 2) := by decide +kernel
theorem dX10_canBe_32 : decode cX10_canBe 32 = .ok (.iload_n 3, 1) := by decide +kernel
theorem dX10_canBe_33 : decode cX10_canBe 33 = .ok (.iload 4, 2) := by decide +kernel
theorem dX10_canBe_35 : decode cX10_canBe 35 = .ok (.if_icmp .eq 54, 3) := by decide +kernel
theorem dX10_canBe_38 : decode cX10_canBe 38 = .ok (.iload 6, 2) := by decide +kernel
theorem dX10_canBe_40 : decode cX10_canBe 40 = .ok (.ifCond .eq 11, 3) := by decide +kernel
theorem dX10_canBe_43 : decode cX10_canBe 43 = .ok (.iload_n 3, 1) := by decide +kernel
theorem dX10_canBe_44 : decode cX10_canBe 44 = .ok (.iconst 2, 1) := by decide +kernel
theorem dX10_canBe_45 : decode cX10_canBe 45 = .ok (.iload 5, 2) := by decide +kernel
theorem dX10_canBe_47 : decode cX10_canBe 47 = .ok (.imul, 1) := by decide +kernel
theorem dX10_canBe_48 : decode cX10_canBe 48 = .ok (.if_icmp .eq 41, 3) := by decide +kernel
theorem dX10_canBe_51 : decode cX10_canBe 51 = .ok (.aload_n 0, 1) := by decide +kernel
theorem dX10_canBe_52 : decode cX10_canBe 52 = .ok (.getfield 14, 3) := by decide +kernel
theorem dX10_canBe_55 : decode cX10_canBe 55 = .ok (.iload_n 1, 1) := by decide +kernel
theorem dX10_canBe_56 : decode cX10_canBe 56 = .ok (.iconst 1, 1) := by decide +kernel
theorem dX10_canBe_57 : decode cX10_canBe 57 = .ok (.isub, 1) := by decide +kernel
theorem dX10_canBe_58 : decode cX10_canBe 58 = .ok (.invokevirtual 65, 3) := by decide +kernel
theorem dX10_canBe_61 : decode cX10_canBe 61 = .ok (.ifCond .eq 11, 3) := by decide +kernel
theorem dX10_canBe_64 : decode cX10_canBe 64 = .ok (.iload_n 3, 1) := by decide +kernel
theorem dX10_canBe_65 : decode cX10_canBe 65 = .ok (.iconst 2, 1) := by decide +kernel
theorem dX10_canBe_66 : decode cX10_canBe 66 = .ok (.iload 4, 2) := by decide +kernel
theorem dX10_canBe_68 : decode cX10_canBe 68 = .ok (.imul, 1) := by decide +kernel
theorem dX10_canBe_69 : decode cX10_canBe 69 = .ok (.if_icmp .eq 20, 3) := by decide +kernel
theorem dX10_canBe_72 : decode cX10_canBe 72 = .ok (.iload_n 2, 1) := by decide +kernel
theorem dX10_canBe_73 : decode cX10_canBe 73 = .ok (.ifCond .eq 20, 3) := by decide +kernel
theorem dX10_canBe_76 : decode cX10_canBe 76 = .ok (.iload 6, 2) := by decide +kernel
theorem dX10_canBe_78 : decode cX10_canBe 78 = .ok (.ifCond .ne 15, 3) := by decide +kernel
theorem dX10_canBe_81 : decode cX10_canBe 81 = .ok (.iload_n 3, 1) := by decide +kernel
theorem dX10_canBe_82 : decode cX10_canBe 82 = .ok (.iconst 3, 1) := by decide +kernel
theorem dX10_canBe_83 : decode cX10_canBe 83 = .ok (.iload 5, 2) := by decide +kernel
theorem dX10_canBe_85 : decode cX10_canBe 85 = .ok (.imul, 1) := by decide +kernel
theorem dX10_canBe_86 : decode cX10_canBe 86 = .ok (.if_icmp .ne 7, 3) := by decide +kernel
theorem dX10_canBe_89 : decode cX10_canBe 89 = .ok (.iconst 1, 1) := by decide +kernel
theorem dX10_canBe_90 : decode cX10_canBe 90 = .ok (.goto 4, 3) := by decide +kernel
theorem dX10_canBe_93 : decode cX10_canBe 93 = .ok (.iconst 0, 1) := by decide +kernel
theorem dX10_canBe_94 : decode cX10_canBe 94 = .ok (.ireturn, 1) := by decide +kernel
theorem dX10_advance_0 : decode cX10_advance 0 = .ok (.iconst 0, 1) := by decide +kernel
theorem dX10_advance_1 : decode cX10_advance 1 = .ok (.istore_n 1, 1) := by decide +kernel
theorem dX10_advance_2 : decode cX10_advance 2 = .ok (.iload_n 1, 1) := by decide +kernel
theorem dX10_advance_3 : decode cX10_advance 3 = .ok (.sipush 10976, 3) := by decide +kernel
theorem dX10_advance_6 : decode cX10_advance 6 = .ok (.if_icmp .ge 79, 3) := by decide +kernel
theorem dX10_advance_9 : decode cX10_advance 9 = .ok (.aload_n 0, 1) := by decide +kernel
theorem dX10_advance_10 : decode cX10_advance 10 = .ok (.getfield 51, 3) := by decide +kernel
theorem dX10_advance_13 : decode cX10_advance 13 = .ok (.ifCond .le 72, 3) := by decide +kernel
theorem dX10_advance_16 : decode cX10_advance 16 = .ok (.aload_n 0, 1) := by decide +kernel
theorem dX10_advance_17 : decode cX10_advance 17 = .ok (.getfield 54, 3) := by decide +kernel
theorem dX10_advance_20 : decode cX10_advance 20 = .ok (.aload_n 0, 1) := by decide +kernel
theorem dX10_advance_21 : decode cX10_advance 21 = .ok (.getfield 47, 3) := by decide +kernel
theorem dX10_advance_24 : decode cX10_advance 24 = .ok (.iconst 1, 1) := by decide +kernel
theorem dX10_advance_25 : decode cX10_advance 25 = .ok (.iadd, 1) := by decide +kernel
theorem dX10_advance_26 : decode cX10_advance 26 = .ok (.aload_n 0, 1) := by decide +kernel
theorem dX10_advance_27 : decode cX10_advance 27 = .ok (.getfield 51, 3) := by decide +kernel
theorem dX10_advance_30 : decode cX10_advance 30 = .ok (.imul, 1) := by decide +kernel
theorem dX10_advance_31 : decode cX10_advance 31 = .ok (.if_icmp .ge 54, 3) := by decide +kernel
theorem dX10_advance_34 : decode cX10_advance 34 = .ok (.aload_n 0, 1) := by decide +kernel
theorem dX10_advance_35 : decode cX10_advance 35 = .ok (.getfield 54, 3) := by decide +kernel
theorem dX10_advance_38 : decode cX10_advance 38 = .ok (.aload_n 0, 1) := by decide +kernel
theorem dX10_advance_39 : decode cX10_advance 39 = .ok (.getfield 51, 3) := by decide +kernel
theorem dX10_advance_42 : decode cX10_advance 42 = .ok (.idiv, 1) := by decide +kernel
theorem dX10_advance_43 : decode cX10_advance 43 = .ok (.istore_n 2, 1) := by decide +kernel
theorem dX10_advance_44 : decode cX10_advance 44 = .ok (.aload_n 0, 1) := by decide +kernel
theorem dX10_advance_45 : decode cX10_advance 45 = .ok (.aload_n 0, 1) := by decide +kernel
theorem dX10_advance_46 : decode cX10_advance 46 = .ok (.getfield 54, 3) := by decide +kernel
theorem dX10_advance_49 : decode cX10_advance 49 = .ok (.aload_n 0, 1) := by decide +kernel
theorem dX10_advance_50 : decode cX10_advance 50 = .ok (.getfield 51, 3) := by decide +kernel
theorem dX10_advance_53 : decode cX10_advance 53 = .ok (.irem, 1) := by decide +kernel
theorem dX10_advance_54 : decode cX10_advance 54 = .ok (.invokevirtual 69, 3) := by decide +kernel
theorem dX10_advance_57 : decode cX10_advance 57 = .ok (.istore_n 3, 1) := by decide +kernel
theorem dX10_advance_58 : decode cX10_advance 58 = .ok (.aload_n 0, 1) := by decide +kernel
theorem dX10_advance_59 : decode cX10_advance 59 = .ok (.dup, 1) := by decide +kernel
theorem dX10_advance_60 : decode cX10_advance 60 = .ok (.getfield 54, 3) := by decide +kernel
theorem dX10_advance_63 : decode cX10_advance 63 = .ok (.iconst 1, 1) := by decide +kernel
theorem dX10_advance_64 : decode cX10_advance 64 = .ok (.iadd, 1) := by decide +kernel
theorem dX10_advance_65 : decode cX10_advance 65 = .ok (.putfield 54, 3) := by decide +kernel
theorem dX10_advance_68 : decode cX10_advance 68 = .ok (.iload_n 3, 1) := by decide +kernel
theorem dX10_advance_69 : decode cX10_advance 69 = .ok (.iload_n 2, 1) := by decide +kernel
theorem dX10_advance_70 : decode cX10_advance 70 = .ok (.if_icmp .ne 9, 3) := by decide +kernel
theorem dX10_advance_73 : decode cX10_advance 73 = .ok (.aload_n 0, 1) := by decide +kernel
theorem dX10_advance_74 : decode cX10_advance 74 = .ok (.invokevirtual 72, 3) := by decide +kernel
theorem dX10_advance_77 : decode cX10_advance 77 = .ok (.iconst 1, 1) := by decide +kernel
theorem dX10_advance_78 : decode cX10_advance 78 = .ok (.ireturn, 1) := by decide +kernel
theorem dX10_advance_79 : decode cX10_advance 79 = .ok (.iinc 1 1, 3) := by decide +kernel
theorem dX10_advance_82 : decode cX10_advance 82 = .ok (.goto (-80), 3) := by decide +kernel
theorem dX10_advance_85 : decode cX10_advance 85 = .ok (.iconst 0, 1) := by decide +kernel
theorem dX10_advance_86 : decode cX10_advance 86 = .ok (.ireturn, 1) := by decide +kernel
theorem dX10_chooseRow_0 : decode cX10_chooseRow 0 = .ok (.iload_n 1, 1) := by decide +kernel
theorem dX10_chooseRow_1 : decode cX10_chooseRow 1 = .ok (.istore_n 2, 1) := by decide +kernel
theorem dX10_chooseRow_2 : decode cX10_chooseRow 2 = .ok (.iconst 0, 1) := by decide +kernel
theorem dX10_chooseRow_3 : decode cX10_chooseRow 3 = .ok (.istore_n 3, 1) := by decide +kernel
theorem dX10_chooseRow_4 : decode cX10_chooseRow 4 = .ok (.aload_n 0, 1) := by decide +kernel
theorem dX10_chooseRow_5 : decode cX10_chooseRow 5 = .ok (.getfield 47, 3) := by decide +kernel
theorem dX10_chooseRow_8 : decode cX10_chooseRow 8 = .ok (.iconst 1, 1) := by decide +kernel
theorem dX10_chooseRow_9 : decode cX10_chooseRow 9 = .ok (.isub, 1) := by decide +kernel
theorem dX10_chooseRow_10 : decode cX10_chooseRow 10 = .ok (.istore 4, 2) := by decide +kernel
theorem dX10_chooseRow_12 : decode cX10_chooseRow 12 = .ok (.iload 4, 2) := by decide +kernel
theorem dX10_chooseRow_14 : decode cX10_chooseRow 14 = .ok (.ifCond .lt 77, 3) := by decide +kernel
theorem dX10_chooseRow_17 : decode cX10_chooseRow 17 = .ok (.iload 4, 2) := by decide +kernel
theorem dX10_chooseRow_19 : decode cX10_chooseRow 19 = .ok (.iconst 3, 1) := by decide +kernel
theorem dX10_chooseRow_20 : decode cX10_chooseRow 20 = .ok (.if_icmp .ge 71, 3) := by decide +kernel
theorem dX10_chooseRow_23 : decode cX10_chooseRow 23 = .ok (.aload_n 0, 1) := by decide +kernel
theorem dX10_chooseRow_24 : decode cX10_chooseRow 24 = .ok (.getfield 28, 3) := by decide +kernel
theorem dX10_chooseRow_27 : decode cX10_chooseRow 27 = .ok (.iload 4, 2) := by decide +kernel
theorem dX10_chooseRow_29 : decode cX10_chooseRow 29 = .ok (.iaload, 1) := by decide +kernel
theorem dX10_chooseRow_30 : decode cX10_chooseRow 30 = .ok (.iconst 1, 1) := by decide +kernel
theorem dX10_chooseRow_31 : decode cX10_chooseRow 31 = .ok (.if_icmp .ge 5, 3) := by decide +kernel
theorem dX10_chooseRow_34 : decode cX10_chooseRow 34 = .ok (.iconst (-1), 1) := by decide +kernel
theorem dX10_chooseRow_35 : decode cX10_chooseRow 35 = .ok (.ireturn, 1) := by decide +kernel
theorem dX10_chooseRow_36 : decode cX10_chooseRow 36 = .ok (.aload_n 0, 1) := by decide +kernel
theorem dX10_chooseRow_37 : decode cX10_chooseRow 37 = .ok (.getfield 22, 3) := by decide +kernel
theorem dX10_chooseRow_40 : decode cX10_chooseRow 40 = .ok (.iload 4, 2) := by decide +kernel
theorem dX10_chooseRow_42 : decode cX10_chooseRow 42 = .ok (.aload_n 0, 1) := by decide +kernel
theorem dX10_chooseRow_43 : decode cX10_chooseRow 43 = .ok (.getfield 25, 3) := by decide +kernel
theorem dX10_chooseRow_46 : decode cX10_chooseRow 46 = .ok (.iload 4, 2) := by decide +kernel
theorem dX10_chooseRow_48 : decode cX10_chooseRow 48 = .ok (.bipush 14, 2) := by decide +kernel
theorem dX10_chooseRow_50 : decode cX10_chooseRow 50 = .ok (.imul, 1) := by decide +kernel
theorem dX10_chooseRow_51 : decode cX10_chooseRow 51 = .ok (.iload_n 2, 1) := by decide +kernel
theorem dX10_chooseRow_52 : decode cX10_chooseRow 52 = .ok (.aload_n 0, 1) := by decide +kernel
theorem dX10_chooseRow_53 : decode cX10_chooseRow 53 = .ok (.getfield 28, 3) := by decide +kernel
theorem dX10_chooseRow_56 : decode cX10_chooseRow 56 = .ok (.iload 4, 2) := by decide +kernel
theorem dX10_chooseRow_58 : decode cX10_chooseRow 58 = .ok (.iaload, 1) := by decide +kernel
theorem dX10_chooseRow_59 : decode cX10_chooseRow 59 = .ok (.irem, 1) := by decide +kernel
theorem dX10_chooseRow_60 : decode cX10_chooseRow 60 = .ok (.iadd, 1) := by decide +kernel
theorem dX10_chooseRow_61 : decode cX10_chooseRow 61 = .ok (.iaload, 1) := by decide +kernel
theorem dX10_chooseRow_62 : decode cX10_chooseRow 62 = .ok (.iastore, 1) := by decide +kernel
theorem dX10_chooseRow_63 : decode cX10_chooseRow 63 = .ok (.iload_n 2, 1) := by decide +kernel
theorem dX10_chooseRow_64 : decode cX10_chooseRow 64 = .ok (.aload_n 0, 1) := by decide +kernel
theorem dX10_chooseRow_65 : decode cX10_chooseRow 65 = .ok (.getfield 28, 3) := by decide +kernel
theorem dX10_chooseRow_68 : decode cX10_chooseRow 68 = .ok (.iload 4, 2) := by decide +kernel
theorem dX10_chooseRow_70 : decode cX10_chooseRow 70 = .ok (.iaload, 1) := by decide +kernel
theorem dX10_chooseRow_71 : decode cX10_chooseRow 71 = .ok (.idiv, 1) := by decide +kernel
theorem dX10_chooseRow_72 : decode cX10_chooseRow 72 = .ok (.istore_n 2, 1) := by decide +kernel
theorem dX10_chooseRow_73 : decode cX10_chooseRow 73 = .ok (.iload_n 3, 1) := by decide +kernel
theorem dX10_chooseRow_74 : decode cX10_chooseRow 74 = .ok (.aload_n 0, 1) := by decide +kernel
theorem dX10_chooseRow_75 : decode cX10_chooseRow 75 = .ok (.getfield 22, 3) := by decide +kernel
theorem dX10_chooseRow_78 : decode cX10_chooseRow 78 = .ok (.iload 4, 2) := by decide +kernel
theorem dX10_chooseRow_80 : decode cX10_chooseRow 80 = .ok (.iaload, 1) := by decide +kernel
theorem dX10_chooseRow_81 : decode cX10_chooseRow 81 = .ok (.iconst 1, 1) := by decide +kernel
theorem dX10_chooseRow_82 : decode cX10_chooseRow 82 = .ok (.iand, 1) := by decide +kernel
theorem dX10_chooseRow_83 : decode cX10_chooseRow 83 = .ok (.iadd, 1) := by decide +kernel
theorem dX10_chooseRow_84 : decode cX10_chooseRow 84 = .ok (.istore_n 3, 1) := by decide +kernel
theorem dX10_chooseRow_85 : decode cX10_chooseRow 85 = .ok (.iinc 4 (-1), 3) := by decide +kernel
theorem dX10_chooseRow_88 : decode cX10_chooseRow 88 = .ok (.goto (-76), 3) := by decide +kernel
theorem dX10_chooseRow_91 : decode cX10_chooseRow 91 = .ok (.iload_n 3, 1) := by decide +kernel
theorem dX10_chooseRow_92 : decode cX10_chooseRow 92 = .ok (.ireturn, 1) := by decide +kernel
theorem dX10_putDown_0 : decode cX10_putDown 0 = .ok (.aload_n 0, 1) := by decide +kernel
theorem dX10_putDown_1 : decode cX10_putDown 1 = .ok (.getfield 14, 3) := by decide +kernel
theorem dX10_putDown_4 : decode cX10_putDown 4 = .ok (.getfield 75, 3) := by decide +kernel
theorem dX10_putDown_7 : decode cX10_putDown 7 = .ok (.iconst 0, 1) := by decide +kernel
theorem dX10_putDown_8 : decode cX10_putDown 8 = .ok (.putfield 79, 3) := by decide +kernel
theorem dX10_putDown_11 : decode cX10_putDown 11 = .ok (.aload_n 0, 1) := by decide +kernel
theorem dX10_putDown_12 : decode cX10_putDown 12 = .ok (.getfield 14, 3) := by decide +kernel
theorem dX10_putDown_15 : decode cX10_putDown 15 = .ok (.iconst 1, 1) := by decide +kernel
theorem dX10_putDown_16 : decode cX10_putDown 16 = .ok (.putfield 84, 3) := by decide +kernel
theorem dX10_putDown_19 : decode cX10_putDown 19 = .ok (.iconst 0, 1) := by decide +kernel
theorem dX10_putDown_20 : decode cX10_putDown 20 = .ok (.istore_n 1, 1) := by decide +kernel
theorem dX10_putDown_21 : decode cX10_putDown 21 = .ok (.iload_n 1, 1) := by decide +kernel
theorem dX10_putDown_22 : decode cX10_putDown 22 = .ok (.aload_n 0, 1) := by decide +kernel
theorem dX10_putDown_23 : decode cX10_putDown 23 = .ok (.getfield 47, 3) := by decide +kernel
theorem dX10_putDown_26 : decode cX10_putDown 26 = .ok (.if_icmp .ge 61, 3) := by decide +kernel
theorem dX10_putDown_29 : decode cX10_putDown 29 = .ok (.iload_n 1, 1) := by decide +kernel
theorem dX10_putDown_30 : decode cX10_putDown 30 = .ok (.iconst 3, 1) := by decide +kernel
theorem dX10_putDown_31 : decode cX10_putDown 31 = .ok (.if_icmp .ge 56, 3) := by decide +kernel
theorem dX10_putDown_34 : decode cX10_putDown 34 = .ok (.aload_n 0, 1) := by decide +kernel
theorem dX10_putDown_35 : decode cX10_putDown 35 = .ok (.getfield 14, 3) := by decide +kernel
theorem dX10_putDown_38 : decode cX10_putDown 38 = .ok (.getfield 75, 3) := by decide +kernel
theorem dX10_putDown_41 : decode cX10_putDown 41 = .ok (.iconst 1, 1) := by decide +kernel
theorem dX10_putDown_42 : decode cX10_putDown 42 = .ok (.aload_n 0, 1) := by decide +kernel
theorem dX10_putDown_43 : decode cX10_putDown 43 = .ok (.getfield 22, 3) := by decide +kernel
theorem dX10_putDown_46 : decode cX10_putDown 46 = .ok (.iload_n 1, 1) := by decide +kernel
theorem dX10_putDown_47 : decode cX10_putDown 47 = .ok (.iaload, 1) := by decide +kernel
theorem dX10_putDown_48 : decode cX10_putDown 48 = .ok (.iconst 1, 1) := by decide +kernel
theorem dX10_putDown_49 : decode cX10_putDown 49 = .ok (.ishr, 1) := by decide +kernel
theorem dX10_putDown_50 : decode cX10_putDown 50 = .ok (.iconst 0, 1) := by decide +kernel
theorem dX10_putDown_51 : decode cX10_putDown 51 = .ok (.iconst 0, 1) := by decide +kernel
theorem dX10_putDown_52 : decode cX10_putDown 52 = .ok (.invokevirtual 88, 3) := by decide +kernel
theorem dX10_putDown_55 : decode cX10_putDown 55 = .ok (.aload_n 0, 1) := by decide +kernel
theorem dX10_putDown_56 : decode cX10_putDown 56 = .ok (.getfield 22, 3) := by decide +kernel
theorem dX10_putDown_59 : decode cX10_putDown 59 = .ok (.iload_n 1, 1) := by decide +kernel
theorem dX10_putDown_60 : decode cX10_putDown 60 = .ok (.iaload, 1) := by decide +kernel
theorem dX10_putDown_61 : decode cX10_putDown 61 = .ok (.iconst 1, 1) := by decide +kernel
theorem dX10_putDown_62 : decode cX10_putDown 62 = .ok (.iand, 1) := by decide +kernel
theorem dX10_putDown_63 : decode cX10_putDown 63 = .ok (.iconst 1, 1) := by decide +kernel
theorem dX10_putDown_64 : decode cX10_putDown 64 = .ok (.if_icmp .ne 17, 3) := by decide +kernel
theorem dX10_putDown_67 : decode cX10_putDown 67 = .ok (.aload_n 0, 1) := by decide +kernel
theorem dX10_putDown_68 : decode cX10_putDown 68 = .ok (.getfield 14, 3) := by decide +kernel
theorem dX10_putDown_71 : decode cX10_putDown 71 = .ok (.getfield 75, 3) := by decide +kernel
theorem dX10_putDown_74 : decode cX10_putDown 74 = .ok (.iconst 3, 1) := by decide +kernel
theorem dX10_putDown_75 : decode cX10_putDown 75 = .ok (.iconst (-1), 1) := by decide +kernel
theorem dX10_putDown_76 : decode cX10_putDown 76 = .ok (.iconst (-1), 1) := by decide +kernel
theorem dX10_putDown_77 : decode cX10_putDown 77 = .ok (.iconst 0, 1) := by decide +kernel
theorem dX10_putDown_78 : decode cX10_putDown 78 = .ok (.invokevirtual 88, 3) := by decide +kernel
theorem dX10_putDown_81 : decode cX10_putDown 81 = .ok (.iinc 1 1, 3) := by decide +kernel
theorem dX10_putDown_84 : decode cX10_putDown 84 = .ok (.goto (-63), 3) := by decide +kernel
theorem dX10_putDown_87 : decode cX10_putDown 87 = .ok (.return_, 1) := by decide +kernel
theorem dX10_isAsWanted_0 : decode cX10_isAsWanted 0 = .ok (.aload_n 0, 1) := by decide +kernel
theorem dX10_isAsWanted_1 : decode cX10_isAsWanted 1 = .ok (.getfield 14, 3) := by decide +kernel
theorem dX10_isAsWanted_4 : decode cX10_isAsWanted 4 = .ok (.invokevirtual 92, 3) := by decide +kernel
theorem dX10_isAsWanted_7 : decode cX10_isAsWanted 7 = .ok (.ifCond .ne 13, 3) := by decide +kernel
theorem dX10_isAsWanted_10 : decode cX10_isAsWanted 10 = .ok (.aload_n 0, 1) := by decide +kernel
theorem dX10_isAsWanted_11 : decode cX10_isAsWanted 11 = .ok (.getfield 14, 3) := by decide +kernel
theorem dX10_isAsWanted_14 : decode cX10_isAsWanted 14 = .ok (.getfield 96, 3) := by decide +kernel
theorem dX10_isAsWanted_17 : decode cX10_isAsWanted 17 = .ok (.ifCond .ne 5, 3) := by decide +kernel
theorem dX10_isAsWanted_20 : decode cX10_isAsWanted 20 = .ok (.iconst 0, 1) := by decide +kernel
theorem dX10_isAsWanted_21 : decode cX10_isAsWanted 21 = .ok (.ireturn, 1) := by decide +kernel
theorem dX10_isAsWanted_22 : decode cX10_isAsWanted 22 = .ok (.iconst 0, 1) := by decide +kernel
theorem dX10_isAsWanted_23 : decode cX10_isAsWanted 23 = .ok (.istore_n 1, 1) := by decide +kernel
theorem dX10_isAsWanted_24 : decode cX10_isAsWanted 24 = .ok (.iconst 0, 1) := by decide +kernel
theorem dX10_isAsWanted_25 : decode cX10_isAsWanted 25 = .ok (.istore_n 2, 1) := by decide +kernel
theorem dX10_isAsWanted_26 : decode cX10_isAsWanted 26 = .ok (.iload_n 2, 1) := by decide +kernel
theorem dX10_isAsWanted_27 : decode cX10_isAsWanted 27 = .ok (.aload_n 0, 1) := by decide +kernel
theorem dX10_isAsWanted_28 : decode cX10_isAsWanted 28 = .ok (.getfield 14, 3) := by decide +kernel
theorem dX10_isAsWanted_31 : decode cX10_isAsWanted 31 = .ok (.getfield 75, 3) := by decide +kernel
theorem dX10_isAsWanted_34 : decode cX10_isAsWanted 34 = .ok (.getfield 79, 3) := by decide +kernel
theorem dX10_isAsWanted_37 : decode cX10_isAsWanted 37 = .ok (.if_icmp .ge 51, 3) := by decide +kernel
theorem dX10_isAsWanted_40 : decode cX10_isAsWanted 40 = .ok (.aload_n 0, 1) := by decide +kernel
theorem dX10_isAsWanted_41 : decode cX10_isAsWanted 41 = .ok (.getfield 14, 3) := by decide +kernel
theorem dX10_isAsWanted_44 : decode cX10_isAsWanted 44 = .ok (.getfield 75, 3) := by decide +kernel
theorem dX10_isAsWanted_47 : decode cX10_isAsWanted 47 = .ok (.iload_n 2, 1) := by decide +kernel
theorem dX10_isAsWanted_48 : decode cX10_isAsWanted 48 = .ok (.invokevirtual 99, 3) := by decide +kernel
theorem dX10_isAsWanted_51 : decode cX10_isAsWanted 51 = .ok (.iconst 1, 1) := by decide +kernel
theorem dX10_isAsWanted_52 : decode cX10_isAsWanted 52 = .ok (.if_icmp .ne 30, 3) := by decide +kernel
theorem dX10_isAsWanted_55 : decode cX10_isAsWanted 55 = .ok (.iload_n 1, 1) := by decide +kernel
theorem dX10_isAsWanted_56 : decode cX10_isAsWanted 56 = .ok (.iconst 3, 1) := by decide +kernel
theorem dX10_isAsWanted_57 : decode cX10_isAsWanted 57 = .ok (.if_icmp .ge 20, 3) := by decide +kernel
theorem dX10_isAsWanted_60 : decode cX10_isAsWanted 60 = .ok (.aload_n 0, 1) := by decide +kernel
theorem dX10_isAsWanted_61 : decode cX10_isAsWanted 61 = .ok (.getfield 14, 3) := by decide +kernel
theorem dX10_isAsWanted_64 : decode cX10_isAsWanted 64 = .ok (.iload_n 2, 1) := by decide +kernel
theorem dX10_isAsWanted_65 : decode cX10_isAsWanted 65 = .ok (.invokevirtual 102, 3) := by decide +kernel
theorem dX10_isAsWanted_68 : decode cX10_isAsWanted 68 = .ok (.aload_n 0, 1) := by decide +kernel
theorem dX10_isAsWanted_69 : decode cX10_isAsWanted 69 = .ok (.getfield 18, 3) := by decide +kernel
theorem dX10_isAsWanted_72 : decode cX10_isAsWanted 72 = .ok (.iload_n 1, 1) := by decide +kernel
theorem dX10_isAsWanted_73 : decode cX10_isAsWanted 73 = .ok (.iaload, 1) := by decide +kernel
theorem dX10_isAsWanted_74 : decode cX10_isAsWanted 74 = .ok (.if_icmp .eq 5, 3) := by decide +kernel
theorem dX10_isAsWanted_77 : decode cX10_isAsWanted 77 = .ok (.iconst 0, 1) := by decide +kernel
theorem dX10_isAsWanted_78 : decode cX10_isAsWanted 78 = .ok (.ireturn, 1) := by decide +kernel
theorem dX10_isAsWanted_79 : decode cX10_isAsWanted 79 = .ok (.iinc 1 1, 3) := by decide +kernel
theorem dX10_isAsWanted_82 : decode cX10_isAsWanted 82 = .ok (.iinc 2 1, 3) := by decide +kernel
theorem dX10_isAsWanted_85 : decode cX10_isAsWanted 85 = .ok (.goto (-59), 3) := by decide +kernel
theorem dX10_isAsWanted_88 : decode cX10_isAsWanted 88 = .ok (.iconst 1, 1) := by decide +kernel
theorem dX10_isAsWanted_89 : decode cX10_isAsWanted 89 = .ok (.ireturn, 1) := by decide +kernel
theorem dX10_keep_0 : decode cX10_keep 0 = .ok (.aload_n 0, 1) := by decide +kernel
theorem dX10_keep_1 : decode cX10_keep 1 = .ok (.aload_n 0, 1) := by decide +kernel
theorem dX10_keep_2 : decode cX10_keep 2 = .ok (.getfield 14, 3) := by decide +kernel
theorem dX10_keep_5 : decode cX10_keep 5 = .ok (.getfield 75, 3) := by decide +kernel
theorem dX10_keep_8 : decode cX10_keep 8 = .ok (.getfield 79, 3) := by decide +kernel
theorem dX10_keep_11 : decode cX10_keep 11 = .ok (.aload_n 0, 1) := by decide +kernel
theorem dX10_keep_12 : decode cX10_keep 12 = .ok (.getfield 31, 3) := by decide +kernel
theorem dX10_keep_15 : decode cX10_keep 15 = .ok (.arraylength, 1) := by decide +kernel
theorem dX10_keep_16 : decode cX10_keep 16 = .ok (.invokestatic 38, 3) := by decide +kernel
theorem dX10_keep_19 : decode cX10_keep 19 = .ok (.putfield 105, 3) := by decide +kernel
theorem dX10_keep_22 : decode cX10_keep 22 = .ok (.iconst 0, 1) := by decide +kernel
theorem dX10_keep_23 : decode cX10_keep 23 = .ok (.istore_n 1, 1) := by decide +kernel
theorem dX10_keep_24 : decode cX10_keep 24 = .ok (.iload_n 1, 1) := by decide +kernel
theorem dX10_keep_25 : decode cX10_keep 25 = .ok (.aload_n 0, 1) := by decide +kernel
theorem dX10_keep_26 : decode cX10_keep 26 = .ok (.getfield 105, 3) := by decide +kernel
theorem dX10_keep_29 : decode cX10_keep 29 = .ok (.if_icmp .ge 46, 3) := by decide +kernel
theorem dX10_keep_32 : decode cX10_keep 32 = .ok (.aload_n 0, 1) := by decide +kernel
theorem dX10_keep_33 : decode cX10_keep 33 = .ok (.getfield 31, 3) := by decide +kernel
theorem dX10_keep_36 : decode cX10_keep 36 = .ok (.iload_n 1, 1) := by decide +kernel
theorem dX10_keep_37 : decode cX10_keep 37 = .ok (.aload_n 0, 1) := by decide +kernel
theorem dX10_keep_38 : decode cX10_keep 38 = .ok (.getfield 14, 3) := by decide +kernel
theorem dX10_keep_41 : decode cX10_keep 41 = .ok (.getfield 75, 3) := by decide +kernel
theorem dX10_keep_44 : decode cX10_keep 44 = .ok (.iload_n 1, 1) := by decide +kernel
theorem dX10_keep_45 : decode cX10_keep 45 = .ok (.invokevirtual 99, 3) := by decide +kernel
theorem dX10_keep_48 : decode cX10_keep 48 = .ok (.iconst 3, 1) := by decide +kernel
theorem dX10_keep_49 : decode cX10_keep 49 = .ok (.if_icmp .ne 8, 3) := by decide +kernel
theorem dX10_keep_52 : decode cX10_keep 52 = .ok (.bipush 7, 2) := by decide +kernel
theorem dX10_keep_54 : decode cX10_keep 54 = .ok (.goto 14, 3) := by decide +kernel
theorem dX10_keep_57 : decode cX10_keep 57 = .ok (.aload_n 0, 1) := by decide +kernel
theorem dX10_keep_58 : decode cX10_keep 58 = .ok (.getfield 14, 3) := by decide +kernel
theorem dX10_keep_61 : decode cX10_keep 61 = .ok (.getfield 75, 3) := by decide +kernel
theorem dX10_keep_64 : decode cX10_keep 64 = .ok (.iload_n 1, 1) := by decide +kernel
theorem dX10_keep_65 : decode cX10_keep 65 = .ok (.invokevirtual 108, 3) := by decide +kernel
theorem dX10_keep_68 : decode cX10_keep 68 = .ok (.iastore, 1) := by decide +kernel
theorem dX10_keep_69 : decode cX10_keep 69 = .ok (.iinc 1 1, 3) := by decide +kernel
theorem dX10_keep_72 : decode cX10_keep 72 = .ok (.goto (-48), 3) := by decide +kernel
theorem dX10_keep_75 : decode cX10_keep 75 = .ok (.aload_n 0, 1) := by decide +kernel
theorem dX10_keep_76 : decode cX10_keep 76 = .ok (.getfield 105, 3) := by decide +kernel
theorem dX10_keep_79 : decode cX10_keep 79 = .ok (.ireturn, 1) := by decide +kernel
theorem dX10_keptAt_0 : decode cX10_keptAt 0 = .ok (.iload_n 1, 1) := by decide +kernel
theorem dX10_keptAt_1 : decode cX10_keptAt 1 = .ok (.ifCond .lt 20, 3) := by decide +kernel
theorem dX10_keptAt_4 : decode cX10_keptAt 4 = .ok (.iload_n 1, 1) := by decide +kernel
theorem dX10_keptAt_5 : decode cX10_keptAt 5 = .ok (.aload_n 0, 1) := by decide +kernel
theorem dX10_keptAt_6 : decode cX10_keptAt 6 = .ok (.getfield 105, 3) := by decide +kernel
theorem dX10_keptAt_9 : decode cX10_keptAt 9 = .ok (.if_icmp .ge 12, 3) := by decide +kernel
theorem dX10_keptAt_12 : decode cX10_keptAt 12 = .ok (.iload_n 1, 1) := by decide +kernel
theorem dX10_keptAt_13 : decode cX10_keptAt 13 = .ok (.aload_n 0, 1) := by decide +kernel
theorem dX10_keptAt_14 : decode cX10_keptAt 14 = .ok (.getfield 31, 3) := by decide +kernel
theorem dX10_keptAt_17 : decode cX10_keptAt 17 = .ok (.arraylength, 1) := by decide +kernel
theorem dX10_keptAt_18 : decode cX10_keptAt 18 = .ok (.if_icmp .lt 7, 3) := by decide +kernel
theorem dX10_keptAt_21 : decode cX10_keptAt 21 = .ok (.iconst (-1), 1) := by decide +kernel
theorem dX10_keptAt_22 : decode cX10_keptAt 22 = .ok (.goto 9, 3) := by decide +kernel
theorem dX10_keptAt_25 : decode cX10_keptAt 25 = .ok (.aload_n 0, 1) := by decide +kernel
theorem dX10_keptAt_26 : decode cX10_keptAt 26 = .ok (.getfield 31, 3) := by decide +kernel
theorem dX10_keptAt_29 : decode cX10_keptAt 29 = .ok (.iload_n 1, 1) := by decide +kernel
theorem dX10_keptAt_30 : decode cX10_keptAt 30 = .ok (.iaload, 1) := by decide +kernel
theorem dX10_keptAt_31 : decode cX10_keptAt 31 = .ok (.ireturn, 1) := by decide +kernel

theorem dX7_init_0 : decode cX7_init 0 = .ok (.aload_n 0, 1) := by decide +kernel
theorem dX7_init_1 : decode cX7_init 1 = .ok (.invokespecial 3, 3) := by decide +kernel
theorem dX7_init_4 : decode cX7_init 4 = .ok (.aload_n 0, 1) := by decide +kernel
theorem dX7_init_5 : decode cX7_init 5 = .ok (.sipush 3591, 3) := by decide +kernel
theorem dX7_init_8 : decode cX7_init 8 = .ok (.newarray .int, 2) := by decide +kernel
theorem dX7_init_10 : decode cX7_init 10 = .ok (.putfield 11, 3) := by decide +kernel
theorem dX7_init_13 : decode cX7_init 13 = .ok (.aload_n 0, 1) := by decide +kernel
theorem dX7_init_14 : decode cX7_init 14 = .ok (.sipush 189, 3) := by decide +kernel
theorem dX7_init_17 : decode cX7_init 17 = .ok (.newarray .int, 2) := by decide +kernel
theorem dX7_init_19 : decode cX7_init 19 = .ok (.putfield 15, 3) := by decide +kernel
theorem dX7_init_22 : decode cX7_init 22 = .ok (.aload_n 0, 1) := by decide +kernel
theorem dX7_init_23 : decode cX7_init 23 = .ok (.sipush 189, 3) := by decide +kernel
theorem dX7_init_26 : decode cX7_init 26 = .ok (.newarray .int, 2) := by decide +kernel
theorem dX7_init_28 : decode cX7_init 28 = .ok (.putfield 18, 3) := by decide +kernel
theorem dX7_init_31 : decode cX7_init 31 = .ok (.aload_n 0, 1) := by decide +kernel
theorem dX7_init_32 : decode cX7_init 32 = .ok (.sipush 189, 3) := by decide +kernel
theorem dX7_init_35 : decode cX7_init 35 = .ok (.newarray .int, 2) := by decide +kernel
theorem dX7_init_37 : decode cX7_init 37 = .ok (.putfield 21, 3) := by decide +kernel
theorem dX7_init_40 : decode cX7_init 40 = .ok (.aload_n 0, 1) := by decide +kernel
theorem dX7_init_41 : decode cX7_init 41 = .ok (.bipush 7, 2) := by decide +kernel
theorem dX7_init_43 : decode cX7_init 43 = .ok (.newarray .int, 2) := by decide +kernel
theorem dX7_init_45 : decode cX7_init 45 = .ok (.putfield 24, 3) := by decide +kernel
theorem dX7_init_48 : decode cX7_init 48 = .ok (.aload_n 0, 1) := by decide +kernel
theorem dX7_init_49 : decode cX7_init 49 = .ok (.bipush 7, 2) := by decide +kernel
theorem dX7_init_51 : decode cX7_init 51 = .ok (.newarray .int, 2) := by decide +kernel
theorem dX7_init_53 : decode cX7_init 53 = .ok (.putfield 27, 3) := by decide +kernel
theorem dX7_init_56 : decode cX7_init 56 = .ok (.aload_n 0, 1) := by decide +kernel
theorem dX7_init_57 : decode cX7_init 57 = .ok (.bipush 7, 2) := by decide +kernel
theorem dX7_init_59 : decode cX7_init 59 = .ok (.newarray .int, 2) := by decide +kernel
theorem dX7_init_61 : decode cX7_init 61 = .ok (.putfield 30, 3) := by decide +kernel
theorem dX7_init_64 : decode cX7_init 64 = .ok (.aload_n 0, 1) := by decide +kernel
theorem dX7_init_65 : decode cX7_init 65 = .ok (.bipush 7, 2) := by decide +kernel
theorem dX7_init_67 : decode cX7_init 67 = .ok (.newarray .int, 2) := by decide +kernel
theorem dX7_init_69 : decode cX7_init 69 = .ok (.putfield 33, 3) := by decide +kernel
theorem dX7_init_72 : decode cX7_init 72 = .ok (.aload_n 0, 1) := by decide +kernel
theorem dX7_init_73 : decode cX7_init 73 = .ok (.bipush 7, 2) := by decide +kernel
theorem dX7_init_75 : decode cX7_init 75 = .ok (.newarray .int, 2) := by decide +kernel
theorem dX7_init_77 : decode cX7_init 77 = .ok (.putfield 36, 3) := by decide +kernel
theorem dX7_init_80 : decode cX7_init 80 = .ok (.return_, 1) := by decide +kernel
theorem dX7_fill_0 : decode cX7_fill 0 = .ok (.aload_n 0, 1) := by decide +kernel
theorem dX7_fill_1 : decode cX7_fill 1 = .ok (.invokevirtual 39, 3) := by decide +kernel
theorem dX7_fill_4 : decode cX7_fill 4 = .ok (.aload_n 0, 1) := by decide +kernel
theorem dX7_fill_5 : decode cX7_fill 5 = .ok (.aload_n 1, 1) := by decide +kernel
theorem dX7_fill_6 : decode cX7_fill 6 = .ok (.getfield 42, 3) := by decide +kernel
theorem dX7_fill_9 : decode cX7_fill 9 = .ok (.getfield 48, 3) := by decide +kernel
theorem dX7_fill_12 : decode cX7_fill 12 = .ok (.putfield 54, 3) := by decide +kernel
theorem dX7_fill_15 : decode cX7_fill 15 = .ok (.bipush 7, 2) := by decide +kernel
theorem dX7_fill_17 : decode cX7_fill 17 = .ok (.istore_n 2, 1) := by decide +kernel
theorem dX7_fill_18 : decode cX7_fill 18 = .ok (.aload_n 0, 1) := by decide +kernel
theorem dX7_fill_19 : decode cX7_fill 19 = .ok (.getfield 54, 3) := by decide +kernel
theorem dX7_fill_22 : decode cX7_fill 22 = .ok (.iconst 1, 1) := by decide +kernel
theorem dX7_fill_23 : decode cX7_fill 23 = .ok (.isub, 1) := by decide +kernel
theorem dX7_fill_24 : decode cX7_fill 24 = .ok (.istore_n 3, 1) := by decide +kernel
theorem dX7_fill_25 : decode cX7_fill 25 = .ok (.iload_n 3, 1) := by decide +kernel
theorem dX7_fill_26 : decode cX7_fill 26 = .ok (.ifCond .lt 44, 3) := by decide +kernel
theorem dX7_fill_29 : decode cX7_fill 29 = .ok (.aload_n 0, 1) := by decide +kernel
theorem dX7_fill_30 : decode cX7_fill 30 = .ok (.aload_n 1, 1) := by decide +kernel
theorem dX7_fill_31 : decode cX7_fill 31 = .ok (.getfield 42, 3) := by decide +kernel
theorem dX7_fill_34 : decode cX7_fill 34 = .ok (.iload_n 3, 1) := by decide +kernel
theorem dX7_fill_35 : decode cX7_fill 35 = .ok (.iload_n 2, 1) := by decide +kernel
theorem dX7_fill_36 : decode cX7_fill 36 = .ok (.invokevirtual 55, 3) := by decide +kernel
theorem dX7_fill_39 : decode cX7_fill 39 = .ok (.aload_n 1, 1) := by decide +kernel
theorem dX7_fill_40 : decode cX7_fill 40 = .ok (.getfield 42, 3) := by decide +kernel
theorem dX7_fill_43 : decode cX7_fill 43 = .ok (.iload_n 3, 1) := by decide +kernel
theorem dX7_fill_44 : decode cX7_fill 44 = .ok (.invokevirtual 59, 3) := by decide +kernel
theorem dX7_fill_47 : decode cX7_fill 47 = .ok (.iconst 3, 1) := by decide +kernel
theorem dX7_fill_48 : decode cX7_fill 48 = .ok (.if_icmp .ne 7, 3) := by decide +kernel
theorem dX7_fill_51 : decode cX7_fill 51 = .ok (.iload_n 2, 1) := by decide +kernel
theorem dX7_fill_52 : decode cX7_fill 52 = .ok (.goto 11, 3) := by decide +kernel
theorem dX7_fill_55 : decode cX7_fill 55 = .ok (.aload_n 1, 1) := by decide +kernel
theorem dX7_fill_56 : decode cX7_fill 56 = .ok (.getfield 42, 3) := by decide +kernel
theorem dX7_fill_59 : decode cX7_fill 59 = .ok (.iload_n 3, 1) := by decide +kernel
theorem dX7_fill_60 : decode cX7_fill 60 = .ok (.invokevirtual 63, 3) := by decide +kernel
theorem dX7_fill_63 : decode cX7_fill 63 = .ok (.istore_n 2, 1) := by decide +kernel
theorem dX7_fill_64 : decode cX7_fill 64 = .ok (.iinc 3 (-1), 3) := by decide +kernel
theorem dX7_fill_67 : decode cX7_fill 67 = .ok (.goto (-42), 3) := by decide +kernel
theorem dX7_fill_70 : decode cX7_fill 70 = .ok (.aload_n 0, 1) := by decide +kernel
theorem dX7_fill_71 : decode cX7_fill 71 = .ok (.getfield 54, 3) := by decide +kernel
theorem dX7_fill_74 : decode cX7_fill 74 = .ok (.iconst 1, 1) := by decide +kernel
theorem dX7_fill_75 : decode cX7_fill 75 = .ok (.isub, 1) := by decide +kernel
theorem dX7_fill_76 : decode cX7_fill 76 = .ok (.istore_n 3, 1) := by decide +kernel
theorem dX7_fill_77 : decode cX7_fill 77 = .ok (.iload_n 3, 1) := by decide +kernel
theorem dX7_fill_78 : decode cX7_fill 78 = .ok (.ifCond .lt 83, 3) := by decide +kernel
theorem dX7_fill_81 : decode cX7_fill 81 = .ok (.bipush 6, 2) := by decide +kernel
theorem dX7_fill_83 : decode cX7_fill 83 = .ok (.istore 4, 2) := by decide +kernel
theorem dX7_fill_85 : decode cX7_fill 85 = .ok (.iload 4, 2) := by decide +kernel
theorem dX7_fill_87 : decode cX7_fill 87 = .ok (.ifCond .lt 68, 3) := by decide +kernel
theorem dX7_fill_90 : decode cX7_fill 90 = .ok (.aload_n 0, 1) := by decide +kernel
theorem dX7_fill_91 : decode cX7_fill 91 = .ok (.iload 4, 2) := by decide +kernel
theorem dX7_fill_93 : decode cX7_fill 93 = .ok (.iload_n 3, 1) := by decide +kernel
theorem dX7_fill_94 : decode cX7_fill 94 = .ok (.invokevirtual 66, 3) := by decide +kernel
theorem dX7_fill_97 : decode cX7_fill 97 = .ok (.aload_n 0, 1) := by decide +kernel
theorem dX7_fill_98 : decode cX7_fill 98 = .ok (.iload 4, 2) := by decide +kernel
theorem dX7_fill_100 : decode cX7_fill 100 = .ok (.iload_n 3, 1) := by decide +kernel
theorem dX7_fill_101 : decode cX7_fill 101 = .ok (.invokevirtual 70, 3) := by decide +kernel
theorem dX7_fill_104 : decode cX7_fill 104 = .ok (.iload 4, 2) := by decide +kernel
theorem dX7_fill_106 : decode cX7_fill 106 = .ok (.aload_n 1, 1) := by decide +kernel
theorem dX7_fill_107 : decode cX7_fill 107 = .ok (.getfield 73, 3) := by decide +kernel
theorem dX7_fill_110 : decode cX7_fill 110 = .ok (.if_icmp .ge 13, 3) := by decide +kernel
theorem dX7_fill_113 : decode cX7_fill 113 = .ok (.aload_n 0, 1) := by decide +kernel
theorem dX7_fill_114 : decode cX7_fill 114 = .ok (.iload 4, 2) := by decide +kernel
theorem dX7_fill_116 : decode cX7_fill 116 = .ok (.iload_n 3, 1) := by decide +kernel
theorem dX7_fill_117 : decode cX7_fill 117 = .ok (.invokevirtual 76, 3) := by decide +kernel
theorem dX7_fill_120 : decode cX7_fill 120 = .ok (.goto 29, 3) := by decide +kernel
theorem dX7_fill_123 : decode cX7_fill 123 = .ok (.aload_n 1, 1) := by decide +kernel
theorem dX7_fill_124 : decode cX7_fill 124 = .ok (.iload 4, 2) := by decide +kernel
theorem dX7_fill_126 : decode cX7_fill 126 = .ok (.invokevirtual 79, 3) := by decide +kernel
theorem dX7_fill_129 : decode cX7_fill 129 = .ok (.ifCond .eq 13, 3) := by decide +kernel
theorem dX7_fill_132 : decode cX7_fill 132 = .ok (.aload_n 0, 1) := by decide +kernel
theorem dX7_fill_133 : decode cX7_fill 133 = .ok (.iload 4, 2) := by decide +kernel
theorem dX7_fill_135 : decode cX7_fill 135 = .ok (.iload_n 3, 1) := by decide +kernel
theorem dX7_fill_136 : decode cX7_fill 136 = .ok (.invokevirtual 83, 3) := by decide +kernel
theorem dX7_fill_139 : decode cX7_fill 139 = .ok (.goto 10, 3) := by decide +kernel
theorem dX7_fill_142 : decode cX7_fill 142 = .ok (.aload_n 0, 1) := by decide +kernel
theorem dX7_fill_143 : decode cX7_fill 143 = .ok (.iload 4, 2) := by decide +kernel
theorem dX7_fill_145 : decode cX7_fill 145 = .ok (.iload_n 3, 1) := by decide +kernel
theorem dX7_fill_146 : decode cX7_fill 146 = .ok (.invokevirtual 86, 3) := by decide +kernel
theorem dX7_fill_149 : decode cX7_fill 149 = .ok (.iinc 4 (-1), 3) := by decide +kernel
theorem dX7_fill_152 : decode cX7_fill 152 = .ok (.goto (-67), 3) := by decide +kernel
theorem dX7_fill_155 : decode cX7_fill 155 = .ok (.iinc 3 (-1), 3) := by decide +kernel
theorem dX7_fill_158 : decode cX7_fill 158 = .ok (.goto (-81), 3) := by decide +kernel
theorem dX7_fill_161 : decode cX7_fill 161 = .ok (.aload_n 0, 1) := by decide +kernel
theorem dX7_fill_162 : decode cX7_fill 162 = .ok (.aload_n 1, 1) := by decide +kernel
theorem dX7_fill_163 : decode cX7_fill 163 = .ok (.getfield 73, 3) := by decide +kernel
theorem dX7_fill_166 : decode cX7_fill 166 = .ok (.invokevirtual 89, 3) := by decide +kernel
theorem dX7_fill_169 : decode cX7_fill 169 = .ok (.return_, 1) := by decide +kernel
theorem dX7_clear_0 : decode cX7_clear 0 = .ok (.aload_n 0, 1) := by decide +kernel
theorem dX7_clear_1 : decode cX7_clear 1 = .ok (.iconst 0, 1) := by decide +kernel
theorem dX7_clear_2 : decode cX7_clear 2 = .ok (.putfield 93, 3) := by decide +kernel
theorem dX7_clear_5 : decode cX7_clear 5 = .ok (.aload_n 0, 1) := by decide +kernel
theorem dX7_clear_6 : decode cX7_clear 6 = .ok (.getfield 11, 3) := by decide +kernel
theorem dX7_clear_9 : decode cX7_clear 9 = .ok (.iconst 0, 1) := by decide +kernel
theorem dX7_clear_10 : decode cX7_clear 10 = .ok (.invokestatic 96, 3) := by decide +kernel
theorem dX7_clear_13 : decode cX7_clear 13 = .ok (.aload_n 0, 1) := by decide +kernel
theorem dX7_clear_14 : decode cX7_clear 14 = .ok (.getfield 15, 3) := by decide +kernel
theorem dX7_clear_17 : decode cX7_clear 17 = .ok (.iconst 0, 1) := by decide +kernel
theorem dX7_clear_18 : decode cX7_clear 18 = .ok (.invokestatic 96, 3) := by decide +kernel
theorem dX7_clear_21 : decode cX7_clear 21 = .ok (.aload_n 0, 1) := by decide +kernel
theorem dX7_clear_22 : decode cX7_clear 22 = .ok (.getfield 18, 3) := by decide +kernel
theorem dX7_clear_25 : decode cX7_clear 25 = .ok (.iconst 0, 1) := by decide +kernel
theorem dX7_clear_26 : decode cX7_clear 26 = .ok (.invokestatic 96, 3) := by decide +kernel
theorem dX7_clear_29 : decode cX7_clear 29 = .ok (.aload_n 0, 1) := by decide +kernel
theorem dX7_clear_30 : decode cX7_clear 30 = .ok (.getfield 21, 3) := by decide +kernel
theorem dX7_clear_33 : decode cX7_clear 33 = .ok (.iconst 0, 1) := by decide +kernel
theorem dX7_clear_34 : decode cX7_clear 34 = .ok (.invokestatic 96, 3) := by decide +kernel
theorem dX7_clear_37 : decode cX7_clear 37 = .ok (.aload_n 0, 1) := by decide +kernel
theorem dX7_clear_38 : decode cX7_clear 38 = .ok (.getfield 24, 3) := by decide +kernel
theorem dX7_clear_41 : decode cX7_clear 41 = .ok (.iconst 0, 1) := by decide +kernel
theorem dX7_clear_42 : decode cX7_clear 42 = .ok (.invokestatic 96, 3) := by decide +kernel
theorem dX7_clear_45 : decode cX7_clear 45 = .ok (.aload_n 0, 1) := by decide +kernel
theorem dX7_clear_46 : decode cX7_clear 46 = .ok (.getfield 27, 3) := by decide +kernel
theorem dX7_clear_49 : decode cX7_clear 49 = .ok (.iconst 0, 1) := by decide +kernel
theorem dX7_clear_50 : decode cX7_clear 50 = .ok (.invokestatic 96, 3) := by decide +kernel
theorem dX7_clear_53 : decode cX7_clear 53 = .ok (.aload_n 0, 1) := by decide +kernel
theorem dX7_clear_54 : decode cX7_clear 54 = .ok (.getfield 30, 3) := by decide +kernel
theorem dX7_clear_57 : decode cX7_clear 57 = .ok (.iconst 0, 1) := by decide +kernel
theorem dX7_clear_58 : decode cX7_clear 58 = .ok (.invokestatic 96, 3) := by decide +kernel
theorem dX7_clear_61 : decode cX7_clear 61 = .ok (.aload_n 0, 1) := by decide +kernel
theorem dX7_clear_62 : decode cX7_clear 62 = .ok (.getfield 33, 3) := by decide +kernel
theorem dX7_clear_65 : decode cX7_clear 65 = .ok (.iconst 0, 1) := by decide +kernel
theorem dX7_clear_66 : decode cX7_clear 66 = .ok (.invokestatic 96, 3) := by decide +kernel
theorem dX7_clear_69 : decode cX7_clear 69 = .ok (.aload_n 0, 1) := by decide +kernel
theorem dX7_clear_70 : decode cX7_clear 70 = .ok (.getfield 36, 3) := by decide +kernel
theorem dX7_clear_73 : decode cX7_clear 73 = .ok (.iconst 0, 1) := by decide +kernel
theorem dX7_clear_74 : decode cX7_clear 74 = .ok (.invokestatic 96, 3) := by decide +kernel
theorem dX7_clear_77 : decode cX7_clear 77 = .ok (.return_, 1) := by decide +kernel
theorem dX7_sortSymbol_0 : decode cX7_sortSymbol 0 = .ok (.iconst 1, 1) := by decide +kernel
theorem dX7_sortSymbol_1 : decode cX7_sortSymbol 1 = .ok (.iload_n 2, 1) := by decide +kernel
theorem dX7_sortSymbol_2 : decode cX7_sortSymbol 2 = .ok (.ishl, 1) := by decide +kernel
theorem dX7_sortSymbol_3 : decode cX7_sortSymbol 3 = .ok (.istore 4, 2) := by decide +kernel
theorem dX7_sortSymbol_5 : decode cX7_sortSymbol 5 = .ok (.aload_n 1, 1) := by decide +kernel
theorem dX7_sortSymbol_6 : decode cX7_sortSymbol 6 = .ok (.iload_n 2, 1) := by decide +kernel
theorem dX7_sortSymbol_7 : decode cX7_sortSymbol 7 = .ok (.invokevirtual 63, 3) := by decide +kernel
theorem dX7_sortSymbol_10 : decode cX7_sortSymbol 10 = .ok (.istore 5, 2) := by decide +kernel
theorem dX7_sortSymbol_12 : decode cX7_sortSymbol 12 = .ok (.aload_n 1, 1) := by decide +kernel
theorem dX7_sortSymbol_13 : decode cX7_sortSymbol 13 = .ok (.iload_n 2, 1) := by decide +kernel
theorem dX7_sortSymbol_14 : decode cX7_sortSymbol 14 = .ok (.invokevirtual 59, 3) := by decide +kernel
theorem dX7_sortSymbol_17 : decode cX7_sortSymbol 17 = .ok (.iconst 3, 1) := by decide +kernel
theorem dX7_sortSymbol_18 : decode cX7_sortSymbol 18 = .ok (.if_icmp .ne 17, 3) := by decide +kernel
theorem dX7_sortSymbol_21 : decode cX7_sortSymbol 21 = .ok (.aload_n 0, 1) := by decide +kernel
theorem dX7_sortSymbol_22 : decode cX7_sortSymbol 22 = .ok (.dup, 1) := by decide +kernel
theorem dX7_sortSymbol_23 : decode cX7_sortSymbol 23 = .ok (.getfield 93, 3) := by decide +kernel
theorem dX7_sortSymbol_26 : decode cX7_sortSymbol 26 = .ok (.iload 4, 2) := by decide +kernel
theorem dX7_sortSymbol_28 : decode cX7_sortSymbol 28 = .ok (.ior, 1) := by decide +kernel
theorem dX7_sortSymbol_29 : decode cX7_sortSymbol 29 = .ok (.putfield 93, 3) := by decide +kernel
theorem dX7_sortSymbol_32 : decode cX7_sortSymbol 32 = .ok (.goto 130, 3) := by decide +kernel
theorem dX7_sortSymbol_35 : decode cX7_sortSymbol 35 = .ok (.iload 5, 2) := by decide +kernel
theorem dX7_sortSymbol_37 : decode cX7_sortSymbol 37 = .ok (.invokestatic 102, 3) := by decide +kernel
theorem dX7_sortSymbol_40 : decode cX7_sortSymbol 40 = .ok (.ifCond .eq 27, 3) := by decide +kernel
theorem dX7_sortSymbol_43 : decode cX7_sortSymbol 43 = .ok (.aload_n 1, 1) := by decide +kernel
theorem dX7_sortSymbol_44 : decode cX7_sortSymbol 44 = .ok (.iload_n 2, 1) := by decide +kernel
theorem dX7_sortSymbol_45 : decode cX7_sortSymbol 45 = .ok (.invokevirtual 59, 3) := by decide +kernel
theorem dX7_sortSymbol_48 : decode cX7_sortSymbol 48 = .ok (.iconst 2, 1) := by decide +kernel
theorem dX7_sortSymbol_49 : decode cX7_sortSymbol 49 = .ok (.if_icmp .ne 18, 3) := by decide +kernel
theorem dX7_sortSymbol_52 : decode cX7_sortSymbol 52 = .ok (.aload_n 0, 1) := by decide +kernel
theorem dX7_sortSymbol_53 : decode cX7_sortSymbol 53 = .ok (.getfield 27, 3) := by decide +kernel
theorem dX7_sortSymbol_56 : decode cX7_sortSymbol 56 = .ok (.iload 5, 2) := by decide +kernel
theorem dX7_sortSymbol_58 : decode cX7_sortSymbol 58 = .ok (.dup2, 1) := by decide +kernel
theorem dX7_sortSymbol_59 : decode cX7_sortSymbol 59 = .ok (.iaload, 1) := by decide +kernel
theorem dX7_sortSymbol_60 : decode cX7_sortSymbol 60 = .ok (.iload 4, 2) := by decide +kernel
theorem dX7_sortSymbol_62 : decode cX7_sortSymbol 62 = .ok (.ior, 1) := by decide +kernel
theorem dX7_sortSymbol_63 : decode cX7_sortSymbol 63 = .ok (.iastore, 1) := by decide +kernel
theorem dX7_sortSymbol_64 : decode cX7_sortSymbol 64 = .ok (.goto 98, 3) := by decide +kernel
theorem dX7_sortSymbol_67 : decode cX7_sortSymbol 67 = .ok (.iload 5, 2) := by decide +kernel
theorem dX7_sortSymbol_69 : decode cX7_sortSymbol 69 = .ok (.invokestatic 102, 3) := by decide +kernel
theorem dX7_sortSymbol_72 : decode cX7_sortSymbol 72 = .ok (.ifCond .eq 26, 3) := by decide +kernel
theorem dX7_sortSymbol_75 : decode cX7_sortSymbol 75 = .ok (.aload_n 1, 1) := by decide +kernel
theorem dX7_sortSymbol_76 : decode cX7_sortSymbol 76 = .ok (.iload_n 2, 1) := by decide +kernel
theorem dX7_sortSymbol_77 : decode cX7_sortSymbol 77 = .ok (.invokevirtual 105, 3) := by decide +kernel
theorem dX7_sortSymbol_80 : decode cX7_sortSymbol 80 = .ok (.ifCond .eq 18, 3) := by decide +kernel
theorem dX7_sortSymbol_83 : decode cX7_sortSymbol 83 = .ok (.aload_n 0, 1) := by decide +kernel
theorem dX7_sortSymbol_84 : decode cX7_sortSymbol 84 = .ok (.getfield 30, 3) := by decide +kernel
theorem dX7_sortSymbol_87 : decode cX7_sortSymbol 87 = .ok (.iload 5, 2) := by decide +kernel
theorem dX7_sortSymbol_89 : decode cX7_sortSymbol 89 = .ok (.dup2, 1) := by decide +kernel
theorem dX7_sortSymbol_90 : decode cX7_sortSymbol 90 = .ok (.iaload, 1) := by decide +kernel
theorem dX7_sortSymbol_91 : decode cX7_sortSymbol 91 = .ok (.iload 4, 2) := by decide +kernel
theorem dX7_sortSymbol_93 : decode cX7_sortSymbol 93 = .ok (.ior, 1) := by decide +kernel
theorem dX7_sortSymbol_94 : decode cX7_sortSymbol 94 = .ok (.iastore, 1) := by decide +kernel
theorem dX7_sortSymbol_95 : decode cX7_sortSymbol 95 = .ok (.goto 67, 3) := by decide +kernel
theorem dX7_sortSymbol_98 : decode cX7_sortSymbol 98 = .ok (.iload 5, 2) := by decide +kernel
theorem dX7_sortSymbol_100 : decode cX7_sortSymbol 100 = .ok (.invokestatic 102, 3) := by decide +kernel
theorem dX7_sortSymbol_103 : decode cX7_sortSymbol 103 = .ok (.ifCond .eq 59, 3) := by decide +kernel
theorem dX7_sortSymbol_106 : decode cX7_sortSymbol 106 = .ok (.aload_n 0, 1) := by decide +kernel
theorem dX7_sortSymbol_107 : decode cX7_sortSymbol 107 = .ok (.getfield 24, 3) := by decide +kernel
theorem dX7_sortSymbol_110 : decode cX7_sortSymbol 110 = .ok (.iload 5, 2) := by decide +kernel
theorem dX7_sortSymbol_112 : decode cX7_sortSymbol 112 = .ok (.dup2, 1) := by decide +kernel
theorem dX7_sortSymbol_113 : decode cX7_sortSymbol 113 = .ok (.iaload, 1) := by decide +kernel
theorem dX7_sortSymbol_114 : decode cX7_sortSymbol 114 = .ok (.iload 4, 2) := by decide +kernel
theorem dX7_sortSymbol_116 : decode cX7_sortSymbol 116 = .ok (.ior, 1) := by decide +kernel
theorem dX7_sortSymbol_117 : decode cX7_sortSymbol 117 = .ok (.iastore, 1) := by decide +kernel
theorem dX7_sortSymbol_118 : decode cX7_sortSymbol 118 = .ok (.aload_n 0, 1) := by decide +kernel
theorem dX7_sortSymbol_119 : decode cX7_sortSymbol 119 = .ok (.getfield 33, 3) := by decide +kernel
theorem dX7_sortSymbol_122 : decode cX7_sortSymbol 122 = .ok (.iload 5, 2) := by decide +kernel
theorem dX7_sortSymbol_124 : decode cX7_sortSymbol 124 = .ok (.dup2, 1) := by decide +kernel
theorem dX7_sortSymbol_125 : decode cX7_sortSymbol 125 = .ok (.iaload, 1) := by decide +kernel
theorem dX7_sortSymbol_126 : decode cX7_sortSymbol 126 = .ok (.iload_n 3, 1) := by decide +kernel
theorem dX7_sortSymbol_127 : decode cX7_sortSymbol 127 = .ok (.iload 5, 2) := by decide +kernel
theorem dX7_sortSymbol_129 : decode cX7_sortSymbol 129 = .ok (.if_icmp .ge 8, 3) := by decide +kernel
theorem dX7_sortSymbol_132 : decode cX7_sortSymbol 132 = .ok (.iload 4, 2) := by decide +kernel
theorem dX7_sortSymbol_134 : decode cX7_sortSymbol 134 = .ok (.goto 4, 3) := by decide +kernel
theorem dX7_sortSymbol_137 : decode cX7_sortSymbol 137 = .ok (.iconst 0, 1) := by decide +kernel
theorem dX7_sortSymbol_138 : decode cX7_sortSymbol 138 = .ok (.ior, 1) := by decide +kernel
theorem dX7_sortSymbol_139 : decode cX7_sortSymbol 139 = .ok (.iastore, 1) := by decide +kernel
theorem dX7_sortSymbol_140 : decode cX7_sortSymbol 140 = .ok (.aload_n 0, 1) := by decide +kernel
theorem dX7_sortSymbol_141 : decode cX7_sortSymbol 141 = .ok (.getfield 36, 3) := by decide +kernel
theorem dX7_sortSymbol_144 : decode cX7_sortSymbol 144 = .ok (.iload 5, 2) := by decide +kernel
theorem dX7_sortSymbol_146 : decode cX7_sortSymbol 146 = .ok (.dup2, 1) := by decide +kernel
theorem dX7_sortSymbol_147 : decode cX7_sortSymbol 147 = .ok (.iaload, 1) := by decide +kernel
theorem dX7_sortSymbol_148 : decode cX7_sortSymbol 148 = .ok (.iload_n 3, 1) := by decide +kernel
theorem dX7_sortSymbol_149 : decode cX7_sortSymbol 149 = .ok (.iload 5, 2) := by decide +kernel
theorem dX7_sortSymbol_151 : decode cX7_sortSymbol 151 = .ok (.if_icmp .eq 8, 3) := by decide +kernel
theorem dX7_sortSymbol_154 : decode cX7_sortSymbol 154 = .ok (.iload 4, 2) := by decide +kernel
theorem dX7_sortSymbol_156 : decode cX7_sortSymbol 156 = .ok (.goto 4, 3) := by decide +kernel
theorem dX7_sortSymbol_159 : decode cX7_sortSymbol 159 = .ok (.iconst 0, 1) := by decide +kernel
theorem dX7_sortSymbol_160 : decode cX7_sortSymbol 160 = .ok (.ior, 1) := by decide +kernel
theorem dX7_sortSymbol_161 : decode cX7_sortSymbol 161 = .ok (.iastore, 1) := by decide +kernel
theorem dX7_sortSymbol_162 : decode cX7_sortSymbol 162 = .ok (.return_, 1) := by decide +kernel
theorem dX7_alteredOf_0 : decode cX7_alteredOf 0 = .ok (.iload_n 1, 1) := by decide +kernel
theorem dX7_alteredOf_1 : decode cX7_alteredOf 1 = .ok (.invokestatic 102, 3) := by decide +kernel
theorem dX7_alteredOf_4 : decode cX7_alteredOf 4 = .ok (.ifCond .eq 12, 3) := by decide +kernel
theorem dX7_alteredOf_7 : decode cX7_alteredOf 7 = .ok (.aload_n 0, 1) := by decide +kernel
theorem dX7_alteredOf_8 : decode cX7_alteredOf 8 = .ok (.getfield 33, 3) := by decide +kernel
theorem dX7_alteredOf_11 : decode cX7_alteredOf 11 = .ok (.iload_n 1, 1) := by decide +kernel
theorem dX7_alteredOf_12 : decode cX7_alteredOf 12 = .ok (.iaload, 1) := by decide +kernel
theorem dX7_alteredOf_13 : decode cX7_alteredOf 13 = .ok (.goto 4, 3) := by decide +kernel
theorem dX7_alteredOf_16 : decode cX7_alteredOf 16 = .ok (.iconst 0, 1) := by decide +kernel
theorem dX7_alteredOf_17 : decode cX7_alteredOf 17 = .ok (.ireturn, 1) := by decide +kernel
theorem dX7_lateImperfectOf_0 : decode cX7_lateImperfectOf 0 = .ok (.iload_n 1, 1) := by decide +kernel
theorem dX7_lateImperfectOf_1 : decode cX7_lateImperfectOf 1 = .ok (.invokestatic 102, 3) := by decide +kernel
theorem dX7_lateImperfectOf_4 : decode cX7_lateImperfectOf 4 = .ok (.ifCond .eq 12, 3) := by decide +kernel
theorem dX7_lateImperfectOf_7 : decode cX7_lateImperfectOf 7 = .ok (.aload_n 0, 1) := by decide +kernel
theorem dX7_lateImperfectOf_8 : decode cX7_lateImperfectOf 8 = .ok (.getfield 36, 3) := by decide +kernel
theorem dX7_lateImperfectOf_11 : decode cX7_lateImperfectOf 11 = .ok (.iload_n 1, 1) := by decide +kernel
theorem dX7_lateImperfectOf_12 : decode cX7_lateImperfectOf 12 = .ok (.iaload, 1) := by decide +kernel
theorem dX7_lateImperfectOf_13 : decode cX7_lateImperfectOf 13 = .ok (.goto 4, 3) := by decide +kernel
theorem dX7_lateImperfectOf_16 : decode cX7_lateImperfectOf 16 = .ok (.iconst 0, 1) := by decide +kernel
theorem dX7_lateImperfectOf_17 : decode cX7_lateImperfectOf 17 = .ok (.ireturn, 1) := by decide +kernel
theorem dX7_dottedOf_0 : decode cX7_dottedOf 0 = .ok (.iload_n 1, 1) := by decide +kernel
theorem dX7_dottedOf_1 : decode cX7_dottedOf 1 = .ok (.invokestatic 102, 3) := by decide +kernel
theorem dX7_dottedOf_4 : decode cX7_dottedOf 4 = .ok (.ifCond .eq 19, 3) := by decide +kernel
theorem dX7_dottedOf_7 : decode cX7_dottedOf 7 = .ok (.aload_n 0, 1) := by decide +kernel
theorem dX7_dottedOf_8 : decode cX7_dottedOf 8 = .ok (.getfield 24, 3) := by decide +kernel
theorem dX7_dottedOf_11 : decode cX7_dottedOf 11 = .ok (.iload_n 1, 1) := by decide +kernel
theorem dX7_dottedOf_12 : decode cX7_dottedOf 12 = .ok (.iaload, 1) := by decide +kernel
theorem dX7_dottedOf_13 : decode cX7_dottedOf 13 = .ok (.aload_n 0, 1) := by decide +kernel
theorem dX7_dottedOf_14 : decode cX7_dottedOf 14 = .ok (.getfield 93, 3) := by decide +kernel
theorem dX7_dottedOf_17 : decode cX7_dottedOf 17 = .ok (.iconst 1, 1) := by decide +kernel
theorem dX7_dottedOf_18 : decode cX7_dottedOf 18 = .ok (.ishr, 1) := by decide +kernel
theorem dX7_dottedOf_19 : decode cX7_dottedOf 19 = .ok (.iand, 1) := by decide +kernel
theorem dX7_dottedOf_20 : decode cX7_dottedOf 20 = .ok (.goto 4, 3) := by decide +kernel
theorem dX7_dottedOf_23 : decode cX7_dottedOf 23 = .ok (.iconst 0, 1) := by decide +kernel
theorem dX7_dottedOf_24 : decode cX7_dottedOf 24 = .ok (.ireturn, 1) := by decide +kernel
theorem dX7_endsOf_0 : decode cX7_endsOf 0 = .ok (.iload_n 1, 1) := by decide +kernel
theorem dX7_endsOf_1 : decode cX7_endsOf 1 = .ok (.invokestatic 102, 3) := by decide +kernel
theorem dX7_endsOf_4 : decode cX7_endsOf 4 = .ok (.ifCond .eq 27, 3) := by decide +kernel
theorem dX7_endsOf_7 : decode cX7_endsOf 7 = .ok (.iload_n 2, 1) := by decide +kernel
theorem dX7_endsOf_8 : decode cX7_endsOf 8 = .ok (.ifCond .lt 23, 3) := by decide +kernel
theorem dX7_endsOf_11 : decode cX7_endsOf 11 = .ok (.iload_n 2, 1) := by decide +kernel
theorem dX7_endsOf_12 : decode cX7_endsOf 12 = .ok (.bipush 19, 2) := by decide +kernel
theorem dX7_endsOf_14 : decode cX7_endsOf 14 = .ok (.if_icmp .ge 17, 3) := by decide +kernel
theorem dX7_endsOf_17 : decode cX7_endsOf 17 = .ok (.iload_n 3, 1) := by decide +kernel
theorem dX7_endsOf_18 : decode cX7_endsOf 18 = .ok (.ifCond .lt 13, 3) := by decide +kernel
theorem dX7_endsOf_21 : decode cX7_endsOf 21 = .ok (.iload_n 3, 1) := by decide +kernel
theorem dX7_endsOf_22 : decode cX7_endsOf 22 = .ok (.bipush 27, 2) := by decide +kernel
theorem dX7_endsOf_24 : decode cX7_endsOf 24 = .ok (.if_icmp .ge 7, 3) := by decide +kernel
theorem dX7_endsOf_27 : decode cX7_endsOf 27 = .ok (.iconst 1, 1) := by decide +kernel
theorem dX7_endsOf_28 : decode cX7_endsOf 28 = .ok (.goto 4, 3) := by decide +kernel
theorem dX7_endsOf_31 : decode cX7_endsOf 31 = .ok (.iconst 0, 1) := by decide +kernel
theorem dX7_endsOf_32 : decode cX7_endsOf 32 = .ok (.istore 4, 2) := by decide +kernel
theorem dX7_endsOf_34 : decode cX7_endsOf 34 = .ok (.iload 4, 2) := by decide +kernel
theorem dX7_endsOf_36 : decode cX7_endsOf 36 = .ok (.ifCond .eq 22, 3) := by decide +kernel
theorem dX7_endsOf_39 : decode cX7_endsOf 39 = .ok (.aload_n 0, 1) := by decide +kernel
theorem dX7_endsOf_40 : decode cX7_endsOf 40 = .ok (.getfield 11, 3) := by decide +kernel
theorem dX7_endsOf_43 : decode cX7_endsOf 43 = .ok (.iload_n 1, 1) := by decide +kernel
theorem dX7_endsOf_44 : decode cX7_endsOf 44 = .ok (.bipush 19, 2) := by decide +kernel
theorem dX7_endsOf_46 : decode cX7_endsOf 46 = .ok (.imul, 1) := by decide +kernel
theorem dX7_endsOf_47 : decode cX7_endsOf 47 = .ok (.iload_n 2, 1) := by decide +kernel
theorem dX7_endsOf_48 : decode cX7_endsOf 48 = .ok (.iadd, 1) := by decide +kernel
theorem dX7_endsOf_49 : decode cX7_endsOf 49 = .ok (.bipush 27, 2) := by decide +kernel
theorem dX7_endsOf_51 : decode cX7_endsOf 51 = .ok (.imul, 1) := by decide +kernel
theorem dX7_endsOf_52 : decode cX7_endsOf 52 = .ok (.iload_n 3, 1) := by decide +kernel
theorem dX7_endsOf_53 : decode cX7_endsOf 53 = .ok (.iadd, 1) := by decide +kernel
theorem dX7_endsOf_54 : decode cX7_endsOf 54 = .ok (.iaload, 1) := by decide +kernel
theorem dX7_endsOf_55 : decode cX7_endsOf 55 = .ok (.goto 4, 3) := by decide +kernel
theorem dX7_endsOf_58 : decode cX7_endsOf 58 = .ok (.iconst 0, 1) := by decide +kernel
theorem dX7_endsOf_59 : decode cX7_endsOf 59 = .ok (.ireturn, 1) := by decide +kernel
theorem dX7_before_0 : decode cX7_before 0 = .ok (.iconst 0, 1) := by decide +kernel
theorem dX7_before_1 : decode cX7_before 1 = .ok (.istore 4, 2) := by decide +kernel
theorem dX7_before_3 : decode cX7_before 3 = .ok (.iload_n 2, 1) := by decide +kernel
theorem dX7_before_4 : decode cX7_before 4 = .ok (.bipush 27, 2) := by decide +kernel
theorem dX7_before_6 : decode cX7_before 6 = .ok (.imul, 1) := by decide +kernel
theorem dX7_before_7 : decode cX7_before 7 = .ok (.istore 5, 2) := by decide +kernel
theorem dX7_before_9 : decode cX7_before 9 = .ok (.iconst 0, 1) := by decide +kernel
theorem dX7_before_10 : decode cX7_before 10 = .ok (.istore 6, 2) := by decide +kernel
theorem dX7_before_12 : decode cX7_before 12 = .ok (.iload 6, 2) := by decide +kernel
theorem dX7_before_14 : decode cX7_before 14 = .ok (.aload_n 0, 1) := by decide +kernel
theorem dX7_before_15 : decode cX7_before 15 = .ok (.getfield 54, 3) := by decide +kernel
theorem dX7_before_18 : decode cX7_before 18 = .ok (.if_icmp .ge 49, 3) := by decide +kernel
theorem dX7_before_21 : decode cX7_before 21 = .ok (.iload 5, 2) := by decide +kernel
theorem dX7_before_23 : decode cX7_before 23 = .ok (.ifCond .lt 44, 3) := by decide +kernel
theorem dX7_before_26 : decode cX7_before 26 = .ok (.iload 5, 2) := by decide +kernel
theorem dX7_before_28 : decode cX7_before 28 = .ok (.iload 6, 2) := by decide +kernel
theorem dX7_before_30 : decode cX7_before 30 = .ok (.iadd, 1) := by decide +kernel
theorem dX7_before_31 : decode cX7_before 31 = .ok (.aload_n 1, 1) := by decide +kernel
theorem dX7_before_32 : decode cX7_before 32 = .ok (.arraylength, 1) := by decide +kernel
theorem dX7_before_33 : decode cX7_before 33 = .ok (.if_icmp .ge 34, 3) := by decide +kernel
theorem dX7_before_36 : decode cX7_before 36 = .ok (.iload 4, 2) := by decide +kernel
theorem dX7_before_38 : decode cX7_before 38 = .ok (.aload_n 1, 1) := by decide +kernel
theorem dX7_before_39 : decode cX7_before 39 = .ok (.iload 5, 2) := by decide +kernel
theorem dX7_before_41 : decode cX7_before 41 = .ok (.iload 6, 2) := by decide +kernel
theorem dX7_before_43 : decode cX7_before 43 = .ok (.iadd, 1) := by decide +kernel
theorem dX7_before_44 : decode cX7_before 44 = .ok (.iaload, 1) := by decide +kernel
theorem dX7_before_45 : decode cX7_before 45 = .ok (.iload_n 3, 1) := by decide +kernel
theorem dX7_before_46 : decode cX7_before 46 = .ok (.iand, 1) := by decide +kernel
theorem dX7_before_47 : decode cX7_before 47 = .ok (.ifCond .eq 10, 3) := by decide +kernel
theorem dX7_before_50 : decode cX7_before 50 = .ok (.iconst 1, 1) := by decide +kernel
theorem dX7_before_51 : decode cX7_before 51 = .ok (.iload 6, 2) := by decide +kernel
theorem dX7_before_53 : decode cX7_before 53 = .ok (.ishl, 1) := by decide +kernel
theorem dX7_before_54 : decode cX7_before 54 = .ok (.goto 4, 3) := by decide +kernel
theorem dX7_before_57 : decode cX7_before 57 = .ok (.iconst 0, 1) := by decide +kernel
theorem dX7_before_58 : decode cX7_before 58 = .ok (.ior, 1) := by decide +kernel
theorem dX7_before_59 : decode cX7_before 59 = .ok (.istore 4, 2) := by decide +kernel
theorem dX7_before_61 : decode cX7_before 61 = .ok (.iinc 6 1, 3) := by decide +kernel
theorem dX7_before_64 : decode cX7_before 64 = .ok (.goto (-52), 3) := by decide +kernel
theorem dX7_before_67 : decode cX7_before 67 = .ok (.iload 4, 2) := by decide +kernel
theorem dX7_before_69 : decode cX7_before 69 = .ok (.ireturn, 1) := by decide +kernel
theorem dX7_after_0 : decode cX7_after 0 = .ok (.iconst 0, 1) := by decide +kernel
theorem dX7_after_1 : decode cX7_after 1 = .ok (.istore 4, 2) := by decide +kernel
theorem dX7_after_3 : decode cX7_after 3 = .ok (.iload_n 2, 1) := by decide +kernel
theorem dX7_after_4 : decode cX7_after 4 = .ok (.bipush 27, 2) := by decide +kernel
theorem dX7_after_6 : decode cX7_after 6 = .ok (.imul, 1) := by decide +kernel
theorem dX7_after_7 : decode cX7_after 7 = .ok (.istore 5, 2) := by decide +kernel
theorem dX7_after_9 : decode cX7_after 9 = .ok (.iconst 0, 1) := by decide +kernel
theorem dX7_after_10 : decode cX7_after 10 = .ok (.istore 6, 2) := by decide +kernel
theorem dX7_after_12 : decode cX7_after 12 = .ok (.iload 6, 2) := by decide +kernel
theorem dX7_after_14 : decode cX7_after 14 = .ok (.aload_n 0, 1) := by decide +kernel
theorem dX7_after_15 : decode cX7_after 15 = .ok (.getfield 54, 3) := by decide +kernel
theorem dX7_after_18 : decode cX7_after 18 = .ok (.if_icmp .ge 49, 3) := by decide +kernel
theorem dX7_after_21 : decode cX7_after 21 = .ok (.iload 5, 2) := by decide +kernel
theorem dX7_after_23 : decode cX7_after 23 = .ok (.ifCond .lt 44, 3) := by decide +kernel
theorem dX7_after_26 : decode cX7_after 26 = .ok (.iload 5, 2) := by decide +kernel
theorem dX7_after_28 : decode cX7_after 28 = .ok (.iload 6, 2) := by decide +kernel
theorem dX7_after_30 : decode cX7_after 30 = .ok (.iadd, 1) := by decide +kernel
theorem dX7_after_31 : decode cX7_after 31 = .ok (.aload_n 1, 1) := by decide +kernel
theorem dX7_after_32 : decode cX7_after 32 = .ok (.arraylength, 1) := by decide +kernel
theorem dX7_after_33 : decode cX7_after 33 = .ok (.if_icmp .ge 34, 3) := by decide +kernel
theorem dX7_after_36 : decode cX7_after 36 = .ok (.iload 4, 2) := by decide +kernel
theorem dX7_after_38 : decode cX7_after 38 = .ok (.iload_n 3, 1) := by decide +kernel
theorem dX7_after_39 : decode cX7_after 39 = .ok (.iload 6, 2) := by decide +kernel
theorem dX7_after_41 : decode cX7_after 41 = .ok (.ishr, 1) := by decide +kernel
theorem dX7_after_42 : decode cX7_after 42 = .ok (.iconst 1, 1) := by decide +kernel
theorem dX7_after_43 : decode cX7_after 43 = .ok (.iand, 1) := by decide +kernel
theorem dX7_after_44 : decode cX7_after 44 = .ok (.ifCond .eq 13, 3) := by decide +kernel
theorem dX7_after_47 : decode cX7_after 47 = .ok (.aload_n 1, 1) := by decide +kernel
theorem dX7_after_48 : decode cX7_after 48 = .ok (.iload 5, 2) := by decide +kernel
theorem dX7_after_50 : decode cX7_after 50 = .ok (.iload 6, 2) := by decide +kernel
theorem dX7_after_52 : decode cX7_after 52 = .ok (.iadd, 1) := by decide +kernel
theorem dX7_after_53 : decode cX7_after 53 = .ok (.iaload, 1) := by decide +kernel
theorem dX7_after_54 : decode cX7_after 54 = .ok (.goto 4, 3) := by decide +kernel
theorem dX7_after_57 : decode cX7_after 57 = .ok (.iconst 0, 1) := by decide +kernel
theorem dX7_after_58 : decode cX7_after 58 = .ok (.ior, 1) := by decide +kernel
theorem dX7_after_59 : decode cX7_after 59 = .ok (.istore 4, 2) := by decide +kernel
theorem dX7_after_61 : decode cX7_after 61 = .ok (.iinc 6 1, 3) := by decide +kernel
theorem dX7_after_64 : decode cX7_after 64 = .ok (.goto (-52), 3) := by decide +kernel
theorem dX7_after_67 : decode cX7_after 67 = .ok (.iload 4, 2) := by decide +kernel
theorem dX7_after_69 : decode cX7_after 69 = .ok (.ireturn, 1) := by decide +kernel
theorem dX7_endsIn_0 : decode cX7_endsIn 0 = .ok (.iload_n 1, 1) := by decide +kernel
theorem dX7_endsIn_1 : decode cX7_endsIn 1 = .ok (.bipush 27, 2) := by decide +kernel
theorem dX7_endsIn_3 : decode cX7_endsIn 3 = .ok (.imul, 1) := by decide +kernel
theorem dX7_endsIn_4 : decode cX7_endsIn 4 = .ok (.iload_n 2, 1) := by decide +kernel
theorem dX7_endsIn_5 : decode cX7_endsIn 5 = .ok (.iadd, 1) := by decide +kernel
theorem dX7_endsIn_6 : decode cX7_endsIn 6 = .ok (.istore_n 3, 1) := by decide +kernel
theorem dX7_endsIn_7 : decode cX7_endsIn 7 = .ok (.iload_n 2, 1) := by decide +kernel
theorem dX7_endsIn_8 : decode cX7_endsIn 8 = .ok (.ifCond .lt 19, 3) := by decide +kernel
theorem dX7_endsIn_11 : decode cX7_endsIn 11 = .ok (.iload_n 2, 1) := by decide +kernel
theorem dX7_endsIn_12 : decode cX7_endsIn 12 = .ok (.bipush 27, 2) := by decide +kernel
theorem dX7_endsIn_14 : decode cX7_endsIn 14 = .ok (.if_icmp .ge 13, 3) := by decide +kernel
theorem dX7_endsIn_17 : decode cX7_endsIn 17 = .ok (.iload_n 3, 1) := by decide +kernel
theorem dX7_endsIn_18 : decode cX7_endsIn 18 = .ok (.ifCond .lt 9, 3) := by decide +kernel
theorem dX7_endsIn_21 : decode cX7_endsIn 21 = .ok (.iload_n 3, 1) := by decide +kernel
theorem dX7_endsIn_22 : decode cX7_endsIn 22 = .ok (.aload_n 0, 1) := by decide +kernel
theorem dX7_endsIn_23 : decode cX7_endsIn 23 = .ok (.arraylength, 1) := by decide +kernel
theorem dX7_endsIn_24 : decode cX7_endsIn 24 = .ok (.if_icmp .lt 7, 3) := by decide +kernel
theorem dX7_endsIn_27 : decode cX7_endsIn 27 = .ok (.iconst 0, 1) := by decide +kernel
theorem dX7_endsIn_28 : decode cX7_endsIn 28 = .ok (.goto 6, 3) := by decide +kernel
theorem dX7_endsIn_31 : decode cX7_endsIn 31 = .ok (.aload_n 0, 1) := by decide +kernel
theorem dX7_endsIn_32 : decode cX7_endsIn 32 = .ok (.iload_n 3, 1) := by decide +kernel
theorem dX7_endsIn_33 : decode cX7_endsIn 33 = .ok (.iaload, 1) := by decide +kernel
theorem dX7_endsIn_34 : decode cX7_endsIn 34 = .ok (.ireturn, 1) := by decide +kernel
theorem dX7_keep_0 : decode cX7_keep 0 = .ok (.iload_n 2, 1) := by decide +kernel
theorem dX7_keep_1 : decode cX7_keep 1 = .ok (.bipush 27, 2) := by decide +kernel
theorem dX7_keep_3 : decode cX7_keep 3 = .ok (.imul, 1) := by decide +kernel
theorem dX7_keep_4 : decode cX7_keep 4 = .ok (.iload 4, 2) := by decide +kernel
theorem dX7_keep_6 : decode cX7_keep 6 = .ok (.iadd, 1) := by decide +kernel
theorem dX7_keep_7 : decode cX7_keep 7 = .ok (.istore 6, 2) := by decide +kernel
theorem dX7_keep_9 : decode cX7_keep 9 = .ok (.iload_n 2, 1) := by decide +kernel
theorem dX7_keep_10 : decode cX7_keep 10 = .ok (.bipush 19, 2) := by decide +kernel
theorem dX7_keep_12 : decode cX7_keep 12 = .ok (.imul, 1) := by decide +kernel
theorem dX7_keep_13 : decode cX7_keep 13 = .ok (.iload_n 3, 1) := by decide +kernel
theorem dX7_keep_14 : decode cX7_keep 14 = .ok (.iadd, 1) := by decide +kernel
theorem dX7_keep_15 : decode cX7_keep 15 = .ok (.bipush 27, 2) := by decide +kernel
theorem dX7_keep_17 : decode cX7_keep 17 = .ok (.imul, 1) := by decide +kernel
theorem dX7_keep_18 : decode cX7_keep 18 = .ok (.iload 4, 2) := by decide +kernel
theorem dX7_keep_20 : decode cX7_keep 20 = .ok (.iadd, 1) := by decide +kernel
theorem dX7_keep_21 : decode cX7_keep 21 = .ok (.istore 7, 2) := by decide +kernel
theorem dX7_keep_23 : decode cX7_keep 23 = .ok (.iload 6, 2) := by decide +kernel
theorem dX7_keep_25 : decode cX7_keep 25 = .ok (.ifCond .lt 43, 3) := by decide +kernel
theorem dX7_keep_28 : decode cX7_keep 28 = .ok (.iload 6, 2) := by decide +kernel
theorem dX7_keep_30 : decode cX7_keep 30 = .ok (.aload_n 1, 1) := by decide +kernel
theorem dX7_keep_31 : decode cX7_keep 31 = .ok (.arraylength, 1) := by decide +kernel
theorem dX7_keep_32 : decode cX7_keep 32 = .ok (.if_icmp .ge 36, 3) := by decide +kernel
theorem dX7_keep_35 : decode cX7_keep 35 = .ok (.iload 7, 2) := by decide +kernel
theorem dX7_keep_37 : decode cX7_keep 37 = .ok (.ifCond .lt 31, 3) := by decide +kernel
theorem dX7_keep_40 : decode cX7_keep 40 = .ok (.iload 7, 2) := by decide +kernel
theorem dX7_keep_42 : decode cX7_keep 42 = .ok (.aload_n 0, 1) := by decide +kernel
theorem dX7_keep_43 : decode cX7_keep 43 = .ok (.getfield 11, 3) := by decide +kernel
theorem dX7_keep_46 : decode cX7_keep 46 = .ok (.arraylength, 1) := by decide +kernel
theorem dX7_keep_47 : decode cX7_keep 47 = .ok (.if_icmp .ge 21, 3) := by decide +kernel
theorem dX7_keep_50 : decode cX7_keep 50 = .ok (.aload_n 1, 1) := by decide +kernel
theorem dX7_keep_51 : decode cX7_keep 51 = .ok (.iload 6, 2) := by decide +kernel
theorem dX7_keep_53 : decode cX7_keep 53 = .ok (.dup2, 1) := by decide +kernel
theorem dX7_keep_54 : decode cX7_keep 54 = .ok (.iaload, 1) := by decide +kernel
theorem dX7_keep_55 : decode cX7_keep 55 = .ok (.iload 5, 2) := by decide +kernel
theorem dX7_keep_57 : decode cX7_keep 57 = .ok (.ior, 1) := by decide +kernel
theorem dX7_keep_58 : decode cX7_keep 58 = .ok (.iastore, 1) := by decide +kernel
theorem dX7_keep_59 : decode cX7_keep 59 = .ok (.aload_n 0, 1) := by decide +kernel
theorem dX7_keep_60 : decode cX7_keep 60 = .ok (.getfield 11, 3) := by decide +kernel
theorem dX7_keep_63 : decode cX7_keep 63 = .ok (.iload 7, 2) := by decide +kernel
theorem dX7_keep_65 : decode cX7_keep 65 = .ok (.iload 5, 2) := by decide +kernel
theorem dX7_keep_67 : decode cX7_keep 67 = .ok (.iastore, 1) := by decide +kernel
theorem dX7_keep_68 : decode cX7_keep 68 = .ok (.return_, 1) := by decide +kernel
theorem dX7_keepDivided_0 : decode cX7_keepDivided 0 = .ok (.aload_n 0, 1) := by decide +kernel
theorem dX7_keepDivided_1 : decode cX7_keepDivided 1 = .ok (.aload_n 0, 1) := by decide +kernel
theorem dX7_keepDivided_2 : decode cX7_keepDivided 2 = .ok (.getfield 15, 3) := by decide +kernel
theorem dX7_keepDivided_5 : decode cX7_keepDivided 5 = .ok (.iload_n 1, 1) := by decide +kernel
theorem dX7_keepDivided_6 : decode cX7_keepDivided 6 = .ok (.iload_n 2, 1) := by decide +kernel
theorem dX7_keepDivided_7 : decode cX7_keepDivided 7 = .ok (.iload_n 3, 1) := by decide +kernel
theorem dX7_keepDivided_8 : decode cX7_keepDivided 8 = .ok (.iload 4, 2) := by decide +kernel
theorem dX7_keepDivided_10 : decode cX7_keepDivided 10 = .ok (.iload 4, 2) := by decide +kernel
theorem dX7_keepDivided_12 : decode cX7_keepDivided 12 = .ok (.aload_n 0, 1) := by decide +kernel
theorem dX7_keepDivided_13 : decode cX7_keepDivided 13 = .ok (.getfield 93, 3) := by decide +kernel
theorem dX7_keepDivided_16 : decode cX7_keepDivided 16 = .ok (.iand, 1) := by decide +kernel
theorem dX7_keepDivided_17 : decode cX7_keepDivided 17 = .ok (.iconst 1, 1) := by decide +kernel
theorem dX7_keepDivided_18 : decode cX7_keepDivided 18 = .ok (.ishl, 1) := by decide +kernel
theorem dX7_keepDivided_19 : decode cX7_keepDivided 19 = .ok (.ior, 1) := by decide +kernel
theorem dX7_keepDivided_20 : decode cX7_keepDivided 20 = .ok (.invokevirtual 108, 3) := by decide +kernel
theorem dX7_keepDivided_23 : decode cX7_keepDivided 23 = .ok (.return_, 1) := by decide +kernel
theorem dX7_startsIn_0 : decode cX7_startsIn 0 = .ok (.iload_n 2, 1) := by decide +kernel
theorem dX7_startsIn_1 : decode cX7_startsIn 1 = .ok (.ifCond .lt 9, 3) := by decide +kernel
theorem dX7_startsIn_4 : decode cX7_startsIn 4 = .ok (.iload_n 2, 1) := by decide +kernel
theorem dX7_startsIn_5 : decode cX7_startsIn 5 = .ok (.aload_n 1, 1) := by decide +kernel
theorem dX7_startsIn_6 : decode cX7_startsIn 6 = .ok (.arraylength, 1) := by decide +kernel
theorem dX7_startsIn_7 : decode cX7_startsIn 7 = .ok (.if_icmp .lt 7, 3) := by decide +kernel
theorem dX7_startsIn_10 : decode cX7_startsIn 10 = .ok (.iconst 0, 1) := by decide +kernel
theorem dX7_startsIn_11 : decode cX7_startsIn 11 = .ok (.goto 10, 3) := by decide +kernel
theorem dX7_startsIn_14 : decode cX7_startsIn 14 = .ok (.aload_n 1, 1) := by decide +kernel
theorem dX7_startsIn_15 : decode cX7_startsIn 15 = .ok (.iload_n 2, 1) := by decide +kernel
theorem dX7_startsIn_16 : decode cX7_startsIn 16 = .ok (.iaload, 1) := by decide +kernel
theorem dX7_startsIn_17 : decode cX7_startsIn 17 = .ok (.iconst 1, 1) := by decide +kernel
theorem dX7_startsIn_18 : decode cX7_startsIn 18 = .ok (.iload_n 3, 1) := by decide +kernel
theorem dX7_startsIn_19 : decode cX7_startsIn 19 = .ok (.ishl, 1) := by decide +kernel
theorem dX7_startsIn_20 : decode cX7_startsIn 20 = .ok (.iand, 1) := by decide +kernel
theorem dX7_startsIn_21 : decode cX7_startsIn 21 = .ok (.ireturn, 1) := by decide +kernel
theorem dX7_fillThird_0 : decode cX7_fillThird 0 = .ok (.iload_n 1, 1) := by decide +kernel
theorem dX7_fillThird_1 : decode cX7_fillThird 1 = .ok (.bipush 6, 2) := by decide +kernel
theorem dX7_fillThird_3 : decode cX7_fillThird 3 = .ok (.if_icmp .ge 14, 3) := by decide +kernel
theorem dX7_fillThird_6 : decode cX7_fillThird 6 = .ok (.aload_n 0, 1) := by decide +kernel
theorem dX7_fillThird_7 : decode cX7_fillThird 7 = .ok (.getfield 30, 3) := by decide +kernel
theorem dX7_fillThird_10 : decode cX7_fillThird 10 = .ok (.iload_n 1, 1) := by decide +kernel
theorem dX7_fillThird_11 : decode cX7_fillThird 11 = .ok (.iconst 1, 1) := by decide +kernel
theorem dX7_fillThird_12 : decode cX7_fillThird 12 = .ok (.iadd, 1) := by decide +kernel
theorem dX7_fillThird_13 : decode cX7_fillThird 13 = .ok (.iaload, 1) := by decide +kernel
theorem dX7_fillThird_14 : decode cX7_fillThird 14 = .ok (.goto 4, 3) := by decide +kernel
theorem dX7_fillThird_17 : decode cX7_fillThird 17 = .ok (.iconst 0, 1) := by decide +kernel
theorem dX7_fillThird_18 : decode cX7_fillThird 18 = .ok (.istore_n 3, 1) := by decide +kernel
theorem dX7_fillThird_19 : decode cX7_fillThird 19 = .ok (.aload_n 0, 1) := by decide +kernel
theorem dX7_fillThird_20 : decode cX7_fillThird 20 = .ok (.aload_n 0, 1) := by decide +kernel
theorem dX7_fillThird_21 : decode cX7_fillThird 21 = .ok (.getfield 21, 3) := by decide +kernel
theorem dX7_fillThird_24 : decode cX7_fillThird 24 = .ok (.iload_n 1, 1) := by decide +kernel
theorem dX7_fillThird_25 : decode cX7_fillThird 25 = .ok (.bipush 16, 2) := by decide +kernel
theorem dX7_fillThird_27 : decode cX7_fillThird 27 = .ok (.iload_n 2, 1) := by decide +kernel
theorem dX7_fillThird_28 : decode cX7_fillThird 28 = .ok (.aload_n 0, 1) := by decide +kernel
theorem dX7_fillThird_29 : decode cX7_fillThird 29 = .ok (.aload_n 0, 1) := by decide +kernel
theorem dX7_fillThird_30 : decode cX7_fillThird 30 = .ok (.getfield 30, 3) := by decide +kernel
theorem dX7_fillThird_33 : decode cX7_fillThird 33 = .ok (.iload_n 1, 1) := by decide +kernel
theorem dX7_fillThird_34 : decode cX7_fillThird 34 = .ok (.iload_n 2, 1) := by decide +kernel
theorem dX7_fillThird_35 : decode cX7_fillThird 35 = .ok (.invokevirtual 112, 3) := by decide +kernel
theorem dX7_fillThird_38 : decode cX7_fillThird 38 = .ok (.iconst 1, 1) := by decide +kernel
theorem dX7_fillThird_39 : decode cX7_fillThird 39 = .ok (.ishl, 1) := by decide +kernel
theorem dX7_fillThird_40 : decode cX7_fillThird 40 = .ok (.invokevirtual 108, 3) := by decide +kernel
theorem dX7_fillThird_43 : decode cX7_fillThird 43 = .ok (.aload_n 0, 1) := by decide +kernel
theorem dX7_fillThird_44 : decode cX7_fillThird 44 = .ok (.aload_n 0, 1) := by decide +kernel
theorem dX7_fillThird_45 : decode cX7_fillThird 45 = .ok (.getfield 21, 3) := by decide +kernel
theorem dX7_fillThird_48 : decode cX7_fillThird 48 = .ok (.iload_n 1, 1) := by decide +kernel
theorem dX7_fillThird_49 : decode cX7_fillThird 49 = .ok (.bipush 17, 2) := by decide +kernel
theorem dX7_fillThird_51 : decode cX7_fillThird 51 = .ok (.iload_n 2, 1) := by decide +kernel
theorem dX7_fillThird_52 : decode cX7_fillThird 52 = .ok (.iload_n 3, 1) := by decide +kernel
theorem dX7_fillThird_53 : decode cX7_fillThird 53 = .ok (.iload_n 3, 1) := by decide +kernel
theorem dX7_fillThird_54 : decode cX7_fillThird 54 = .ok (.iconst 1, 1) := by decide +kernel
theorem dX7_fillThird_55 : decode cX7_fillThird 55 = .ok (.ishr, 1) := by decide +kernel
theorem dX7_fillThird_56 : decode cX7_fillThird 56 = .ok (.iand, 1) := by decide +kernel
theorem dX7_fillThird_57 : decode cX7_fillThird 57 = .ok (.iconst 1, 1) := by decide +kernel
theorem dX7_fillThird_58 : decode cX7_fillThird 58 = .ok (.iload_n 2, 1) := by decide +kernel
theorem dX7_fillThird_59 : decode cX7_fillThird 59 = .ok (.ishl, 1) := by decide +kernel
theorem dX7_fillThird_60 : decode cX7_fillThird 60 = .ok (.iand, 1) := by decide +kernel
theorem dX7_fillThird_61 : decode cX7_fillThird 61 = .ok (.iconst 2, 1) := by decide +kernel
theorem dX7_fillThird_62 : decode cX7_fillThird 62 = .ok (.ishl, 1) := by decide +kernel
theorem dX7_fillThird_63 : decode cX7_fillThird 63 = .ok (.invokevirtual 108, 3) := by decide +kernel
theorem dX7_fillThird_66 : decode cX7_fillThird 66 = .ok (.return_, 1) := by decide +kernel
theorem dX7_fillPair_0 : decode cX7_fillPair 0 = .ok (.aload_n 0, 1) := by decide +kernel
theorem dX7_fillPair_1 : decode cX7_fillPair 1 = .ok (.aload_n 0, 1) := by decide +kernel
theorem dX7_fillPair_2 : decode cX7_fillPair 2 = .ok (.getfield 18, 3) := by decide +kernel
theorem dX7_fillPair_5 : decode cX7_fillPair 5 = .ok (.iload_n 1, 1) := by decide +kernel
theorem dX7_fillPair_6 : decode cX7_fillPair 6 = .ok (.bipush 15, 2) := by decide +kernel
theorem dX7_fillPair_8 : decode cX7_fillPair 8 = .ok (.iload_n 2, 1) := by decide +kernel
theorem dX7_fillPair_9 : decode cX7_fillPair 9 = .ok (.aload_n 0, 1) := by decide +kernel
theorem dX7_fillPair_10 : decode cX7_fillPair 10 = .ok (.aload_n 0, 1) := by decide +kernel
theorem dX7_fillPair_11 : decode cX7_fillPair 11 = .ok (.getfield 21, 3) := by decide +kernel
theorem dX7_fillPair_14 : decode cX7_fillPair 14 = .ok (.iload_n 1, 1) := by decide +kernel
theorem dX7_fillPair_15 : decode cX7_fillPair 15 = .ok (.aload_n 0, 1) := by decide +kernel
theorem dX7_fillPair_16 : decode cX7_fillPair 16 = .ok (.aload_n 0, 1) := by decide +kernel
theorem dX7_fillPair_17 : decode cX7_fillPair 17 = .ok (.getfield 21, 3) := by decide +kernel
theorem dX7_fillPair_20 : decode cX7_fillPair 20 = .ok (.iload_n 1, 1) := by decide +kernel
theorem dX7_fillPair_21 : decode cX7_fillPair 21 = .ok (.aload_n 0, 1) := by decide +kernel
theorem dX7_fillPair_22 : decode cX7_fillPair 22 = .ok (.getfield 21, 3) := by decide +kernel
theorem dX7_fillPair_25 : decode cX7_fillPair 25 = .ok (.iload_n 1, 1) := by decide +kernel
theorem dX7_fillPair_26 : decode cX7_fillPair 26 = .ok (.iload_n 2, 1) := by decide +kernel
theorem dX7_fillPair_27 : decode cX7_fillPair 27 = .ok (.invokestatic 116, 3) := by decide +kernel
theorem dX7_fillPair_30 : decode cX7_fillPair 30 = .ok (.invokevirtual 119, 3) := by decide +kernel
theorem dX7_fillPair_33 : decode cX7_fillPair 33 = .ok (.invokevirtual 119, 3) := by decide +kernel
theorem dX7_fillPair_36 : decode cX7_fillPair 36 = .ok (.invokevirtual 108, 3) := by decide +kernel
theorem dX7_fillPair_39 : decode cX7_fillPair 39 = .ok (.return_, 1) := by decide +kernel
theorem dX7_fillGreater_0 : decode cX7_fillGreater 0 = .ok (.aload_n 0, 1) := by decide +kernel
theorem dX7_fillGreater_1 : decode cX7_fillGreater 1 = .ok (.aload_n 0, 1) := by decide +kernel
theorem dX7_fillGreater_2 : decode cX7_fillGreater 2 = .ok (.getfield 15, 3) := by decide +kernel
theorem dX7_fillGreater_5 : decode cX7_fillGreater 5 = .ok (.iload_n 1, 1) := by decide +kernel
theorem dX7_fillGreater_6 : decode cX7_fillGreater 6 = .ok (.iconst 1, 1) := by decide +kernel
theorem dX7_fillGreater_7 : decode cX7_fillGreater 7 = .ok (.iload_n 2, 1) := by decide +kernel
theorem dX7_fillGreater_8 : decode cX7_fillGreater 8 = .ok (.aload_n 0, 1) := by decide +kernel
theorem dX7_fillGreater_9 : decode cX7_fillGreater 9 = .ok (.aload_n 0, 1) := by decide +kernel
theorem dX7_fillGreater_10 : decode cX7_fillGreater 10 = .ok (.getfield 24, 3) := by decide +kernel
theorem dX7_fillGreater_13 : decode cX7_fillGreater 13 = .ok (.iload_n 1, 1) := by decide +kernel
theorem dX7_fillGreater_14 : decode cX7_fillGreater 14 = .ok (.iload_n 2, 1) := by decide +kernel
theorem dX7_fillGreater_15 : decode cX7_fillGreater 15 = .ok (.invokevirtual 112, 3) := by decide +kernel
theorem dX7_fillGreater_18 : decode cX7_fillGreater 18 = .ok (.iconst 1, 1) := by decide +kernel
theorem dX7_fillGreater_19 : decode cX7_fillGreater 19 = .ok (.ishl, 1) := by decide +kernel
theorem dX7_fillGreater_20 : decode cX7_fillGreater 20 = .ok (.invokevirtual 108, 3) := by decide +kernel
theorem dX7_fillGreater_23 : decode cX7_fillGreater 23 = .ok (.aload_n 0, 1) := by decide +kernel
theorem dX7_fillGreater_24 : decode cX7_fillGreater 24 = .ok (.aload_n 0, 1) := by decide +kernel
theorem dX7_fillGreater_25 : decode cX7_fillGreater 25 = .ok (.getfield 15, 3) := by decide +kernel
theorem dX7_fillGreater_28 : decode cX7_fillGreater 28 = .ok (.iload_n 1, 1) := by decide +kernel
theorem dX7_fillGreater_29 : decode cX7_fillGreater 29 = .ok (.iconst 2, 1) := by decide +kernel
theorem dX7_fillGreater_30 : decode cX7_fillGreater 30 = .ok (.iload_n 2, 1) := by decide +kernel
theorem dX7_fillGreater_31 : decode cX7_fillGreater 31 = .ok (.aload_n 0, 1) := by decide +kernel
theorem dX7_fillGreater_32 : decode cX7_fillGreater 32 = .ok (.aload_n 0, 1) := by decide +kernel
theorem dX7_fillGreater_33 : decode cX7_fillGreater 33 = .ok (.getfield 27, 3) := by decide +kernel
theorem dX7_fillGreater_36 : decode cX7_fillGreater 36 = .ok (.iload_n 1, 1) := by decide +kernel
theorem dX7_fillGreater_37 : decode cX7_fillGreater 37 = .ok (.iload_n 2, 1) := by decide +kernel
theorem dX7_fillGreater_38 : decode cX7_fillGreater 38 = .ok (.invokevirtual 112, 3) := by decide +kernel
theorem dX7_fillGreater_41 : decode cX7_fillGreater 41 = .ok (.iconst 1, 1) := by decide +kernel
theorem dX7_fillGreater_42 : decode cX7_fillGreater 42 = .ok (.ishl, 1) := by decide +kernel
theorem dX7_fillGreater_43 : decode cX7_fillGreater 43 = .ok (.invokevirtual 108, 3) := by decide +kernel
theorem dX7_fillGreater_46 : decode cX7_fillGreater 46 = .ok (.aload_n 0, 1) := by decide +kernel
theorem dX7_fillGreater_47 : decode cX7_fillGreater 47 = .ok (.aload_n 0, 1) := by decide +kernel
theorem dX7_fillGreater_48 : decode cX7_fillGreater 48 = .ok (.getfield 15, 3) := by decide +kernel
theorem dX7_fillGreater_51 : decode cX7_fillGreater 51 = .ok (.iload_n 1, 1) := by decide +kernel
theorem dX7_fillGreater_52 : decode cX7_fillGreater 52 = .ok (.bipush 18, 2) := by decide +kernel
theorem dX7_fillGreater_54 : decode cX7_fillGreater 54 = .ok (.iload_n 2, 1) := by decide +kernel
theorem dX7_fillGreater_55 : decode cX7_fillGreater 55 = .ok (.aload_n 0, 1) := by decide +kernel
theorem dX7_fillGreater_56 : decode cX7_fillGreater 56 = .ok (.iload_n 1, 1) := by decide +kernel
theorem dX7_fillGreater_57 : decode cX7_fillGreater 57 = .ok (.invokevirtual 122, 3) := by decide +kernel
theorem dX7_fillGreater_60 : decode cX7_fillGreater 60 = .ok (.iconst 1, 1) := by decide +kernel
theorem dX7_fillGreater_61 : decode cX7_fillGreater 61 = .ok (.iload_n 2, 1) := by decide +kernel
theorem dX7_fillGreater_62 : decode cX7_fillGreater 62 = .ok (.ishl, 1) := by decide +kernel
theorem dX7_fillGreater_63 : decode cX7_fillGreater 63 = .ok (.iand, 1) := by decide +kernel
theorem dX7_fillGreater_64 : decode cX7_fillGreater 64 = .ok (.iconst 2, 1) := by decide +kernel
theorem dX7_fillGreater_65 : decode cX7_fillGreater 65 = .ok (.ishl, 1) := by decide +kernel
theorem dX7_fillGreater_66 : decode cX7_fillGreater 66 = .ok (.invokevirtual 108, 3) := by decide +kernel
theorem dX7_fillGreater_69 : decode cX7_fillGreater 69 = .ok (.return_, 1) := by decide +kernel
theorem dX7_fillImperfect_0 : decode cX7_fillImperfect 0 = .ok (.aload_n 0, 1) := by decide +kernel
theorem dX7_fillImperfect_1 : decode cX7_fillImperfect 1 = .ok (.getfield 15, 3) := by decide +kernel
theorem dX7_fillImperfect_4 : decode cX7_fillImperfect 4 = .ok (.iload_n 1, 1) := by decide +kernel
theorem dX7_fillImperfect_5 : decode cX7_fillImperfect 5 = .ok (.iconst 1, 1) := by decide +kernel
theorem dX7_fillImperfect_6 : decode cX7_fillImperfect 6 = .ok (.iadd, 1) := by decide +kernel
theorem dX7_fillImperfect_7 : decode cX7_fillImperfect 7 = .ok (.iload_n 2, 1) := by decide +kernel
theorem dX7_fillImperfect_8 : decode cX7_fillImperfect 8 = .ok (.invokestatic 116, 3) := by decide +kernel
theorem dX7_fillImperfect_11 : decode cX7_fillImperfect 11 = .ok (.istore_n 3, 1) := by decide +kernel
theorem dX7_fillImperfect_12 : decode cX7_fillImperfect 12 = .ok (.aload_n 0, 1) := by decide +kernel
theorem dX7_fillImperfect_13 : decode cX7_fillImperfect 13 = .ok (.iload_n 1, 1) := by decide +kernel
theorem dX7_fillImperfect_14 : decode cX7_fillImperfect 14 = .ok (.invokevirtual 122, 3) := by decide +kernel
theorem dX7_fillImperfect_17 : decode cX7_fillImperfect 17 = .ok (.istore 4, 2) := by decide +kernel
theorem dX7_fillImperfect_19 : decode cX7_fillImperfect 19 = .ok (.aload_n 0, 1) := by decide +kernel
theorem dX7_fillImperfect_20 : decode cX7_fillImperfect 20 = .ok (.aload_n 0, 1) := by decide +kernel
theorem dX7_fillImperfect_21 : decode cX7_fillImperfect 21 = .ok (.getfield 15, 3) := by decide +kernel
theorem dX7_fillImperfect_24 : decode cX7_fillImperfect 24 = .ok (.iload_n 1, 1) := by decide +kernel
theorem dX7_fillImperfect_25 : decode cX7_fillImperfect 25 = .ok (.iconst 1, 1) := by decide +kernel
theorem dX7_fillImperfect_26 : decode cX7_fillImperfect 26 = .ok (.iload_n 2, 1) := by decide +kernel
theorem dX7_fillImperfect_27 : decode cX7_fillImperfect 27 = .ok (.aload_n 0, 1) := by decide +kernel
theorem dX7_fillImperfect_28 : decode cX7_fillImperfect 28 = .ok (.aload_n 0, 1) := by decide +kernel
theorem dX7_fillImperfect_29 : decode cX7_fillImperfect 29 = .ok (.getfield 24, 3) := by decide +kernel
theorem dX7_fillImperfect_32 : decode cX7_fillImperfect 32 = .ok (.iload_n 1, 1) := by decide +kernel
theorem dX7_fillImperfect_33 : decode cX7_fillImperfect 33 = .ok (.iload_n 2, 1) := by decide +kernel
theorem dX7_fillImperfect_34 : decode cX7_fillImperfect 34 = .ok (.invokevirtual 112, 3) := by decide +kernel
theorem dX7_fillImperfect_37 : decode cX7_fillImperfect 37 = .ok (.iconst 1, 1) := by decide +kernel
theorem dX7_fillImperfect_38 : decode cX7_fillImperfect 38 = .ok (.ishl, 1) := by decide +kernel
theorem dX7_fillImperfect_39 : decode cX7_fillImperfect 39 = .ok (.invokevirtual 108, 3) := by decide +kernel
theorem dX7_fillImperfect_42 : decode cX7_fillImperfect 42 = .ok (.aload_n 0, 1) := by decide +kernel
theorem dX7_fillImperfect_43 : decode cX7_fillImperfect 43 = .ok (.aload_n 0, 1) := by decide +kernel
theorem dX7_fillImperfect_44 : decode cX7_fillImperfect 44 = .ok (.getfield 15, 3) := by decide +kernel
theorem dX7_fillImperfect_47 : decode cX7_fillImperfect 47 = .ok (.iload_n 1, 1) := by decide +kernel
theorem dX7_fillImperfect_48 : decode cX7_fillImperfect 48 = .ok (.iconst 2, 1) := by decide +kernel
theorem dX7_fillImperfect_49 : decode cX7_fillImperfect 49 = .ok (.iload_n 2, 1) := by decide +kernel
theorem dX7_fillImperfect_50 : decode cX7_fillImperfect 50 = .ok (.aload_n 0, 1) := by decide +kernel
theorem dX7_fillImperfect_51 : decode cX7_fillImperfect 51 = .ok (.aload_n 0, 1) := by decide +kernel
theorem dX7_fillImperfect_52 : decode cX7_fillImperfect 52 = .ok (.getfield 27, 3) := by decide +kernel
theorem dX7_fillImperfect_55 : decode cX7_fillImperfect 55 = .ok (.iload_n 1, 1) := by decide +kernel
theorem dX7_fillImperfect_56 : decode cX7_fillImperfect 56 = .ok (.iload_n 2, 1) := by decide +kernel
theorem dX7_fillImperfect_57 : decode cX7_fillImperfect 57 = .ok (.invokevirtual 112, 3) := by decide +kernel
theorem dX7_fillImperfect_60 : decode cX7_fillImperfect 60 = .ok (.iconst 1, 1) := by decide +kernel
theorem dX7_fillImperfect_61 : decode cX7_fillImperfect 61 = .ok (.ishl, 1) := by decide +kernel
theorem dX7_fillImperfect_62 : decode cX7_fillImperfect 62 = .ok (.invokevirtual 108, 3) := by decide +kernel
theorem dX7_fillImperfect_65 : decode cX7_fillImperfect 65 = .ok (.aload_n 0, 1) := by decide +kernel
theorem dX7_fillImperfect_66 : decode cX7_fillImperfect 66 = .ok (.aload_n 0, 1) := by decide +kernel
theorem dX7_fillImperfect_67 : decode cX7_fillImperfect 67 = .ok (.getfield 15, 3) := by decide +kernel
theorem dX7_fillImperfect_70 : decode cX7_fillImperfect 70 = .ok (.iload_n 1, 1) := by decide +kernel
theorem dX7_fillImperfect_71 : decode cX7_fillImperfect 71 = .ok (.iconst 4, 1) := by decide +kernel
theorem dX7_fillImperfect_72 : decode cX7_fillImperfect 72 = .ok (.iload_n 2, 1) := by decide +kernel
theorem dX7_fillImperfect_73 : decode cX7_fillImperfect 73 = .ok (.aload_n 0, 1) := by decide +kernel
theorem dX7_fillImperfect_74 : decode cX7_fillImperfect 74 = .ok (.aload_n 0, 1) := by decide +kernel
theorem dX7_fillImperfect_75 : decode cX7_fillImperfect 75 = .ok (.getfield 15, 3) := by decide +kernel
theorem dX7_fillImperfect_78 : decode cX7_fillImperfect 78 = .ok (.iload_n 1, 1) := by decide +kernel
theorem dX7_fillImperfect_79 : decode cX7_fillImperfect 79 = .ok (.iconst 1, 1) := by decide +kernel
theorem dX7_fillImperfect_80 : decode cX7_fillImperfect 80 = .ok (.iadd, 1) := by decide +kernel
theorem dX7_fillImperfect_81 : decode cX7_fillImperfect 81 = .ok (.iload_n 3, 1) := by decide +kernel
theorem dX7_fillImperfect_82 : decode cX7_fillImperfect 82 = .ok (.invokevirtual 119, 3) := by decide +kernel
theorem dX7_fillImperfect_85 : decode cX7_fillImperfect 85 = .ok (.invokevirtual 108, 3) := by decide +kernel
theorem dX7_fillImperfect_88 : decode cX7_fillImperfect 88 = .ok (.aload_n 0, 1) := by decide +kernel
theorem dX7_fillImperfect_89 : decode cX7_fillImperfect 89 = .ok (.aload_n 0, 1) := by decide +kernel
theorem dX7_fillImperfect_90 : decode cX7_fillImperfect 90 = .ok (.getfield 15, 3) := by decide +kernel
theorem dX7_fillImperfect_93 : decode cX7_fillImperfect 93 = .ok (.iload_n 1, 1) := by decide +kernel
theorem dX7_fillImperfect_94 : decode cX7_fillImperfect 94 = .ok (.iconst 5, 1) := by decide +kernel
theorem dX7_fillImperfect_95 : decode cX7_fillImperfect 95 = .ok (.iload_n 2, 1) := by decide +kernel
theorem dX7_fillImperfect_96 : decode cX7_fillImperfect 96 = .ok (.aload_n 0, 1) := by decide +kernel
theorem dX7_fillImperfect_97 : decode cX7_fillImperfect 97 = .ok (.getfield 18, 3) := by decide +kernel
theorem dX7_fillImperfect_100 : decode cX7_fillImperfect 100 = .ok (.iload_n 1, 1) := by decide +kernel
theorem dX7_fillImperfect_101 : decode cX7_fillImperfect 101 = .ok (.iconst 1, 1) := by decide +kernel
theorem dX7_fillImperfect_102 : decode cX7_fillImperfect 102 = .ok (.iadd, 1) := by decide +kernel
theorem dX7_fillImperfect_103 : decode cX7_fillImperfect 103 = .ok (.iload_n 2, 1) := by decide +kernel
theorem dX7_fillImperfect_104 : decode cX7_fillImperfect 104 = .ok (.invokestatic 116, 3) := by decide +kernel
theorem dX7_fillImperfect_107 : decode cX7_fillImperfect 107 = .ok (.invokevirtual 108, 3) := by decide +kernel
theorem dX7_fillImperfect_110 : decode cX7_fillImperfect 110 = .ok (.aload_n 0, 1) := by decide +kernel
theorem dX7_fillImperfect_111 : decode cX7_fillImperfect 111 = .ok (.aload_n 0, 1) := by decide +kernel
theorem dX7_fillImperfect_112 : decode cX7_fillImperfect 112 = .ok (.getfield 18, 3) := by decide +kernel
theorem dX7_fillImperfect_115 : decode cX7_fillImperfect 115 = .ok (.iload_n 1, 1) := by decide +kernel
theorem dX7_fillImperfect_116 : decode cX7_fillImperfect 116 = .ok (.bipush 13, 2) := by decide +kernel
theorem dX7_fillImperfect_118 : decode cX7_fillImperfect 118 = .ok (.iload_n 2, 1) := by decide +kernel
theorem dX7_fillImperfect_119 : decode cX7_fillImperfect 119 = .ok (.iload 4, 2) := by decide +kernel
theorem dX7_fillImperfect_121 : decode cX7_fillImperfect 121 = .ok (.iconst 1, 1) := by decide +kernel
theorem dX7_fillImperfect_122 : decode cX7_fillImperfect 122 = .ok (.iload_n 2, 1) := by decide +kernel
theorem dX7_fillImperfect_123 : decode cX7_fillImperfect 123 = .ok (.ishl, 1) := by decide +kernel
theorem dX7_fillImperfect_124 : decode cX7_fillImperfect 124 = .ok (.iand, 1) := by decide +kernel
theorem dX7_fillImperfect_125 : decode cX7_fillImperfect 125 = .ok (.ifCond .eq 19, 3) := by decide +kernel
theorem dX7_fillImperfect_128 : decode cX7_fillImperfect 128 = .ok (.aload_n 0, 1) := by decide +kernel
theorem dX7_fillImperfect_129 : decode cX7_fillImperfect 129 = .ok (.getfield 15, 3) := by decide +kernel
theorem dX7_fillImperfect_132 : decode cX7_fillImperfect 132 = .ok (.iload_n 1, 1) := by decide +kernel
theorem dX7_fillImperfect_133 : decode cX7_fillImperfect 133 = .ok (.iconst 1, 1) := by decide +kernel
theorem dX7_fillImperfect_134 : decode cX7_fillImperfect 134 = .ok (.iadd, 1) := by decide +kernel
theorem dX7_fillImperfect_135 : decode cX7_fillImperfect 135 = .ok (.iload_n 2, 1) := by decide +kernel
theorem dX7_fillImperfect_136 : decode cX7_fillImperfect 136 = .ok (.iconst 2, 1) := by decide +kernel
theorem dX7_fillImperfect_137 : decode cX7_fillImperfect 137 = .ok (.iadd, 1) := by decide +kernel
theorem dX7_fillImperfect_138 : decode cX7_fillImperfect 138 = .ok (.invokestatic 116, 3) := by decide +kernel
theorem dX7_fillImperfect_141 : decode cX7_fillImperfect 141 = .ok (.goto 4, 3) := by decide +kernel
theorem dX7_fillImperfect_144 : decode cX7_fillImperfect 144 = .ok (.iconst 0, 1) := by decide +kernel
theorem dX7_fillImperfect_145 : decode cX7_fillImperfect 145 = .ok (.invokevirtual 108, 3) := by decide +kernel
theorem dX7_fillImperfect_148 : decode cX7_fillImperfect 148 = .ok (.aload_n 0, 1) := by decide +kernel
theorem dX7_fillImperfect_149 : decode cX7_fillImperfect 149 = .ok (.aload_n 0, 1) := by decide +kernel
theorem dX7_fillImperfect_150 : decode cX7_fillImperfect 150 = .ok (.getfield 18, 3) := by decide +kernel
theorem dX7_fillImperfect_153 : decode cX7_fillImperfect 153 = .ok (.iload_n 1, 1) := by decide +kernel
theorem dX7_fillImperfect_154 : decode cX7_fillImperfect 154 = .ok (.bipush 14, 2) := by decide +kernel
theorem dX7_fillImperfect_156 : decode cX7_fillImperfect 156 = .ok (.iload_n 2, 1) := by decide +kernel
theorem dX7_fillImperfect_157 : decode cX7_fillImperfect 157 = .ok (.iload_n 3, 1) := by decide +kernel
theorem dX7_fillImperfect_158 : decode cX7_fillImperfect 158 = .ok (.iload 4, 2) := by decide +kernel
theorem dX7_fillImperfect_160 : decode cX7_fillImperfect 160 = .ok (.iand, 1) := by decide +kernel
theorem dX7_fillImperfect_161 : decode cX7_fillImperfect 161 = .ok (.iconst 2, 1) := by decide +kernel
theorem dX7_fillImperfect_162 : decode cX7_fillImperfect 162 = .ok (.ishl, 1) := by decide +kernel
theorem dX7_fillImperfect_163 : decode cX7_fillImperfect 163 = .ok (.invokevirtual 108, 3) := by decide +kernel
theorem dX7_fillImperfect_166 : decode cX7_fillImperfect 166 = .ok (.return_, 1) := by decide +kernel
theorem dX7_fillPerfect_0 : decode cX7_fillPerfect 0 = .ok (.aload_n 0, 1) := by decide +kernel
theorem dX7_fillPerfect_1 : decode cX7_fillPerfect 1 = .ok (.getfield 15, 3) := by decide +kernel
theorem dX7_fillPerfect_4 : decode cX7_fillPerfect 4 = .ok (.iload_n 1, 1) := by decide +kernel
theorem dX7_fillPerfect_5 : decode cX7_fillPerfect 5 = .ok (.iconst 1, 1) := by decide +kernel
theorem dX7_fillPerfect_6 : decode cX7_fillPerfect 6 = .ok (.iadd, 1) := by decide +kernel
theorem dX7_fillPerfect_7 : decode cX7_fillPerfect 7 = .ok (.iload_n 2, 1) := by decide +kernel
theorem dX7_fillPerfect_8 : decode cX7_fillPerfect 8 = .ok (.invokestatic 116, 3) := by decide +kernel
theorem dX7_fillPerfect_11 : decode cX7_fillPerfect 11 = .ok (.istore_n 3, 1) := by decide +kernel
theorem dX7_fillPerfect_12 : decode cX7_fillPerfect 12 = .ok (.aload_n 0, 1) := by decide +kernel
theorem dX7_fillPerfect_13 : decode cX7_fillPerfect 13 = .ok (.getfield 18, 3) := by decide +kernel
theorem dX7_fillPerfect_16 : decode cX7_fillPerfect 16 = .ok (.iload_n 1, 1) := by decide +kernel
theorem dX7_fillPerfect_17 : decode cX7_fillPerfect 17 = .ok (.iconst 1, 1) := by decide +kernel
theorem dX7_fillPerfect_18 : decode cX7_fillPerfect 18 = .ok (.iadd, 1) := by decide +kernel
theorem dX7_fillPerfect_19 : decode cX7_fillPerfect 19 = .ok (.iload_n 2, 1) := by decide +kernel
theorem dX7_fillPerfect_20 : decode cX7_fillPerfect 20 = .ok (.invokestatic 116, 3) := by decide +kernel
theorem dX7_fillPerfect_23 : decode cX7_fillPerfect 23 = .ok (.istore 4, 2) := by decide +kernel
theorem dX7_fillPerfect_25 : decode cX7_fillPerfect 25 = .ok (.aload_n 0, 1) := by decide +kernel
theorem dX7_fillPerfect_26 : decode cX7_fillPerfect 26 = .ok (.aload_n 0, 1) := by decide +kernel
theorem dX7_fillPerfect_27 : decode cX7_fillPerfect 27 = .ok (.getfield 24, 3) := by decide +kernel
theorem dX7_fillPerfect_30 : decode cX7_fillPerfect 30 = .ok (.iload_n 1, 1) := by decide +kernel
theorem dX7_fillPerfect_31 : decode cX7_fillPerfect 31 = .ok (.iload_n 2, 1) := by decide +kernel
theorem dX7_fillPerfect_32 : decode cX7_fillPerfect 32 = .ok (.invokevirtual 112, 3) := by decide +kernel
theorem dX7_fillPerfect_35 : decode cX7_fillPerfect 35 = .ok (.istore 5, 2) := by decide +kernel
theorem dX7_fillPerfect_37 : decode cX7_fillPerfect 37 = .ok (.aload_n 0, 1) := by decide +kernel
theorem dX7_fillPerfect_38 : decode cX7_fillPerfect 38 = .ok (.iload_n 1, 1) := by decide +kernel
theorem dX7_fillPerfect_39 : decode cX7_fillPerfect 39 = .ok (.iconst 1, 1) := by decide +kernel
theorem dX7_fillPerfect_40 : decode cX7_fillPerfect 40 = .ok (.iload_n 2, 1) := by decide +kernel
theorem dX7_fillPerfect_41 : decode cX7_fillPerfect 41 = .ok (.iload 5, 2) := by decide +kernel
theorem dX7_fillPerfect_43 : decode cX7_fillPerfect 43 = .ok (.iconst 1, 1) := by decide +kernel
theorem dX7_fillPerfect_44 : decode cX7_fillPerfect 44 = .ok (.ishl, 1) := by decide +kernel
theorem dX7_fillPerfect_45 : decode cX7_fillPerfect 45 = .ok (.invokevirtual 125, 3) := by decide +kernel
theorem dX7_fillPerfect_48 : decode cX7_fillPerfect 48 = .ok (.aload_n 0, 1) := by decide +kernel
theorem dX7_fillPerfect_49 : decode cX7_fillPerfect 49 = .ok (.iload_n 1, 1) := by decide +kernel
theorem dX7_fillPerfect_50 : decode cX7_fillPerfect 50 = .ok (.iconst 2, 1) := by decide +kernel
theorem dX7_fillPerfect_51 : decode cX7_fillPerfect 51 = .ok (.iload_n 2, 1) := by decide +kernel
theorem dX7_fillPerfect_52 : decode cX7_fillPerfect 52 = .ok (.aload_n 0, 1) := by decide +kernel
theorem dX7_fillPerfect_53 : decode cX7_fillPerfect 53 = .ok (.aload_n 0, 1) := by decide +kernel
theorem dX7_fillPerfect_54 : decode cX7_fillPerfect 54 = .ok (.getfield 27, 3) := by decide +kernel
theorem dX7_fillPerfect_57 : decode cX7_fillPerfect 57 = .ok (.iload_n 1, 1) := by decide +kernel
theorem dX7_fillPerfect_58 : decode cX7_fillPerfect 58 = .ok (.iload_n 2, 1) := by decide +kernel
theorem dX7_fillPerfect_59 : decode cX7_fillPerfect 59 = .ok (.invokevirtual 112, 3) := by decide +kernel
theorem dX7_fillPerfect_62 : decode cX7_fillPerfect 62 = .ok (.iconst 1, 1) := by decide +kernel
theorem dX7_fillPerfect_63 : decode cX7_fillPerfect 63 = .ok (.ishl, 1) := by decide +kernel
theorem dX7_fillPerfect_64 : decode cX7_fillPerfect 64 = .ok (.invokevirtual 125, 3) := by decide +kernel
theorem dX7_fillPerfect_67 : decode cX7_fillPerfect 67 = .ok (.aload_n 0, 1) := by decide +kernel
theorem dX7_fillPerfect_68 : decode cX7_fillPerfect 68 = .ok (.aload_n 0, 1) := by decide +kernel
theorem dX7_fillPerfect_69 : decode cX7_fillPerfect 69 = .ok (.getfield 15, 3) := by decide +kernel
theorem dX7_fillPerfect_72 : decode cX7_fillPerfect 72 = .ok (.iload_n 1, 1) := by decide +kernel
theorem dX7_fillPerfect_73 : decode cX7_fillPerfect 73 = .ok (.iconst 3, 1) := by decide +kernel
theorem dX7_fillPerfect_74 : decode cX7_fillPerfect 74 = .ok (.iload_n 2, 1) := by decide +kernel
theorem dX7_fillPerfect_75 : decode cX7_fillPerfect 75 = .ok (.aload_n 0, 1) := by decide +kernel
theorem dX7_fillPerfect_76 : decode cX7_fillPerfect 76 = .ok (.iload_n 1, 1) := by decide +kernel
theorem dX7_fillPerfect_77 : decode cX7_fillPerfect 77 = .ok (.invokevirtual 122, 3) := by decide +kernel
theorem dX7_fillPerfect_80 : decode cX7_fillPerfect 80 = .ok (.iconst 1, 1) := by decide +kernel
theorem dX7_fillPerfect_81 : decode cX7_fillPerfect 81 = .ok (.iload_n 2, 1) := by decide +kernel
theorem dX7_fillPerfect_82 : decode cX7_fillPerfect 82 = .ok (.ishl, 1) := by decide +kernel
theorem dX7_fillPerfect_83 : decode cX7_fillPerfect 83 = .ok (.iand, 1) := by decide +kernel
theorem dX7_fillPerfect_84 : decode cX7_fillPerfect 84 = .ok (.iconst 2, 1) := by decide +kernel
theorem dX7_fillPerfect_85 : decode cX7_fillPerfect 85 = .ok (.ishl, 1) := by decide +kernel
theorem dX7_fillPerfect_86 : decode cX7_fillPerfect 86 = .ok (.invokevirtual 108, 3) := by decide +kernel
theorem dX7_fillPerfect_89 : decode cX7_fillPerfect 89 = .ok (.aload_n 0, 1) := by decide +kernel
theorem dX7_fillPerfect_90 : decode cX7_fillPerfect 90 = .ok (.iload_n 1, 1) := by decide +kernel
theorem dX7_fillPerfect_91 : decode cX7_fillPerfect 91 = .ok (.bipush 6, 2) := by decide +kernel
theorem dX7_fillPerfect_93 : decode cX7_fillPerfect 93 = .ok (.iload_n 2, 1) := by decide +kernel
theorem dX7_fillPerfect_94 : decode cX7_fillPerfect 94 = .ok (.aload_n 0, 1) := by decide +kernel
theorem dX7_fillPerfect_95 : decode cX7_fillPerfect 95 = .ok (.aload_n 0, 1) := by decide +kernel
theorem dX7_fillPerfect_96 : decode cX7_fillPerfect 96 = .ok (.getfield 15, 3) := by decide +kernel
theorem dX7_fillPerfect_99 : decode cX7_fillPerfect 99 = .ok (.iload_n 1, 1) := by decide +kernel
theorem dX7_fillPerfect_100 : decode cX7_fillPerfect 100 = .ok (.iconst 1, 1) := by decide +kernel
theorem dX7_fillPerfect_101 : decode cX7_fillPerfect 101 = .ok (.iadd, 1) := by decide +kernel
theorem dX7_fillPerfect_102 : decode cX7_fillPerfect 102 = .ok (.aload_n 0, 1) := by decide +kernel
theorem dX7_fillPerfect_103 : decode cX7_fillPerfect 103 = .ok (.aload_n 0, 1) := by decide +kernel
theorem dX7_fillPerfect_104 : decode cX7_fillPerfect 104 = .ok (.getfield 15, 3) := by decide +kernel
theorem dX7_fillPerfect_107 : decode cX7_fillPerfect 107 = .ok (.iload_n 1, 1) := by decide +kernel
theorem dX7_fillPerfect_108 : decode cX7_fillPerfect 108 = .ok (.iconst 1, 1) := by decide +kernel
theorem dX7_fillPerfect_109 : decode cX7_fillPerfect 109 = .ok (.iadd, 1) := by decide +kernel
theorem dX7_fillPerfect_110 : decode cX7_fillPerfect 110 = .ok (.iload_n 3, 1) := by decide +kernel
theorem dX7_fillPerfect_111 : decode cX7_fillPerfect 111 = .ok (.invokevirtual 119, 3) := by decide +kernel
theorem dX7_fillPerfect_114 : decode cX7_fillPerfect 114 = .ok (.invokevirtual 119, 3) := by decide +kernel
theorem dX7_fillPerfect_117 : decode cX7_fillPerfect 117 = .ok (.invokevirtual 125, 3) := by decide +kernel
theorem dX7_fillPerfect_120 : decode cX7_fillPerfect 120 = .ok (.aload_n 0, 1) := by decide +kernel
theorem dX7_fillPerfect_121 : decode cX7_fillPerfect 121 = .ok (.iload_n 1, 1) := by decide +kernel
theorem dX7_fillPerfect_122 : decode cX7_fillPerfect 122 = .ok (.bipush 7, 2) := by decide +kernel
theorem dX7_fillPerfect_124 : decode cX7_fillPerfect 124 = .ok (.iload_n 2, 1) := by decide +kernel
theorem dX7_fillPerfect_125 : decode cX7_fillPerfect 125 = .ok (.iload 5, 2) := by decide +kernel
theorem dX7_fillPerfect_127 : decode cX7_fillPerfect 127 = .ok (.ifCond .eq 19, 3) := by decide +kernel
theorem dX7_fillPerfect_130 : decode cX7_fillPerfect 130 = .ok (.aload_n 0, 1) := by decide +kernel
theorem dX7_fillPerfect_131 : decode cX7_fillPerfect 131 = .ok (.getfield 15, 3) := by decide +kernel
theorem dX7_fillPerfect_134 : decode cX7_fillPerfect 134 = .ok (.iload_n 1, 1) := by decide +kernel
theorem dX7_fillPerfect_135 : decode cX7_fillPerfect 135 = .ok (.iconst 1, 1) := by decide +kernel
theorem dX7_fillPerfect_136 : decode cX7_fillPerfect 136 = .ok (.iadd, 1) := by decide +kernel
theorem dX7_fillPerfect_137 : decode cX7_fillPerfect 137 = .ok (.iload_n 2, 1) := by decide +kernel
theorem dX7_fillPerfect_138 : decode cX7_fillPerfect 138 = .ok (.iconst 1, 1) := by decide +kernel
theorem dX7_fillPerfect_139 : decode cX7_fillPerfect 139 = .ok (.iadd, 1) := by decide +kernel
theorem dX7_fillPerfect_140 : decode cX7_fillPerfect 140 = .ok (.invokestatic 116, 3) := by decide +kernel
theorem dX7_fillPerfect_143 : decode cX7_fillPerfect 143 = .ok (.goto 4, 3) := by decide +kernel
theorem dX7_fillPerfect_146 : decode cX7_fillPerfect 146 = .ok (.iconst 0, 1) := by decide +kernel
theorem dX7_fillPerfect_147 : decode cX7_fillPerfect 147 = .ok (.invokevirtual 125, 3) := by decide +kernel
theorem dX7_fillPerfect_150 : decode cX7_fillPerfect 150 = .ok (.aload_n 0, 1) := by decide +kernel
theorem dX7_fillPerfect_151 : decode cX7_fillPerfect 151 = .ok (.iload_n 1, 1) := by decide +kernel
theorem dX7_fillPerfect_152 : decode cX7_fillPerfect 152 = .ok (.bipush 8, 2) := by decide +kernel
theorem dX7_fillPerfect_154 : decode cX7_fillPerfect 154 = .ok (.iload_n 2, 1) := by decide +kernel
theorem dX7_fillPerfect_155 : decode cX7_fillPerfect 155 = .ok (.iload_n 3, 1) := by decide +kernel
theorem dX7_fillPerfect_156 : decode cX7_fillPerfect 156 = .ok (.aload_n 0, 1) := by decide +kernel
theorem dX7_fillPerfect_157 : decode cX7_fillPerfect 157 = .ok (.iload_n 1, 1) := by decide +kernel
theorem dX7_fillPerfect_158 : decode cX7_fillPerfect 158 = .ok (.iconst 1, 1) := by decide +kernel
theorem dX7_fillPerfect_159 : decode cX7_fillPerfect 159 = .ok (.iadd, 1) := by decide +kernel
theorem dX7_fillPerfect_160 : decode cX7_fillPerfect 160 = .ok (.invokevirtual 129, 3) := by decide +kernel
theorem dX7_fillPerfect_163 : decode cX7_fillPerfect 163 = .ok (.iand, 1) := by decide +kernel
theorem dX7_fillPerfect_164 : decode cX7_fillPerfect 164 = .ok (.iconst 1, 1) := by decide +kernel
theorem dX7_fillPerfect_165 : decode cX7_fillPerfect 165 = .ok (.ishl, 1) := by decide +kernel
theorem dX7_fillPerfect_166 : decode cX7_fillPerfect 166 = .ok (.invokevirtual 125, 3) := by decide +kernel
theorem dX7_fillPerfect_169 : decode cX7_fillPerfect 169 = .ok (.aload_n 0, 1) := by decide +kernel
theorem dX7_fillPerfect_170 : decode cX7_fillPerfect 170 = .ok (.iload_n 1, 1) := by decide +kernel
theorem dX7_fillPerfect_171 : decode cX7_fillPerfect 171 = .ok (.bipush 9, 2) := by decide +kernel
theorem dX7_fillPerfect_173 : decode cX7_fillPerfect 173 = .ok (.iload_n 2, 1) := by decide +kernel
theorem dX7_fillPerfect_174 : decode cX7_fillPerfect 174 = .ok (.iload_n 3, 1) := by decide +kernel
theorem dX7_fillPerfect_175 : decode cX7_fillPerfect 175 = .ok (.aload_n 0, 1) := by decide +kernel
theorem dX7_fillPerfect_176 : decode cX7_fillPerfect 176 = .ok (.iload_n 1, 1) := by decide +kernel
theorem dX7_fillPerfect_177 : decode cX7_fillPerfect 177 = .ok (.invokevirtual 132, 3) := by decide +kernel
theorem dX7_fillPerfect_180 : decode cX7_fillPerfect 180 = .ok (.iand, 1) := by decide +kernel
theorem dX7_fillPerfect_181 : decode cX7_fillPerfect 181 = .ok (.iconst 1, 1) := by decide +kernel
theorem dX7_fillPerfect_182 : decode cX7_fillPerfect 182 = .ok (.ishl, 1) := by decide +kernel
theorem dX7_fillPerfect_183 : decode cX7_fillPerfect 183 = .ok (.invokevirtual 125, 3) := by decide +kernel
theorem dX7_fillPerfect_186 : decode cX7_fillPerfect 186 = .ok (.aload_n 0, 1) := by decide +kernel
theorem dX7_fillPerfect_187 : decode cX7_fillPerfect 187 = .ok (.iload_n 1, 1) := by decide +kernel
theorem dX7_fillPerfect_188 : decode cX7_fillPerfect 188 = .ok (.bipush 10, 2) := by decide +kernel
theorem dX7_fillPerfect_190 : decode cX7_fillPerfect 190 = .ok (.iload_n 2, 1) := by decide +kernel
theorem dX7_fillPerfect_191 : decode cX7_fillPerfect 191 = .ok (.aload_n 0, 1) := by decide +kernel
theorem dX7_fillPerfect_192 : decode cX7_fillPerfect 192 = .ok (.aload_n 0, 1) := by decide +kernel
theorem dX7_fillPerfect_193 : decode cX7_fillPerfect 193 = .ok (.getfield 18, 3) := by decide +kernel
theorem dX7_fillPerfect_196 : decode cX7_fillPerfect 196 = .ok (.iload_n 1, 1) := by decide +kernel
theorem dX7_fillPerfect_197 : decode cX7_fillPerfect 197 = .ok (.iconst 1, 1) := by decide +kernel
theorem dX7_fillPerfect_198 : decode cX7_fillPerfect 198 = .ok (.iadd, 1) := by decide +kernel
theorem dX7_fillPerfect_199 : decode cX7_fillPerfect 199 = .ok (.iload_n 3, 1) := by decide +kernel
theorem dX7_fillPerfect_200 : decode cX7_fillPerfect 200 = .ok (.invokevirtual 119, 3) := by decide +kernel
theorem dX7_fillPerfect_203 : decode cX7_fillPerfect 203 = .ok (.invokevirtual 125, 3) := by decide +kernel
theorem dX7_fillPerfect_206 : decode cX7_fillPerfect 206 = .ok (.aload_n 0, 1) := by decide +kernel
theorem dX7_fillPerfect_207 : decode cX7_fillPerfect 207 = .ok (.iload_n 1, 1) := by decide +kernel
theorem dX7_fillPerfect_208 : decode cX7_fillPerfect 208 = .ok (.bipush 11, 2) := by decide +kernel
theorem dX7_fillPerfect_210 : decode cX7_fillPerfect 210 = .ok (.iload_n 2, 1) := by decide +kernel
theorem dX7_fillPerfect_211 : decode cX7_fillPerfect 211 = .ok (.aload_n 0, 1) := by decide +kernel
theorem dX7_fillPerfect_212 : decode cX7_fillPerfect 212 = .ok (.aload_n 0, 1) := by decide +kernel
theorem dX7_fillPerfect_213 : decode cX7_fillPerfect 213 = .ok (.getfield 15, 3) := by decide +kernel
theorem dX7_fillPerfect_216 : decode cX7_fillPerfect 216 = .ok (.iload_n 1, 1) := by decide +kernel
theorem dX7_fillPerfect_217 : decode cX7_fillPerfect 217 = .ok (.iconst 1, 1) := by decide +kernel
theorem dX7_fillPerfect_218 : decode cX7_fillPerfect 218 = .ok (.iadd, 1) := by decide +kernel
theorem dX7_fillPerfect_219 : decode cX7_fillPerfect 219 = .ok (.iload 4, 2) := by decide +kernel
theorem dX7_fillPerfect_221 : decode cX7_fillPerfect 221 = .ok (.invokevirtual 119, 3) := by decide +kernel
theorem dX7_fillPerfect_224 : decode cX7_fillPerfect 224 = .ok (.invokevirtual 125, 3) := by decide +kernel
theorem dX7_fillPerfect_227 : decode cX7_fillPerfect 227 = .ok (.return_, 1) := by decide +kernel
theorem dX7_joinItems_0 : decode cX7_joinItems 0 = .ok (.aload_n 0, 1) := by decide +kernel
theorem dX7_joinItems_1 : decode cX7_joinItems 1 = .ok (.iconst 1, 1) := by decide +kernel
theorem dX7_joinItems_2 : decode cX7_joinItems 2 = .ok (.aload_n 0, 1) := by decide +kernel
theorem dX7_joinItems_3 : decode cX7_joinItems 3 = .ok (.getfield 54, 3) := by decide +kernel
theorem dX7_joinItems_6 : decode cX7_joinItems 6 = .ok (.ishl, 1) := by decide +kernel
theorem dX7_joinItems_7 : decode cX7_joinItems 7 = .ok (.putfield 135, 3) := by decide +kernel
theorem dX7_joinItems_10 : decode cX7_joinItems 10 = .ok (.aload_n 0, 1) := by decide +kernel
theorem dX7_joinItems_11 : decode cX7_joinItems 11 = .ok (.getfield 54, 3) := by decide +kernel
theorem dX7_joinItems_14 : decode cX7_joinItems 14 = .ok (.iconst 1, 1) := by decide +kernel
theorem dX7_joinItems_15 : decode cX7_joinItems 15 = .ok (.isub, 1) := by decide +kernel
theorem dX7_joinItems_16 : decode cX7_joinItems 16 = .ok (.istore_n 2, 1) := by decide +kernel
theorem dX7_joinItems_17 : decode cX7_joinItems 17 = .ok (.iload_n 2, 1) := by decide +kernel
theorem dX7_joinItems_18 : decode cX7_joinItems 18 = .ok (.ifCond .lt 39, 3) := by decide +kernel
theorem dX7_joinItems_21 : decode cX7_joinItems 21 = .ok (.aload_n 0, 1) := by decide +kernel
theorem dX7_joinItems_22 : decode cX7_joinItems 22 = .ok (.dup, 1) := by decide +kernel
theorem dX7_joinItems_23 : decode cX7_joinItems 23 = .ok (.getfield 135, 3) := by decide +kernel
theorem dX7_joinItems_26 : decode cX7_joinItems 26 = .ok (.aload_n 0, 1) := by decide +kernel
theorem dX7_joinItems_27 : decode cX7_joinItems 27 = .ok (.iload_n 1, 1) := by decide +kernel
theorem dX7_joinItems_28 : decode cX7_joinItems 28 = .ok (.iload_n 2, 1) := by decide +kernel
theorem dX7_joinItems_29 : decode cX7_joinItems 29 = .ok (.invokevirtual 138, 3) := by decide +kernel
theorem dX7_joinItems_32 : decode cX7_joinItems 32 = .ok (.aload_n 0, 1) := by decide +kernel
theorem dX7_joinItems_33 : decode cX7_joinItems 33 = .ok (.getfield 135, 3) := by decide +kernel
theorem dX7_joinItems_36 : decode cX7_joinItems 36 = .ok (.iand, 1) := by decide +kernel
theorem dX7_joinItems_37 : decode cX7_joinItems 37 = .ok (.ifCond .eq 9, 3) := by decide +kernel
theorem dX7_joinItems_40 : decode cX7_joinItems 40 = .ok (.iconst 1, 1) := by decide +kernel
theorem dX7_joinItems_41 : decode cX7_joinItems 41 = .ok (.iload_n 2, 1) := by decide +kernel
theorem dX7_joinItems_42 : decode cX7_joinItems 42 = .ok (.ishl, 1) := by decide +kernel
theorem dX7_joinItems_43 : decode cX7_joinItems 43 = .ok (.goto 4, 3) := by decide +kernel
theorem dX7_joinItems_46 : decode cX7_joinItems 46 = .ok (.iconst 0, 1) := by decide +kernel
theorem dX7_joinItems_47 : decode cX7_joinItems 47 = .ok (.ior, 1) := by decide +kernel
theorem dX7_joinItems_48 : decode cX7_joinItems 48 = .ok (.putfield 135, 3) := by decide +kernel
theorem dX7_joinItems_51 : decode cX7_joinItems 51 = .ok (.iinc 2 (-1), 3) := by decide +kernel
theorem dX7_joinItems_54 : decode cX7_joinItems 54 = .ok (.goto (-37), 3) := by decide +kernel
theorem dX7_joinItems_57 : decode cX7_joinItems 57 = .ok (.aload_n 0, 1) := by decide +kernel
theorem dX7_joinItems_58 : decode cX7_joinItems 58 = .ok (.iconst 1, 1) := by decide +kernel
theorem dX7_joinItems_59 : decode cX7_joinItems 59 = .ok (.putfield 142, 3) := by decide +kernel
theorem dX7_joinItems_62 : decode cX7_joinItems 62 = .ok (.iconst 0, 1) := by decide +kernel
theorem dX7_joinItems_63 : decode cX7_joinItems 63 = .ok (.istore_n 2, 1) := by decide +kernel
theorem dX7_joinItems_64 : decode cX7_joinItems 64 = .ok (.iload_n 2, 1) := by decide +kernel
theorem dX7_joinItems_65 : decode cX7_joinItems 65 = .ok (.aload_n 0, 1) := by decide +kernel
theorem dX7_joinItems_66 : decode cX7_joinItems 66 = .ok (.getfield 54, 3) := by decide +kernel
theorem dX7_joinItems_69 : decode cX7_joinItems 69 = .ok (.if_icmp .ge 39, 3) := by decide +kernel
theorem dX7_joinItems_72 : decode cX7_joinItems 72 = .ok (.aload_n 0, 1) := by decide +kernel
theorem dX7_joinItems_73 : decode cX7_joinItems 73 = .ok (.dup, 1) := by decide +kernel
theorem dX7_joinItems_74 : decode cX7_joinItems 74 = .ok (.getfield 142, 3) := by decide +kernel
theorem dX7_joinItems_77 : decode cX7_joinItems 77 = .ok (.aload_n 0, 1) := by decide +kernel
theorem dX7_joinItems_78 : decode cX7_joinItems 78 = .ok (.getfield 142, 3) := by decide +kernel
theorem dX7_joinItems_81 : decode cX7_joinItems 81 = .ok (.iload_n 2, 1) := by decide +kernel
theorem dX7_joinItems_82 : decode cX7_joinItems 82 = .ok (.ishr, 1) := by decide +kernel
theorem dX7_joinItems_83 : decode cX7_joinItems 83 = .ok (.iconst 1, 1) := by decide +kernel
theorem dX7_joinItems_84 : decode cX7_joinItems 84 = .ok (.iand, 1) := by decide +kernel
theorem dX7_joinItems_85 : decode cX7_joinItems 85 = .ok (.ifCond .eq 12, 3) := by decide +kernel
theorem dX7_joinItems_88 : decode cX7_joinItems 88 = .ok (.aload_n 0, 1) := by decide +kernel
theorem dX7_joinItems_89 : decode cX7_joinItems 89 = .ok (.iload_n 1, 1) := by decide +kernel
theorem dX7_joinItems_90 : decode cX7_joinItems 90 = .ok (.iload_n 2, 1) := by decide +kernel
theorem dX7_joinItems_91 : decode cX7_joinItems 91 = .ok (.invokevirtual 138, 3) := by decide +kernel
theorem dX7_joinItems_94 : decode cX7_joinItems 94 = .ok (.goto 4, 3) := by decide +kernel
theorem dX7_joinItems_97 : decode cX7_joinItems 97 = .ok (.iconst 0, 1) := by decide +kernel
theorem dX7_joinItems_98 : decode cX7_joinItems 98 = .ok (.ior, 1) := by decide +kernel
theorem dX7_joinItems_99 : decode cX7_joinItems 99 = .ok (.putfield 142, 3) := by decide +kernel
theorem dX7_joinItems_102 : decode cX7_joinItems 102 = .ok (.iinc 2 1, 3) := by decide +kernel
theorem dX7_joinItems_105 : decode cX7_joinItems 105 = .ok (.goto (-41), 3) := by decide +kernel
theorem dX7_joinItems_108 : decode cX7_joinItems 108 = .ok (.return_, 1) := by decide +kernel
theorem dX7_itemEnds_0 : decode cX7_itemEnds 0 = .ok (.iconst 0, 1) := by decide +kernel
theorem dX7_itemEnds_1 : decode cX7_itemEnds 1 = .ok (.istore_n 3, 1) := by decide +kernel
theorem dX7_itemEnds_2 : decode cX7_itemEnds 2 = .ok (.iconst 0, 1) := by decide +kernel
theorem dX7_itemEnds_3 : decode cX7_itemEnds 3 = .ok (.istore 4, 2) := by decide +kernel
theorem dX7_itemEnds_5 : decode cX7_itemEnds 5 = .ok (.iload 4, 2) := by decide +kernel
theorem dX7_itemEnds_7 : decode cX7_itemEnds 7 = .ok (.iload_n 1, 1) := by decide +kernel
theorem dX7_itemEnds_8 : decode cX7_itemEnds 8 = .ok (.if_icmp .gt 33, 3) := by decide +kernel
theorem dX7_itemEnds_11 : decode cX7_itemEnds 11 = .ok (.iload_n 3, 1) := by decide +kernel
theorem dX7_itemEnds_12 : decode cX7_itemEnds 12 = .ok (.aload_n 0, 1) := by decide +kernel
theorem dX7_itemEnds_13 : decode cX7_itemEnds 13 = .ok (.getfield 15, 3) := by decide +kernel
theorem dX7_itemEnds_16 : decode cX7_itemEnds 16 = .ok (.iload 4, 2) := by decide +kernel
theorem dX7_itemEnds_18 : decode cX7_itemEnds 18 = .ok (.iload_n 2, 1) := by decide +kernel
theorem dX7_itemEnds_19 : decode cX7_itemEnds 19 = .ok (.invokestatic 116, 3) := by decide +kernel
theorem dX7_itemEnds_22 : decode cX7_itemEnds 22 = .ok (.aload_n 0, 1) := by decide +kernel
theorem dX7_itemEnds_23 : decode cX7_itemEnds 23 = .ok (.getfield 18, 3) := by decide +kernel
theorem dX7_itemEnds_26 : decode cX7_itemEnds 26 = .ok (.iload 4, 2) := by decide +kernel
theorem dX7_itemEnds_28 : decode cX7_itemEnds 28 = .ok (.iload_n 2, 1) := by decide +kernel
theorem dX7_itemEnds_29 : decode cX7_itemEnds 29 = .ok (.invokestatic 116, 3) := by decide +kernel
theorem dX7_itemEnds_32 : decode cX7_itemEnds 32 = .ok (.ior, 1) := by decide +kernel
theorem dX7_itemEnds_33 : decode cX7_itemEnds 33 = .ok (.ior, 1) := by decide +kernel
theorem dX7_itemEnds_34 : decode cX7_itemEnds 34 = .ok (.istore_n 3, 1) := by decide +kernel
theorem dX7_itemEnds_35 : decode cX7_itemEnds 35 = .ok (.iinc 4 1, 3) := by decide +kernel
theorem dX7_itemEnds_38 : decode cX7_itemEnds 38 = .ok (.goto (-33), 3) := by decide +kernel
theorem dX7_itemEnds_41 : decode cX7_itemEnds 41 = .ok (.iload_n 3, 1) := by decide +kernel
theorem dX7_itemEnds_42 : decode cX7_itemEnds 42 = .ok (.ireturn, 1) := by decide +kernel

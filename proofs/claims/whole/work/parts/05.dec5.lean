theorem dX11_init_0 : decode cX11_init 0 = .ok (.aload_n 0, 1) := by decide +kernel
theorem dX11_init_1 : decode cX11_init 1 = .ok (.invokespecial 1, 3) := by decide +kernel
theorem dX11_init_4 : decode cX11_init 4 = .ok (.aload_n 0, 1) := by decide +kernel
theorem dX11_init_5 : decode cX11_init 5 = .ok (.bipush 6, 2) := by decide +kernel
theorem dX11_init_7 : decode cX11_init 7 = .ok (.anewarray 9, 3) := by decide +kernel
theorem dX11_init_10 : decode cX11_init 10 = .ok (.putfield 11, 3) := by decide +kernel
theorem dX11_init_13 : decode cX11_init 13 = .ok (.aload_n 0, 1) := by decide +kernel
theorem dX11_init_14 : decode cX11_init 14 = .ok (.bipush 6, 2) := by decide +kernel
theorem dX11_init_16 : decode cX11_init 16 = .ok (.anewarray 15, 3) := by decide +kernel
theorem dX11_init_19 : decode cX11_init 19 = .ok (.putfield 17, 3) := by decide +kernel
theorem dX11_init_22 : decode cX11_init 22 = .ok (.aload_n 0, 1) := by decide +kernel
theorem dX11_init_23 : decode cX11_init 23 = .ok (.new 21, 3) := by decide +kernel
theorem dX11_init_26 : decode cX11_init 26 = .ok (.dup, 1) := by decide +kernel
theorem dX11_init_27 : decode cX11_init 27 = .ok (.invokespecial 23, 3) := by decide +kernel
theorem dX11_init_30 : decode cX11_init 30 = .ok (.putfield 24, 3) := by decide +kernel
theorem dX11_init_33 : decode cX11_init 33 = .ok (.aload_n 0, 1) := by decide +kernel
theorem dX11_init_34 : decode cX11_init 34 = .ok (.new 28, 3) := by decide +kernel
theorem dX11_init_37 : decode cX11_init 37 = .ok (.dup, 1) := by decide +kernel
theorem dX11_init_38 : decode cX11_init 38 = .ok (.invokespecial 30, 3) := by decide +kernel
theorem dX11_init_41 : decode cX11_init 41 = .ok (.putfield 31, 3) := by decide +kernel
theorem dX11_init_44 : decode cX11_init 44 = .ok (.aload_n 0, 1) := by decide +kernel
theorem dX11_init_45 : decode cX11_init 45 = .ok (.new 35, 3) := by decide +kernel
theorem dX11_init_48 : decode cX11_init 48 = .ok (.dup, 1) := by decide +kernel
theorem dX11_init_49 : decode cX11_init 49 = .ok (.invokespecial 37, 3) := by decide +kernel
theorem dX11_init_52 : decode cX11_init 52 = .ok (.putfield 38, 3) := by decide +kernel
theorem dX11_init_55 : decode cX11_init 55 = .ok (.aload_n 0, 1) := by decide +kernel
theorem dX11_init_56 : decode cX11_init 56 = .ok (.new 35, 3) := by decide +kernel
theorem dX11_init_59 : decode cX11_init 59 = .ok (.dup, 1) := by decide +kernel
theorem dX11_init_60 : decode cX11_init 60 = .ok (.invokespecial 37, 3) := by decide +kernel
theorem dX11_init_63 : decode cX11_init 63 = .ok (.putfield 42, 3) := by decide +kernel
theorem dX11_init_66 : decode cX11_init 66 = .ok (.iconst 0, 1) := by decide +kernel
theorem dX11_init_67 : decode cX11_init 67 = .ok (.istore_n 1, 1) := by decide +kernel
theorem dX11_init_68 : decode cX11_init 68 = .ok (.iload_n 1, 1) := by decide +kernel
theorem dX11_init_69 : decode cX11_init 69 = .ok (.aload_n 0, 1) := by decide +kernel
theorem dX11_init_70 : decode cX11_init 70 = .ok (.getfield 11, 3) := by decide +kernel
theorem dX11_init_73 : decode cX11_init 73 = .ok (.arraylength, 1) := by decide +kernel
theorem dX11_init_74 : decode cX11_init 74 = .ok (.if_icmp .ge 22, 3) := by decide +kernel
theorem dX11_init_77 : decode cX11_init 77 = .ok (.aload_n 0, 1) := by decide +kernel
theorem dX11_init_78 : decode cX11_init 78 = .ok (.getfield 11, 3) := by decide +kernel
theorem dX11_init_81 : decode cX11_init 81 = .ok (.iload_n 1, 1) := by decide +kernel
theorem dX11_init_82 : decode cX11_init 82 = .ok (.new 9, 3) := by decide +kernel
theorem dX11_init_85 : decode cX11_init 85 = .ok (.dup, 1) := by decide +kernel
theorem dX11_init_86 : decode cX11_init 86 = .ok (.invokespecial 45, 3) := by decide +kernel
theorem dX11_init_89 : decode cX11_init 89 = .ok (.aastore, 1) := by decide +kernel
theorem dX11_init_90 : decode cX11_init 90 = .ok (.iinc 1 1, 3) := by decide +kernel
theorem dX11_init_93 : decode cX11_init 93 = .ok (.goto (-25), 3) := by decide +kernel
theorem dX11_init_96 : decode cX11_init 96 = .ok (.iconst 0, 1) := by decide +kernel
theorem dX11_init_97 : decode cX11_init 97 = .ok (.istore_n 1, 1) := by decide +kernel
theorem dX11_init_98 : decode cX11_init 98 = .ok (.iload_n 1, 1) := by decide +kernel
theorem dX11_init_99 : decode cX11_init 99 = .ok (.aload_n 0, 1) := by decide +kernel
theorem dX11_init_100 : decode cX11_init 100 = .ok (.getfield 17, 3) := by decide +kernel
theorem dX11_init_103 : decode cX11_init 103 = .ok (.arraylength, 1) := by decide +kernel
theorem dX11_init_104 : decode cX11_init 104 = .ok (.if_icmp .ge 22, 3) := by decide +kernel
theorem dX11_init_107 : decode cX11_init 107 = .ok (.aload_n 0, 1) := by decide +kernel
theorem dX11_init_108 : decode cX11_init 108 = .ok (.getfield 17, 3) := by decide +kernel
theorem dX11_init_111 : decode cX11_init 111 = .ok (.iload_n 1, 1) := by decide +kernel
theorem dX11_init_112 : decode cX11_init 112 = .ok (.new 15, 3) := by decide +kernel
theorem dX11_init_115 : decode cX11_init 115 = .ok (.dup, 1) := by decide +kernel
theorem dX11_init_116 : decode cX11_init 116 = .ok (.invokespecial 46, 3) := by decide +kernel
theorem dX11_init_119 : decode cX11_init 119 = .ok (.aastore, 1) := by decide +kernel
theorem dX11_init_120 : decode cX11_init 120 = .ok (.iinc 1 1, 3) := by decide +kernel
theorem dX11_init_123 : decode cX11_init 123 = .ok (.goto (-25), 3) := by decide +kernel
theorem dX11_init_126 : decode cX11_init 126 = .ok (.return_, 1) := by decide +kernel
theorem dX11_voice_0 : decode cX11_voice 0 = .ok (.iload_n 1, 1) := by decide +kernel
theorem dX11_voice_1 : decode cX11_voice 1 = .ok (.ifCond .lt 9, 3) := by decide +kernel
theorem dX11_voice_4 : decode cX11_voice 4 = .ok (.iload_n 1, 1) := by decide +kernel
theorem dX11_voice_5 : decode cX11_voice 5 = .ok (.bipush 16, 2) := by decide +kernel
theorem dX11_voice_7 : decode cX11_voice 7 = .ok (.if_icmp .lt 6, 3) := by decide +kernel
theorem dX11_voice_10 : decode cX11_voice 10 = .ok (.bipush (-2), 2) := by decide +kernel
theorem dX11_voice_12 : decode cX11_voice 12 = .ok (.ireturn, 1) := by decide +kernel
theorem dX11_voice_13 : decode cX11_voice 13 = .ok (.aload_n 0, 1) := by decide +kernel
theorem dX11_voice_14 : decode cX11_voice 14 = .ok (.getfield 47, 3) := by decide +kernel
theorem dX11_voice_17 : decode cX11_voice 17 = .ok (.ifCond .lt 15, 3) := by decide +kernel
theorem dX11_voice_20 : decode cX11_voice 20 = .ok (.aload_n 0, 1) := by decide +kernel
theorem dX11_voice_21 : decode cX11_voice 21 = .ok (.getfield 47, 3) := by decide +kernel
theorem dX11_voice_24 : decode cX11_voice 24 = .ok (.aload_n 0, 1) := by decide +kernel
theorem dX11_voice_25 : decode cX11_voice 25 = .ok (.getfield 11, 3) := by decide +kernel
theorem dX11_voice_28 : decode cX11_voice 28 = .ok (.arraylength, 1) := by decide +kernel
theorem dX11_voice_29 : decode cX11_voice 29 = .ok (.if_icmp .lt 7, 3) := by decide +kernel
theorem dX11_voice_32 : decode cX11_voice 32 = .ok (.aconst_null, 1) := by decide +kernel
theorem dX11_voice_33 : decode cX11_voice 33 = .ok (.goto 12, 3) := by decide +kernel
theorem dX11_voice_36 : decode cX11_voice 36 = .ok (.aload_n 0, 1) := by decide +kernel
theorem dX11_voice_37 : decode cX11_voice 37 = .ok (.getfield 11, 3) := by decide +kernel
theorem dX11_voice_40 : decode cX11_voice 40 = .ok (.aload_n 0, 1) := by decide +kernel
theorem dX11_voice_41 : decode cX11_voice 41 = .ok (.getfield 47, 3) := by decide +kernel
theorem dX11_voice_44 : decode cX11_voice 44 = .ok (.aaload, 1) := by decide +kernel
theorem dX11_voice_45 : decode cX11_voice 45 = .ok (.astore_n 2, 1) := by decide +kernel
theorem dX11_voice_46 : decode cX11_voice 46 = .ok (.aload_n 2, 1) := by decide +kernel
theorem dX11_voice_47 : decode cX11_voice 47 = .ok (.ifnonnull 6, 3) := by decide +kernel
theorem dX11_voice_50 : decode cX11_voice 50 = .ok (.bipush (-3), 2) := by decide +kernel
theorem dX11_voice_52 : decode cX11_voice 52 = .ok (.ireturn, 1) := by decide +kernel
theorem dX11_voice_53 : decode cX11_voice 53 = .ok (.aload_n 2, 1) := by decide +kernel
theorem dX11_voice_54 : decode cX11_voice 54 = .ok (.iload_n 1, 1) := by decide +kernel
theorem dX11_voice_55 : decode cX11_voice 55 = .ok (.invokevirtual 51, 3) := by decide +kernel
theorem dX11_voice_58 : decode cX11_voice 58 = .ok (.aload_n 0, 1) := by decide +kernel
theorem dX11_voice_59 : decode cX11_voice 59 = .ok (.dup, 1) := by decide +kernel
theorem dX11_voice_60 : decode cX11_voice 60 = .ok (.getfield 47, 3) := by decide +kernel
theorem dX11_voice_63 : decode cX11_voice 63 = .ok (.iconst 1, 1) := by decide +kernel
theorem dX11_voice_64 : decode cX11_voice 64 = .ok (.iadd, 1) := by decide +kernel
theorem dX11_voice_65 : decode cX11_voice 65 = .ok (.putfield 47, 3) := by decide +kernel
theorem dX11_voice_68 : decode cX11_voice 68 = .ok (.aload_n 0, 1) := by decide +kernel
theorem dX11_voice_69 : decode cX11_voice 69 = .ok (.getfield 47, 3) := by decide +kernel
theorem dX11_voice_72 : decode cX11_voice 72 = .ok (.iconst 1, 1) := by decide +kernel
theorem dX11_voice_73 : decode cX11_voice 73 = .ok (.isub, 1) := by decide +kernel
theorem dX11_voice_74 : decode cX11_voice 74 = .ok (.ireturn, 1) := by decide +kernel
theorem dX11_note_0 : decode cX11_note 0 = .ok (.aload_n 0, 1) := by decide +kernel
theorem dX11_note_1 : decode cX11_note 1 = .ok (.iload_n 1, 1) := by decide +kernel
theorem dX11_note_2 : decode cX11_note 2 = .ok (.invokevirtual 55, 3) := by decide +kernel
theorem dX11_note_5 : decode cX11_note 5 = .ok (.astore 5, 2) := by decide +kernel
theorem dX11_note_7 : decode cX11_note 7 = .ok (.aload 5, 2) := by decide +kernel
theorem dX11_note_9 : decode cX11_note 9 = .ok (.ifnull 17, 3) := by decide +kernel
theorem dX11_note_12 : decode cX11_note 12 = .ok (.iload_n 2, 1) := by decide +kernel
theorem dX11_note_13 : decode cX11_note 13 = .ok (.invokestatic 59, 3) := by decide +kernel
theorem dX11_note_16 : decode cX11_note 16 = .ok (.ifCond .eq 10, 3) := by decide +kernel
theorem dX11_note_19 : decode cX11_note 19 = .ok (.iload_n 3, 1) := by decide +kernel
theorem dX11_note_20 : decode cX11_note 20 = .ok (.invokestatic 63, 3) := by decide +kernel
theorem dX11_note_23 : decode cX11_note 23 = .ok (.ifCond .ne 6, 3) := by decide +kernel
theorem dX11_note_26 : decode cX11_note 26 = .ok (.bipush (-2), 2) := by decide +kernel
theorem dX11_note_28 : decode cX11_note 28 = .ok (.ireturn, 1) := by decide +kernel
theorem dX11_note_29 : decode cX11_note 29 = .ok (.aload 5, 2) := by decide +kernel
theorem dX11_note_31 : decode cX11_note 31 = .ok (.iconst 1, 1) := by decide +kernel
theorem dX11_note_32 : decode cX11_note 32 = .ok (.iload_n 2, 1) := by decide +kernel
theorem dX11_note_33 : decode cX11_note 33 = .ok (.iload_n 3, 1) := by decide +kernel
theorem dX11_note_34 : decode cX11_note 34 = .ok (.iload 4, 2) := by decide +kernel
theorem dX11_note_36 : decode cX11_note 36 = .ok (.invokevirtual 66, 3) := by decide +kernel
theorem dX11_note_39 : decode cX11_note 39 = .ok (.ireturn, 1) := by decide +kernel
theorem dX11_rest_0 : decode cX11_rest 0 = .ok (.aload_n 0, 1) := by decide +kernel
theorem dX11_rest_1 : decode cX11_rest 1 = .ok (.iload_n 1, 1) := by decide +kernel
theorem dX11_rest_2 : decode cX11_rest 2 = .ok (.invokevirtual 55, 3) := by decide +kernel
theorem dX11_rest_5 : decode cX11_rest 5 = .ok (.astore_n 3, 1) := by decide +kernel
theorem dX11_rest_6 : decode cX11_rest 6 = .ok (.aload_n 3, 1) := by decide +kernel
theorem dX11_rest_7 : decode cX11_rest 7 = .ok (.ifnull 10, 3) := by decide +kernel
theorem dX11_rest_10 : decode cX11_rest 10 = .ok (.iload_n 2, 1) := by decide +kernel
theorem dX11_rest_11 : decode cX11_rest 11 = .ok (.invokestatic 59, 3) := by decide +kernel
theorem dX11_rest_14 : decode cX11_rest 14 = .ok (.ifCond .ne 6, 3) := by decide +kernel
theorem dX11_rest_17 : decode cX11_rest 17 = .ok (.bipush (-2), 2) := by decide +kernel
theorem dX11_rest_19 : decode cX11_rest 19 = .ok (.ireturn, 1) := by decide +kernel
theorem dX11_rest_20 : decode cX11_rest 20 = .ok (.aload_n 3, 1) := by decide +kernel
theorem dX11_rest_21 : decode cX11_rest 21 = .ok (.iconst 2, 1) := by decide +kernel
theorem dX11_rest_22 : decode cX11_rest 22 = .ok (.iload_n 2, 1) := by decide +kernel
theorem dX11_rest_23 : decode cX11_rest 23 = .ok (.iconst (-1), 1) := by decide +kernel
theorem dX11_rest_24 : decode cX11_rest 24 = .ok (.iconst 0, 1) := by decide +kernel
theorem dX11_rest_25 : decode cX11_rest 25 = .ok (.invokevirtual 66, 3) := by decide +kernel
theorem dX11_rest_28 : decode cX11_rest 28 = .ok (.ireturn, 1) := by decide +kernel
theorem dX11_dot_0 : decode cX11_dot 0 = .ok (.aload_n 0, 1) := by decide +kernel
theorem dX11_dot_1 : decode cX11_dot 1 = .ok (.iload_n 1, 1) := by decide +kernel
theorem dX11_dot_2 : decode cX11_dot 2 = .ok (.invokevirtual 55, 3) := by decide +kernel
theorem dX11_dot_5 : decode cX11_dot 5 = .ok (.astore_n 2, 1) := by decide +kernel
theorem dX11_dot_6 : decode cX11_dot 6 = .ok (.aload_n 2, 1) := by decide +kernel
theorem dX11_dot_7 : decode cX11_dot 7 = .ok (.ifnonnull 6, 3) := by decide +kernel
theorem dX11_dot_10 : decode cX11_dot 10 = .ok (.bipush (-2), 2) := by decide +kernel
theorem dX11_dot_12 : decode cX11_dot 12 = .ok (.ireturn, 1) := by decide +kernel
theorem dX11_dot_13 : decode cX11_dot 13 = .ok (.aload_n 2, 1) := by decide +kernel
theorem dX11_dot_14 : decode cX11_dot 14 = .ok (.getfield 70, 3) := by decide +kernel
theorem dX11_dot_17 : decode cX11_dot 17 = .ok (.aload_n 2, 1) := by decide +kernel
theorem dX11_dot_18 : decode cX11_dot 18 = .ok (.getfield 70, 3) := by decide +kernel
theorem dX11_dot_21 : decode cX11_dot 21 = .ok (.getfield 74, 3) := by decide +kernel
theorem dX11_dot_24 : decode cX11_dot 24 = .ok (.iconst 1, 1) := by decide +kernel
theorem dX11_dot_25 : decode cX11_dot 25 = .ok (.isub, 1) := by decide +kernel
theorem dX11_dot_26 : decode cX11_dot 26 = .ok (.invokevirtual 79, 3) := by decide +kernel
theorem dX11_dot_29 : decode cX11_dot 29 = .ok (.istore_n 3, 1) := by decide +kernel
theorem dX11_dot_30 : decode cX11_dot 30 = .ok (.iload_n 3, 1) := by decide +kernel
theorem dX11_dot_31 : decode cX11_dot 31 = .ok (.iconst 1, 1) := by decide +kernel
theorem dX11_dot_32 : decode cX11_dot 32 = .ok (.if_icmp .eq 11, 3) := by decide +kernel
theorem dX11_dot_35 : decode cX11_dot 35 = .ok (.iload_n 3, 1) := by decide +kernel
theorem dX11_dot_36 : decode cX11_dot 36 = .ok (.iconst 2, 1) := by decide +kernel
theorem dX11_dot_37 : decode cX11_dot 37 = .ok (.if_icmp .eq 6, 3) := by decide +kernel
theorem dX11_dot_40 : decode cX11_dot 40 = .ok (.bipush (-2), 2) := by decide +kernel
theorem dX11_dot_42 : decode cX11_dot 42 = .ok (.ireturn, 1) := by decide +kernel
theorem dX11_dot_43 : decode cX11_dot 43 = .ok (.aload_n 2, 1) := by decide +kernel
theorem dX11_dot_44 : decode cX11_dot 44 = .ok (.iconst 3, 1) := by decide +kernel
theorem dX11_dot_45 : decode cX11_dot 45 = .ok (.iconst (-1), 1) := by decide +kernel
theorem dX11_dot_46 : decode cX11_dot 46 = .ok (.iconst (-1), 1) := by decide +kernel
theorem dX11_dot_47 : decode cX11_dot 47 = .ok (.iconst 0, 1) := by decide +kernel
theorem dX11_dot_48 : decode cX11_dot 48 = .ok (.invokevirtual 66, 3) := by decide +kernel
theorem dX11_dot_51 : decode cX11_dot 51 = .ok (.ireturn, 1) := by decide +kernel
theorem dX11_ligature_0 : decode cX11_ligature 0 = .ok (.aload_n 0, 1) := by decide +kernel
theorem dX11_ligature_1 : decode cX11_ligature 1 = .ok (.iload_n 1, 1) := by decide +kernel
theorem dX11_ligature_2 : decode cX11_ligature 2 = .ok (.invokevirtual 55, 3) := by decide +kernel
theorem dX11_ligature_5 : decode cX11_ligature 5 = .ok (.astore 6, 2) := by decide +kernel
theorem dX11_ligature_7 : decode cX11_ligature 7 = .ok (.aload 6, 2) := by decide +kernel
theorem dX11_ligature_9 : decode cX11_ligature 9 = .ok (.ifnull 33, 3) := by decide +kernel
theorem dX11_ligature_12 : decode cX11_ligature 12 = .ok (.iload_n 2, 1) := by decide +kernel
theorem dX11_ligature_13 : decode cX11_ligature 13 = .ok (.ifCond .lt 29, 3) := by decide +kernel
theorem dX11_ligature_16 : decode cX11_ligature 16 = .ok (.iload_n 2, 1) := by decide +kernel
theorem dX11_ligature_17 : decode cX11_ligature 17 = .ok (.bipush 15, 2) := by decide +kernel
theorem dX11_ligature_19 : decode cX11_ligature 19 = .ok (.if_icmp .gt 23, 3) := by decide +kernel
theorem dX11_ligature_22 : decode cX11_ligature 22 = .ok (.iload_n 3, 1) := by decide +kernel
theorem dX11_ligature_23 : decode cX11_ligature 23 = .ok (.iconst 2, 1) := by decide +kernel
theorem dX11_ligature_24 : decode cX11_ligature 24 = .ok (.if_icmp .lt 18, 3) := by decide +kernel
theorem dX11_ligature_27 : decode cX11_ligature 27 = .ok (.iload_n 3, 1) := by decide +kernel
theorem dX11_ligature_28 : decode cX11_ligature 28 = .ok (.bipush 8, 2) := by decide +kernel
theorem dX11_ligature_30 : decode cX11_ligature 30 = .ok (.if_icmp .gt 12, 3) := by decide +kernel
theorem dX11_ligature_33 : decode cX11_ligature 33 = .ok (.iload_n 3, 1) := by decide +kernel
theorem dX11_ligature_34 : decode cX11_ligature 34 = .ok (.lload 4, 2) := by decide +kernel
theorem dX11_ligature_36 : decode cX11_ligature 36 = .ok (.invokestatic 83, 3) := by decide +kernel
theorem dX11_ligature_39 : decode cX11_ligature 39 = .ok (.ifCond .ne 6, 3) := by decide +kernel
theorem dX11_ligature_42 : decode cX11_ligature 42 = .ok (.bipush (-2), 2) := by decide +kernel
theorem dX11_ligature_44 : decode cX11_ligature 44 = .ok (.ireturn, 1) := by decide +kernel
theorem dX11_ligature_45 : decode cX11_ligature 45 = .ok (.iload_n 2, 1) := by decide +kernel
theorem dX11_ligature_46 : decode cX11_ligature 46 = .ok (.iload_n 3, 1) := by decide +kernel
theorem dX11_ligature_47 : decode cX11_ligature 47 = .ok (.lload 4, 2) := by decide +kernel
theorem dX11_ligature_49 : decode cX11_ligature 49 = .ok (.invokestatic 87, 3) := by decide +kernel
theorem dX11_ligature_52 : decode cX11_ligature 52 = .ok (.ifCond .ne 6, 3) := by decide +kernel
theorem dX11_ligature_55 : decode cX11_ligature 55 = .ok (.bipush (-5), 2) := by decide +kernel
theorem dX11_ligature_57 : decode cX11_ligature 57 = .ok (.ireturn, 1) := by decide +kernel
theorem dX11_ligature_58 : decode cX11_ligature 58 = .ok (.aload 6, 2) := by decide +kernel
theorem dX11_ligature_60 : decode cX11_ligature 60 = .ok (.getfield 70, 3) := by decide +kernel
theorem dX11_ligature_63 : decode cX11_ligature 63 = .ok (.iload_n 3, 1) := by decide +kernel
theorem dX11_ligature_64 : decode cX11_ligature 64 = .ok (.invokevirtual 91, 3) := by decide +kernel
theorem dX11_ligature_67 : decode cX11_ligature 67 = .ok (.ifCond .ne 6, 3) := by decide +kernel
theorem dX11_ligature_70 : decode cX11_ligature 70 = .ok (.bipush (-3), 2) := by decide +kernel
theorem dX11_ligature_72 : decode cX11_ligature 72 = .ok (.ireturn, 1) := by decide +kernel
theorem dX11_ligature_73 : decode cX11_ligature 73 = .ok (.aload 6, 2) := by decide +kernel
theorem dX11_ligature_75 : decode cX11_ligature 75 = .ok (.getfield 70, 3) := by decide +kernel
theorem dX11_ligature_78 : decode cX11_ligature 78 = .ok (.getfield 74, 3) := by decide +kernel
theorem dX11_ligature_81 : decode cX11_ligature 81 = .ok (.istore 7, 2) := by decide +kernel
theorem dX11_ligature_83 : decode cX11_ligature 83 = .ok (.iconst 0, 1) := by decide +kernel
theorem dX11_ligature_84 : decode cX11_ligature 84 = .ok (.istore 8, 2) := by decide +kernel
theorem dX11_ligature_86 : decode cX11_ligature 86 = .ok (.iload 8, 2) := by decide +kernel
theorem dX11_ligature_88 : decode cX11_ligature 88 = .ok (.iload_n 3, 1) := by decide +kernel
theorem dX11_ligature_89 : decode cX11_ligature 89 = .ok (.if_icmp .ge 33, 3) := by decide +kernel
theorem dX11_ligature_92 : decode cX11_ligature 92 = .ok (.aload 6, 2) := by decide +kernel
theorem dX11_ligature_94 : decode cX11_ligature 94 = .ok (.iconst 1, 1) := by decide +kernel
theorem dX11_ligature_95 : decode cX11_ligature 95 = .ok (.iload_n 2, 1) := by decide +kernel
theorem dX11_ligature_96 : decode cX11_ligature 96 = .ok (.iload_n 3, 1) := by decide +kernel
theorem dX11_ligature_97 : decode cX11_ligature 97 = .ok (.lload 4, 2) := by decide +kernel
theorem dX11_ligature_99 : decode cX11_ligature 99 = .ok (.iload 8, 2) := by decide +kernel
theorem dX11_ligature_101 : decode cX11_ligature 101 = .ok (.invokestatic 94, 3) := by decide +kernel
theorem dX11_ligature_104 : decode cX11_ligature 104 = .ok (.lload 4, 2) := by decide +kernel
theorem dX11_ligature_106 : decode cX11_ligature 106 = .ok (.iload 8, 2) := by decide +kernel
theorem dX11_ligature_108 : decode cX11_ligature 108 = .ok (.invokestatic 98, 3) := by decide +kernel
theorem dX11_ligature_111 : decode cX11_ligature 111 = .ok (.iconst 0, 1) := by decide +kernel
theorem dX11_ligature_112 : decode cX11_ligature 112 = .ok (.invokevirtual 66, 3) := by decide +kernel
theorem dX11_ligature_115 : decode cX11_ligature 115 = .ok (.pop, 1) := by decide +kernel
theorem dX11_ligature_116 : decode cX11_ligature 116 = .ok (.iinc 8 1, 3) := by decide +kernel
theorem dX11_ligature_119 : decode cX11_ligature 119 = .ok (.goto (-33), 3) := by decide +kernel
theorem dX11_ligature_122 : decode cX11_ligature 122 = .ok (.iload 7, 2) := by decide +kernel
theorem dX11_ligature_124 : decode cX11_ligature 124 = .ok (.ireturn, 1) := by decide +kernel
theorem dX11_proportion_0 : decode cX11_proportion 0 = .ok (.aload_n 0, 1) := by decide +kernel
theorem dX11_proportion_1 : decode cX11_proportion 1 = .ok (.iload_n 1, 1) := by decide +kernel
theorem dX11_proportion_2 : decode cX11_proportion 2 = .ok (.invokevirtual 55, 3) := by decide +kernel
theorem dX11_proportion_5 : decode cX11_proportion 5 = .ok (.astore 4, 2) := by decide +kernel
theorem dX11_proportion_7 : decode cX11_proportion 7 = .ok (.aload 4, 2) := by decide +kernel
theorem dX11_proportion_9 : decode cX11_proportion 9 = .ok (.ifnull 25, 3) := by decide +kernel
theorem dX11_proportion_12 : decode cX11_proportion 12 = .ok (.iload_n 2, 1) := by decide +kernel
theorem dX11_proportion_13 : decode cX11_proportion 13 = .ok (.iconst 1, 1) := by decide +kernel
theorem dX11_proportion_14 : decode cX11_proportion 14 = .ok (.if_icmp .lt 20, 3) := by decide +kernel
theorem dX11_proportion_17 : decode cX11_proportion 17 = .ok (.iload_n 2, 1) := by decide +kernel
theorem dX11_proportion_18 : decode cX11_proportion 18 = .ok (.bipush 9, 2) := by decide +kernel
theorem dX11_proportion_20 : decode cX11_proportion 20 = .ok (.if_icmp .gt 14, 3) := by decide +kernel
theorem dX11_proportion_23 : decode cX11_proportion 23 = .ok (.iload_n 3, 1) := by decide +kernel
theorem dX11_proportion_24 : decode cX11_proportion 24 = .ok (.iconst 1, 1) := by decide +kernel
theorem dX11_proportion_25 : decode cX11_proportion 25 = .ok (.if_icmp .lt 9, 3) := by decide +kernel
theorem dX11_proportion_28 : decode cX11_proportion 28 = .ok (.iload_n 3, 1) := by decide +kernel
theorem dX11_proportion_29 : decode cX11_proportion 29 = .ok (.bipush 9, 2) := by decide +kernel
theorem dX11_proportion_31 : decode cX11_proportion 31 = .ok (.if_icmp .le 6, 3) := by decide +kernel
theorem dX11_proportion_34 : decode cX11_proportion 34 = .ok (.bipush (-2), 2) := by decide +kernel
theorem dX11_proportion_36 : decode cX11_proportion 36 = .ok (.ireturn, 1) := by decide +kernel
theorem dX11_proportion_37 : decode cX11_proportion 37 = .ok (.aload 4, 2) := by decide +kernel
theorem dX11_proportion_39 : decode cX11_proportion 39 = .ok (.getfield 70, 3) := by decide +kernel
theorem dX11_proportion_42 : decode cX11_proportion 42 = .ok (.iload_n 2, 1) := by decide +kernel
theorem dX11_proportion_43 : decode cX11_proportion 43 = .ok (.iload_n 3, 1) := by decide +kernel
theorem dX11_proportion_44 : decode cX11_proportion 44 = .ok (.invokevirtual 102, 3) := by decide +kernel
theorem dX11_proportion_47 : decode cX11_proportion 47 = .ok (.ifCond .eq 7, 3) := by decide +kernel
theorem dX11_proportion_50 : decode cX11_proportion 50 = .ok (.iconst 1, 1) := by decide +kernel
theorem dX11_proportion_51 : decode cX11_proportion 51 = .ok (.goto 5, 3) := by decide +kernel
theorem dX11_proportion_54 : decode cX11_proportion 54 = .ok (.bipush (-3), 2) := by decide +kernel
theorem dX11_proportion_56 : decode cX11_proportion 56 = .ok (.ireturn, 1) := by decide +kernel
theorem dX11_back_0 : decode cX11_back 0 = .ok (.aload_n 0, 1) := by decide +kernel
theorem dX11_back_1 : decode cX11_back 1 = .ok (.iload_n 1, 1) := by decide +kernel
theorem dX11_back_2 : decode cX11_back 2 = .ok (.invokevirtual 55, 3) := by decide +kernel
theorem dX11_back_5 : decode cX11_back 5 = .ok (.astore_n 2, 1) := by decide +kernel
theorem dX11_back_6 : decode cX11_back 6 = .ok (.aload_n 2, 1) := by decide +kernel
theorem dX11_back_7 : decode cX11_back 7 = .ok (.ifnonnull 6, 3) := by decide +kernel
theorem dX11_back_10 : decode cX11_back 10 = .ok (.bipush (-2), 2) := by decide +kernel
theorem dX11_back_12 : decode cX11_back 12 = .ok (.ireturn, 1) := by decide +kernel
theorem dX11_back_13 : decode cX11_back 13 = .ok (.aload_n 2, 1) := by decide +kernel
theorem dX11_back_14 : decode cX11_back 14 = .ok (.getfield 70, 3) := by decide +kernel
theorem dX11_back_17 : decode cX11_back 17 = .ok (.getfield 74, 3) := by decide +kernel
theorem dX11_back_20 : decode cX11_back 20 = .ok (.ifCond .ne 5, 3) := by decide +kernel
theorem dX11_back_23 : decode cX11_back 23 = .ok (.iconst (-1), 1) := by decide +kernel
theorem dX11_back_24 : decode cX11_back 24 = .ok (.ireturn, 1) := by decide +kernel
theorem dX11_back_25 : decode cX11_back 25 = .ok (.aload_n 2, 1) := by decide +kernel
theorem dX11_back_26 : decode cX11_back 26 = .ok (.invokevirtual 106, 3) := by decide +kernel
theorem dX11_back_29 : decode cX11_back 29 = .ok (.aload_n 2, 1) := by decide +kernel
theorem dX11_back_30 : decode cX11_back 30 = .ok (.getfield 70, 3) := by decide +kernel
theorem dX11_back_33 : decode cX11_back 33 = .ok (.getfield 74, 3) := by decide +kernel
theorem dX11_back_36 : decode cX11_back 36 = .ok (.ireturn, 1) := by decide +kernel
theorem dX11_told_0 : decode cX11_told 0 = .ok (.aload_n 0, 1) := by decide +kernel
theorem dX11_told_1 : decode cX11_told 1 = .ok (.iload_n 1, 1) := by decide +kernel
theorem dX11_told_2 : decode cX11_told 2 = .ok (.invokevirtual 55, 3) := by decide +kernel
theorem dX11_told_5 : decode cX11_told 5 = .ok (.astore_n 3, 1) := by decide +kernel
theorem dX11_told_6 : decode cX11_told 6 = .ok (.aload_n 3, 1) := by decide +kernel
theorem dX11_told_7 : decode cX11_told 7 = .ok (.ifnonnull 6, 3) := by decide +kernel
theorem dX11_told_10 : decode cX11_told 10 = .ok (.bipush (-2), 2) := by decide +kernel
theorem dX11_told_12 : decode cX11_told 12 = .ok (.ireturn, 1) := by decide +kernel
theorem dX11_told_13 : decode cX11_told 13 = .ok (.iload_n 2, 1) := by decide +kernel
theorem dX11_told_14 : decode cX11_told 14 = .ok (.tableswitch 90 0 6 #[42, 50, 55, 60, 68, 76, 81], 42) := by decide +kernel
theorem dX11_told_56 : decode cX11_told 56 = .ok (.aload_n 3, 1) := by decide +kernel
theorem dX11_told_57 : decode cX11_told 57 = .ok (.getfield 70, 3) := by decide +kernel
theorem dX11_told_60 : decode cX11_told 60 = .ok (.getfield 74, 3) := by decide +kernel
theorem dX11_told_63 : decode cX11_told 63 = .ok (.ireturn, 1) := by decide +kernel
theorem dX11_told_64 : decode cX11_told 64 = .ok (.aload_n 3, 1) := by decide +kernel
theorem dX11_told_65 : decode cX11_told 65 = .ok (.getfield 109, 3) := by decide +kernel
theorem dX11_told_68 : decode cX11_told 68 = .ok (.ireturn, 1) := by decide +kernel
theorem dX11_told_69 : decode cX11_told 69 = .ok (.aload_n 3, 1) := by decide +kernel
theorem dX11_told_70 : decode cX11_told 70 = .ok (.getfield 112, 3) := by decide +kernel
theorem dX11_told_73 : decode cX11_told 73 = .ok (.ireturn, 1) := by decide +kernel
theorem dX11_told_74 : decode cX11_told 74 = .ok (.aload_n 3, 1) := by decide +kernel
theorem dX11_told_75 : decode cX11_told 75 = .ok (.getfield 70, 3) := by decide +kernel
theorem dX11_told_78 : decode cX11_told 78 = .ok (.getfield 115, 3) := by decide +kernel
theorem dX11_told_81 : decode cX11_told 81 = .ok (.ireturn, 1) := by decide +kernel
theorem dX11_told_82 : decode cX11_told 82 = .ok (.aload_n 3, 1) := by decide +kernel
theorem dX11_told_83 : decode cX11_told 83 = .ok (.getfield 70, 3) := by decide +kernel
theorem dX11_told_86 : decode cX11_told 86 = .ok (.getfield 118, 3) := by decide +kernel
theorem dX11_told_89 : decode cX11_told 89 = .ok (.ireturn, 1) := by decide +kernel
theorem dX11_told_90 : decode cX11_told 90 = .ok (.aload_n 3, 1) := by decide +kernel
theorem dX11_told_91 : decode cX11_told 91 = .ok (.getfield 121, 3) := by decide +kernel
theorem dX11_told_94 : decode cX11_told 94 = .ok (.ireturn, 1) := by decide +kernel
theorem dX11_told_95 : decode cX11_told 95 = .ok (.aload_n 3, 1) := by decide +kernel
theorem dX11_told_96 : decode cX11_told 96 = .ok (.aload_n 3, 1) := by decide +kernel
theorem dX11_told_97 : decode cX11_told 97 = .ok (.getfield 112, 3) := by decide +kernel
theorem dX11_told_100 : decode cX11_told 100 = .ok (.invokevirtual 124, 3) := by decide +kernel
theorem dX11_told_103 : decode cX11_told 103 = .ok (.ireturn, 1) := by decide +kernel
theorem dX11_told_104 : decode cX11_told 104 = .ok (.bipush (-2), 2) := by decide +kernel
theorem dX11_told_106 : decode cX11_told 106 = .ok (.ireturn, 1) := by decide +kernel
theorem dX11_symbol_0 : decode cX11_symbol 0 = .ok (.aload_n 0, 1) := by decide +kernel
theorem dX11_symbol_1 : decode cX11_symbol 1 = .ok (.iload_n 1, 1) := by decide +kernel
theorem dX11_symbol_2 : decode cX11_symbol 2 = .ok (.invokevirtual 55, 3) := by decide +kernel
theorem dX11_symbol_5 : decode cX11_symbol 5 = .ok (.astore 4, 2) := by decide +kernel
theorem dX11_symbol_7 : decode cX11_symbol 7 = .ok (.aload 4, 2) := by decide +kernel
theorem dX11_symbol_9 : decode cX11_symbol 9 = .ok (.ifnull 19, 3) := by decide +kernel
theorem dX11_symbol_12 : decode cX11_symbol 12 = .ok (.iload_n 2, 1) := by decide +kernel
theorem dX11_symbol_13 : decode cX11_symbol 13 = .ok (.ifCond .lt 15, 3) := by decide +kernel
theorem dX11_symbol_16 : decode cX11_symbol 16 = .ok (.iload_n 2, 1) := by decide +kernel
theorem dX11_symbol_17 : decode cX11_symbol 17 = .ok (.aload 4, 2) := by decide +kernel
theorem dX11_symbol_19 : decode cX11_symbol 19 = .ok (.getfield 70, 3) := by decide +kernel
theorem dX11_symbol_22 : decode cX11_symbol 22 = .ok (.getfield 74, 3) := by decide +kernel
theorem dX11_symbol_25 : decode cX11_symbol 25 = .ok (.if_icmp .lt 6, 3) := by decide +kernel
theorem dX11_symbol_28 : decode cX11_symbol 28 = .ok (.bipush (-2), 2) := by decide +kernel
theorem dX11_symbol_30 : decode cX11_symbol 30 = .ok (.ireturn, 1) := by decide +kernel
theorem dX11_symbol_31 : decode cX11_symbol 31 = .ok (.aload 4, 2) := by decide +kernel
theorem dX11_symbol_33 : decode cX11_symbol 33 = .ok (.getfield 70, 3) := by decide +kernel
theorem dX11_symbol_36 : decode cX11_symbol 36 = .ok (.iload_n 2, 1) := by decide +kernel
theorem dX11_symbol_37 : decode cX11_symbol 37 = .ok (.invokevirtual 79, 3) := by decide +kernel
theorem dX11_symbol_40 : decode cX11_symbol 40 = .ok (.istore 5, 2) := by decide +kernel
theorem dX11_symbol_42 : decode cX11_symbol 42 = .ok (.iload_n 3, 1) := by decide +kernel
theorem dX11_symbol_43 : decode cX11_symbol 43 = .ok (.tableswitch 80 0 3 #[29, 32, 42, 52], 29) := by decide +kernel
theorem dX11_symbol_72 : decode cX11_symbol 72 = .ok (.iload 5, 2) := by decide +kernel
theorem dX11_symbol_74 : decode cX11_symbol 74 = .ok (.ireturn, 1) := by decide +kernel
theorem dX11_symbol_75 : decode cX11_symbol 75 = .ok (.aload 4, 2) := by decide +kernel
theorem dX11_symbol_77 : decode cX11_symbol 77 = .ok (.getfield 70, 3) := by decide +kernel
theorem dX11_symbol_80 : decode cX11_symbol 80 = .ok (.iload_n 2, 1) := by decide +kernel
theorem dX11_symbol_81 : decode cX11_symbol 81 = .ok (.invokevirtual 127, 3) := by decide +kernel
theorem dX11_symbol_84 : decode cX11_symbol 84 = .ok (.ireturn, 1) := by decide +kernel
theorem dX11_symbol_85 : decode cX11_symbol 85 = .ok (.aload 4, 2) := by decide +kernel
theorem dX11_symbol_87 : decode cX11_symbol 87 = .ok (.getfield 70, 3) := by decide +kernel
theorem dX11_symbol_90 : decode cX11_symbol 90 = .ok (.iload_n 2, 1) := by decide +kernel
theorem dX11_symbol_91 : decode cX11_symbol 91 = .ok (.invokevirtual 130, 3) := by decide +kernel
theorem dX11_symbol_94 : decode cX11_symbol 94 = .ok (.ireturn, 1) := by decide +kernel
theorem dX11_symbol_95 : decode cX11_symbol 95 = .ok (.iload 5, 2) := by decide +kernel
theorem dX11_symbol_97 : decode cX11_symbol 97 = .ok (.iconst 1, 1) := by decide +kernel
theorem dX11_symbol_98 : decode cX11_symbol 98 = .ok (.if_icmp .eq 7, 3) := by decide +kernel
theorem dX11_symbol_101 : decode cX11_symbol 101 = .ok (.iconst (-1), 1) := by decide +kernel
theorem dX11_symbol_102 : decode cX11_symbol 102 = .ok (.goto 20, 3) := by decide +kernel
theorem dX11_symbol_105 : decode cX11_symbol 105 = .ok (.aload 4, 2) := by decide +kernel
theorem dX11_symbol_107 : decode cX11_symbol 107 = .ok (.getfield 70, 3) := by decide +kernel
theorem dX11_symbol_110 : decode cX11_symbol 110 = .ok (.iload_n 2, 1) := by decide +kernel
theorem dX11_symbol_111 : decode cX11_symbol 111 = .ok (.invokevirtual 133, 3) := by decide +kernel
theorem dX11_symbol_114 : decode cX11_symbol 114 = .ok (.ifCond .eq 7, 3) := by decide +kernel
theorem dX11_symbol_117 : decode cX11_symbol 117 = .ok (.iconst 1, 1) := by decide +kernel
theorem dX11_symbol_118 : decode cX11_symbol 118 = .ok (.goto 4, 3) := by decide +kernel
theorem dX11_symbol_121 : decode cX11_symbol 121 = .ok (.iconst 0, 1) := by decide +kernel
theorem dX11_symbol_122 : decode cX11_symbol 122 = .ok (.ireturn, 1) := by decide +kernel
theorem dX11_symbol_123 : decode cX11_symbol 123 = .ok (.bipush (-2), 2) := by decide +kernel
theorem dX11_symbol_125 : decode cX11_symbol 125 = .ok (.ireturn, 1) := by decide +kernel
theorem dX11_readings_0 : decode cX11_readings 0 = .ok (.aload_n 0, 1) := by decide +kernel
theorem dX11_readings_1 : decode cX11_readings 1 = .ok (.iload_n 1, 1) := by decide +kernel
theorem dX11_readings_2 : decode cX11_readings 2 = .ok (.invokevirtual 55, 3) := by decide +kernel
theorem dX11_readings_5 : decode cX11_readings 5 = .ok (.astore_n 2, 1) := by decide +kernel
theorem dX11_readings_6 : decode cX11_readings 6 = .ok (.aload_n 2, 1) := by decide +kernel
theorem dX11_readings_7 : decode cX11_readings 7 = .ok (.ifnonnull 6, 3) := by decide +kernel
theorem dX11_readings_10 : decode cX11_readings 10 = .ok (.bipush (-2), 2) := by decide +kernel
theorem dX11_readings_12 : decode cX11_readings 12 = .ok (.ireturn, 1) := by decide +kernel
theorem dX11_readings_13 : decode cX11_readings 13 = .ok (.aload_n 2, 1) := by decide +kernel
theorem dX11_readings_14 : decode cX11_readings 14 = .ok (.getfield 136, 3) := by decide +kernel
theorem dX11_readings_17 : decode cX11_readings 17 = .ok (.ifCond .eq 11, 3) := by decide +kernel
theorem dX11_readings_20 : decode cX11_readings 20 = .ok (.aload_n 0, 1) := by decide +kernel
theorem dX11_readings_21 : decode cX11_readings 21 = .ok (.getfield 24, 3) := by decide +kernel
theorem dX11_readings_24 : decode cX11_readings 24 = .ok (.aload_n 2, 1) := by decide +kernel
theorem dX11_readings_25 : decode cX11_readings 25 = .ok (.invokevirtual 140, 3) := by decide +kernel
theorem dX11_readings_28 : decode cX11_readings 28 = .ok (.aload_n 2, 1) := by decide +kernel
theorem dX11_readings_29 : decode cX11_readings 29 = .ok (.invokevirtual 144, 3) := by decide +kernel
theorem dX11_readings_32 : decode cX11_readings 32 = .ok (.ifCond .eq 8, 3) := by decide +kernel
theorem dX11_readings_35 : decode cX11_readings 35 = .ok (.bipush (-4), 2) := by decide +kernel
theorem dX11_readings_37 : decode cX11_readings 37 = .ok (.goto 7, 3) := by decide +kernel
theorem dX11_readings_40 : decode cX11_readings 40 = .ok (.aload_n 2, 1) := by decide +kernel
theorem dX11_readings_41 : decode cX11_readings 41 = .ok (.getfield 148, 3) := by decide +kernel
theorem dX11_readings_44 : decode cX11_readings 44 = .ok (.ireturn, 1) := by decide +kernel
theorem dX11_stuck_0 : decode cX11_stuck 0 = .ok (.aload_n 0, 1) := by decide +kernel
theorem dX11_stuck_1 : decode cX11_stuck 1 = .ok (.iload_n 1, 1) := by decide +kernel
theorem dX11_stuck_2 : decode cX11_stuck 2 = .ok (.invokevirtual 55, 3) := by decide +kernel
theorem dX11_stuck_5 : decode cX11_stuck 5 = .ok (.astore_n 2, 1) := by decide +kernel
theorem dX11_stuck_6 : decode cX11_stuck 6 = .ok (.aload_n 2, 1) := by decide +kernel
theorem dX11_stuck_7 : decode cX11_stuck 7 = .ok (.ifnonnull 6, 3) := by decide +kernel
theorem dX11_stuck_10 : decode cX11_stuck 10 = .ok (.bipush (-2), 2) := by decide +kernel
theorem dX11_stuck_12 : decode cX11_stuck 12 = .ok (.ireturn, 1) := by decide +kernel
theorem dX11_stuck_13 : decode cX11_stuck 13 = .ok (.aload_n 2, 1) := by decide +kernel
theorem dX11_stuck_14 : decode cX11_stuck 14 = .ok (.getfield 136, 3) := by decide +kernel
theorem dX11_stuck_17 : decode cX11_stuck 17 = .ok (.ifCond .eq 11, 3) := by decide +kernel
theorem dX11_stuck_20 : decode cX11_stuck 20 = .ok (.aload_n 0, 1) := by decide +kernel
theorem dX11_stuck_21 : decode cX11_stuck 21 = .ok (.getfield 24, 3) := by decide +kernel
theorem dX11_stuck_24 : decode cX11_stuck 24 = .ok (.aload_n 2, 1) := by decide +kernel
theorem dX11_stuck_25 : decode cX11_stuck 25 = .ok (.invokevirtual 140, 3) := by decide +kernel
theorem dX11_stuck_28 : decode cX11_stuck 28 = .ok (.aload_n 2, 1) := by decide +kernel
theorem dX11_stuck_29 : decode cX11_stuck 29 = .ok (.getfield 151, 3) := by decide +kernel
theorem dX11_stuck_32 : decode cX11_stuck 32 = .ok (.aload_n 2, 1) := by decide +kernel
theorem dX11_stuck_33 : decode cX11_stuck 33 = .ok (.getfield 70, 3) := by decide +kernel
theorem dX11_stuck_36 : decode cX11_stuck 36 = .ok (.getfield 74, 3) := by decide +kernel
theorem dX11_stuck_39 : decode cX11_stuck 39 = .ok (.if_icmp .ne 7, 3) := by decide +kernel
theorem dX11_stuck_42 : decode cX11_stuck 42 = .ok (.iconst (-1), 1) := by decide +kernel
theorem dX11_stuck_43 : decode cX11_stuck 43 = .ok (.goto 7, 3) := by decide +kernel
theorem dX11_stuck_46 : decode cX11_stuck 46 = .ok (.aload_n 2, 1) := by decide +kernel
theorem dX11_stuck_47 : decode cX11_stuck 47 = .ok (.getfield 151, 3) := by decide +kernel
theorem dX11_stuck_50 : decode cX11_stuck 50 = .ok (.ireturn, 1) := by decide +kernel
theorem dX11_strained_0 : decode cX11_strained 0 = .ok (.aload_n 0, 1) := by decide +kernel
theorem dX11_strained_1 : decode cX11_strained 1 = .ok (.iload_n 1, 1) := by decide +kernel
theorem dX11_strained_2 : decode cX11_strained 2 = .ok (.invokevirtual 55, 3) := by decide +kernel
theorem dX11_strained_5 : decode cX11_strained 5 = .ok (.astore_n 3, 1) := by decide +kernel
theorem dX11_strained_6 : decode cX11_strained 6 = .ok (.aload_n 0, 1) := by decide +kernel
theorem dX11_strained_7 : decode cX11_strained 7 = .ok (.aload_n 3, 1) := by decide +kernel
theorem dX11_strained_8 : decode cX11_strained 8 = .ok (.iload_n 2, 1) := by decide +kernel
theorem dX11_strained_9 : decode cX11_strained 9 = .ok (.invokevirtual 154, 3) := by decide +kernel
theorem dX11_strained_12 : decode cX11_strained 12 = .ok (.istore 4, 2) := by decide +kernel
theorem dX11_strained_14 : decode cX11_strained 14 = .ok (.aload_n 3, 1) := by decide +kernel
theorem dX11_strained_15 : decode cX11_strained 15 = .ok (.ifnull 8, 3) := by decide +kernel
theorem dX11_strained_18 : decode cX11_strained 18 = .ok (.iload 4, 2) := by decide +kernel
theorem dX11_strained_20 : decode cX11_strained 20 = .ok (.ifCond .eq 6, 3) := by decide +kernel
theorem dX11_strained_23 : decode cX11_strained 23 = .ok (.iload 4, 2) := by decide +kernel
theorem dX11_strained_25 : decode cX11_strained 25 = .ok (.ireturn, 1) := by decide +kernel
theorem dX11_strained_26 : decode cX11_strained 26 = .ok (.aload_n 0, 1) := by decide +kernel
theorem dX11_strained_27 : decode cX11_strained 27 = .ok (.getfield 24, 3) := by decide +kernel
theorem dX11_strained_30 : decode cX11_strained 30 = .ok (.aload_n 3, 1) := by decide +kernel
theorem dX11_strained_31 : decode cX11_strained 31 = .ok (.iload_n 2, 1) := by decide +kernel
theorem dX11_strained_32 : decode cX11_strained 32 = .ok (.invokevirtual 158, 3) := by decide +kernel
theorem dX11_strained_35 : decode cX11_strained 35 = .ok (.aload_n 0, 1) := by decide +kernel
theorem dX11_strained_36 : decode cX11_strained 36 = .ok (.getfield 24, 3) := by decide +kernel
theorem dX11_strained_39 : decode cX11_strained 39 = .ok (.getfield 162, 3) := by decide +kernel
theorem dX11_strained_42 : decode cX11_strained 42 = .ok (.getfield 166, 3) := by decide +kernel
theorem dX11_strained_45 : decode cX11_strained 45 = .ok (.ireturn, 1) := by decide +kernel
theorem dX11_form_0 : decode cX11_form 0 = .ok (.aload_n 0, 1) := by decide +kernel
theorem dX11_form_1 : decode cX11_form 1 = .ok (.iload_n 1, 1) := by decide +kernel
theorem dX11_form_2 : decode cX11_form 2 = .ok (.invokevirtual 55, 3) := by decide +kernel
theorem dX11_form_5 : decode cX11_form 5 = .ok (.astore 4, 2) := by decide +kernel
theorem dX11_form_7 : decode cX11_form 7 = .ok (.aload_n 0, 1) := by decide +kernel
theorem dX11_form_8 : decode cX11_form 8 = .ok (.aload 4, 2) := by decide +kernel
theorem dX11_form_10 : decode cX11_form 10 = .ok (.iload_n 2, 1) := by decide +kernel
theorem dX11_form_11 : decode cX11_form 11 = .ok (.invokevirtual 154, 3) := by decide +kernel
theorem dX11_form_14 : decode cX11_form 14 = .ok (.istore 5, 2) := by decide +kernel
theorem dX11_form_16 : decode cX11_form 16 = .ok (.aload 4, 2) := by decide +kernel
theorem dX11_form_18 : decode cX11_form 18 = .ok (.ifnull 8, 3) := by decide +kernel
theorem dX11_form_21 : decode cX11_form 21 = .ok (.iload 5, 2) := by decide +kernel
theorem dX11_form_23 : decode cX11_form 23 = .ok (.ifCond .eq 6, 3) := by decide +kernel
theorem dX11_form_26 : decode cX11_form 26 = .ok (.iload 5, 2) := by decide +kernel
theorem dX11_form_28 : decode cX11_form 28 = .ok (.ireturn, 1) := by decide +kernel
theorem dX11_form_29 : decode cX11_form 29 = .ok (.aload_n 0, 1) := by decide +kernel
theorem dX11_form_30 : decode cX11_form 30 = .ok (.getfield 24, 3) := by decide +kernel
theorem dX11_form_33 : decode cX11_form 33 = .ok (.aload 4, 2) := by decide +kernel
theorem dX11_form_35 : decode cX11_form 35 = .ok (.iload_n 2, 1) := by decide +kernel
theorem dX11_form_36 : decode cX11_form 36 = .ok (.invokevirtual 158, 3) := by decide +kernel
theorem dX11_form_39 : decode cX11_form 39 = .ok (.aload_n 0, 1) := by decide +kernel
theorem dX11_form_40 : decode cX11_form 40 = .ok (.getfield 24, 3) := by decide +kernel
theorem dX11_form_43 : decode cX11_form 43 = .ok (.getfield 162, 3) := by decide +kernel
theorem dX11_form_46 : decode cX11_form 46 = .ok (.iload_n 3, 1) := by decide +kernel
theorem dX11_form_47 : decode cX11_form 47 = .ok (.invokevirtual 171, 3) := by decide +kernel
theorem dX11_form_50 : decode cX11_form 50 = .ok (.ireturn, 1) := by decide +kernel
theorem dX11_value_0 : decode cX11_value 0 = .ok (.aload_n 0, 1) := by decide +kernel
theorem dX11_value_1 : decode cX11_value 1 = .ok (.iload_n 1, 1) := by decide +kernel
theorem dX11_value_2 : decode cX11_value 2 = .ok (.invokevirtual 55, 3) := by decide +kernel
theorem dX11_value_5 : decode cX11_value 5 = .ok (.astore 4, 2) := by decide +kernel
theorem dX11_value_7 : decode cX11_value 7 = .ok (.aload_n 0, 1) := by decide +kernel
theorem dX11_value_8 : decode cX11_value 8 = .ok (.aload 4, 2) := by decide +kernel
theorem dX11_value_10 : decode cX11_value 10 = .ok (.iload_n 2, 1) := by decide +kernel
theorem dX11_value_11 : decode cX11_value 11 = .ok (.invokevirtual 154, 3) := by decide +kernel
theorem dX11_value_14 : decode cX11_value 14 = .ok (.istore 5, 2) := by decide +kernel
theorem dX11_value_16 : decode cX11_value 16 = .ok (.aload 4, 2) := by decide +kernel
theorem dX11_value_18 : decode cX11_value 18 = .ok (.ifnull 8, 3) := by decide +kernel
theorem dX11_value_21 : decode cX11_value 21 = .ok (.iload 5, 2) := by decide +kernel
theorem dX11_value_23 : decode cX11_value 23 = .ok (.ifCond .eq 6, 3) := by decide +kernel
theorem dX11_value_26 : decode cX11_value 26 = .ok (.iload 5, 2) := by decide +kernel
theorem dX11_value_28 : decode cX11_value 28 = .ok (.ireturn, 1) := by decide +kernel
theorem dX11_value_29 : decode cX11_value 29 = .ok (.iload_n 3, 1) := by decide +kernel
theorem dX11_value_30 : decode cX11_value 30 = .ok (.ifCond .lt 15, 3) := by decide +kernel
theorem dX11_value_33 : decode cX11_value 33 = .ok (.iload_n 3, 1) := by decide +kernel
theorem dX11_value_34 : decode cX11_value 34 = .ok (.aload 4, 2) := by decide +kernel
theorem dX11_value_36 : decode cX11_value 36 = .ok (.getfield 70, 3) := by decide +kernel
theorem dX11_value_39 : decode cX11_value 39 = .ok (.getfield 74, 3) := by decide +kernel
theorem dX11_value_42 : decode cX11_value 42 = .ok (.if_icmp .lt 5, 3) := by decide +kernel
theorem dX11_value_45 : decode cX11_value 45 = .ok (.iconst (-1), 1) := by decide +kernel
theorem dX11_value_46 : decode cX11_value 46 = .ok (.ireturn, 1) := by decide +kernel
theorem dX11_value_47 : decode cX11_value 47 = .ok (.aload_n 0, 1) := by decide +kernel
theorem dX11_value_48 : decode cX11_value 48 = .ok (.getfield 24, 3) := by decide +kernel
theorem dX11_value_51 : decode cX11_value 51 = .ok (.aload 4, 2) := by decide +kernel
theorem dX11_value_53 : decode cX11_value 53 = .ok (.iload_n 2, 1) := by decide +kernel
theorem dX11_value_54 : decode cX11_value 54 = .ok (.invokevirtual 158, 3) := by decide +kernel
theorem dX11_value_57 : decode cX11_value 57 = .ok (.aload_n 0, 1) := by decide +kernel
theorem dX11_value_58 : decode cX11_value 58 = .ok (.getfield 24, 3) := by decide +kernel
theorem dX11_value_61 : decode cX11_value 61 = .ok (.getfield 162, 3) := by decide +kernel
theorem dX11_value_64 : decode cX11_value 64 = .ok (.iload_n 3, 1) := by decide +kernel
theorem dX11_value_65 : decode cX11_value 65 = .ok (.invokevirtual 174, 3) := by decide +kernel
theorem dX11_value_68 : decode cX11_value 68 = .ok (.ireturn, 1) := by decide +kernel
theorem dX11_pick_0 : decode cX11_pick 0 = .ok (.aload_n 0, 1) := by decide +kernel
theorem dX11_pick_1 : decode cX11_pick 1 = .ok (.iload_n 1, 1) := by decide +kernel
theorem dX11_pick_2 : decode cX11_pick 2 = .ok (.invokevirtual 55, 3) := by decide +kernel
theorem dX11_pick_5 : decode cX11_pick 5 = .ok (.astore_n 3, 1) := by decide +kernel
theorem dX11_pick_6 : decode cX11_pick 6 = .ok (.aload_n 0, 1) := by decide +kernel
theorem dX11_pick_7 : decode cX11_pick 7 = .ok (.aload_n 3, 1) := by decide +kernel
theorem dX11_pick_8 : decode cX11_pick 8 = .ok (.iload_n 2, 1) := by decide +kernel
theorem dX11_pick_9 : decode cX11_pick 9 = .ok (.invokevirtual 154, 3) := by decide +kernel
theorem dX11_pick_12 : decode cX11_pick 12 = .ok (.istore 4, 2) := by decide +kernel
theorem dX11_pick_14 : decode cX11_pick 14 = .ok (.aload_n 3, 1) := by decide +kernel
theorem dX11_pick_15 : decode cX11_pick 15 = .ok (.ifnull 8, 3) := by decide +kernel
theorem dX11_pick_18 : decode cX11_pick 18 = .ok (.iload 4, 2) := by decide +kernel
theorem dX11_pick_20 : decode cX11_pick 20 = .ok (.ifCond .eq 6, 3) := by decide +kernel
theorem dX11_pick_23 : decode cX11_pick 23 = .ok (.iload 4, 2) := by decide +kernel
theorem dX11_pick_25 : decode cX11_pick 25 = .ok (.ireturn, 1) := by decide +kernel
theorem dX11_pick_26 : decode cX11_pick 26 = .ok (.aload_n 0, 1) := by decide +kernel
theorem dX11_pick_27 : decode cX11_pick 27 = .ok (.getfield 24, 3) := by decide +kernel
theorem dX11_pick_30 : decode cX11_pick 30 = .ok (.aload_n 3, 1) := by decide +kernel
theorem dX11_pick_31 : decode cX11_pick 31 = .ok (.iload_n 2, 1) := by decide +kernel
theorem dX11_pick_32 : decode cX11_pick 32 = .ok (.invokevirtual 158, 3) := by decide +kernel
theorem dX11_pick_35 : decode cX11_pick 35 = .ok (.aload_n 3, 1) := by decide +kernel
theorem dX11_pick_36 : decode cX11_pick 36 = .ok (.getfield 121, 3) := by decide +kernel
theorem dX11_pick_39 : decode cX11_pick 39 = .ok (.istore 5, 2) := by decide +kernel
theorem dX11_pick_41 : decode cX11_pick 41 = .ok (.aload_n 3, 1) := by decide +kernel
theorem dX11_pick_42 : decode cX11_pick 42 = .ok (.iload_n 2, 1) := by decide +kernel
theorem dX11_pick_43 : decode cX11_pick 43 = .ok (.aload_n 0, 1) := by decide +kernel
theorem dX11_pick_44 : decode cX11_pick 44 = .ok (.getfield 24, 3) := by decide +kernel
theorem dX11_pick_47 : decode cX11_pick 47 = .ok (.getfield 162, 3) := by decide +kernel
theorem dX11_pick_50 : decode cX11_pick 50 = .ok (.invokevirtual 177, 3) := by decide +kernel
theorem dX11_pick_53 : decode cX11_pick 53 = .ok (.iload 5, 2) := by decide +kernel
theorem dX11_pick_55 : decode cX11_pick 55 = .ok (.ireturn, 1) := by decide +kernel
theorem dX11_time_0 : decode cX11_time 0 = .ok (.aload_n 0, 1) := by decide +kernel
theorem dX11_time_1 : decode cX11_time 1 = .ok (.iload_n 1, 1) := by decide +kernel
theorem dX11_time_2 : decode cX11_time 2 = .ok (.invokevirtual 55, 3) := by decide +kernel
theorem dX11_time_5 : decode cX11_time 5 = .ok (.astore 4, 2) := by decide +kernel
theorem dX11_time_7 : decode cX11_time 7 = .ok (.aload 4, 2) := by decide +kernel
theorem dX11_time_9 : decode cX11_time 9 = .ok (.ifnull 12, 3) := by decide +kernel
theorem dX11_time_12 : decode cX11_time 12 = .ok (.iload_n 3, 1) := by decide +kernel
theorem dX11_time_13 : decode cX11_time 13 = .ok (.ifCond .lt 8, 3) := by decide +kernel
theorem dX11_time_16 : decode cX11_time 16 = .ok (.iload_n 3, 1) := by decide +kernel
theorem dX11_time_17 : decode cX11_time 17 = .ok (.iconst 1, 1) := by decide +kernel
theorem dX11_time_18 : decode cX11_time 18 = .ok (.if_icmp .le 7, 3) := by decide +kernel
theorem dX11_time_21 : decode cX11_time 21 = .ok (.ldc2_w 181, 3) := by decide +kernel
theorem dX11_time_24 : decode cX11_time 24 = .ok (.lreturn, 1) := by decide +kernel
theorem dX11_time_25 : decode cX11_time 25 = .ok (.aload_n 0, 1) := by decide +kernel
theorem dX11_time_26 : decode cX11_time 26 = .ok (.aload 4, 2) := by decide +kernel
theorem dX11_time_28 : decode cX11_time 28 = .ok (.aload 4, 2) := by decide +kernel
theorem dX11_time_30 : decode cX11_time 30 = .ok (.getfield 121, 3) := by decide +kernel
theorem dX11_time_33 : decode cX11_time 33 = .ok (.invokevirtual 154, 3) := by decide +kernel
theorem dX11_time_36 : decode cX11_time 36 = .ok (.istore 5, 2) := by decide +kernel
theorem dX11_time_38 : decode cX11_time 38 = .ok (.iload 5, 2) := by decide +kernel
theorem dX11_time_40 : decode cX11_time 40 = .ok (.ifCond .eq 7, 3) := by decide +kernel
theorem dX11_time_43 : decode cX11_time 43 = .ok (.iload 5, 2) := by decide +kernel
theorem dX11_time_45 : decode cX11_time 45 = .ok (.i2l, 1) := by decide +kernel
theorem dX11_time_46 : decode cX11_time 46 = .ok (.lreturn, 1) := by decide +kernel
theorem dX11_time_47 : decode cX11_time 47 = .ok (.iload_n 2, 1) := by decide +kernel
theorem dX11_time_48 : decode cX11_time 48 = .ok (.ifCond .lt 15, 3) := by decide +kernel
theorem dX11_time_51 : decode cX11_time 51 = .ok (.iload_n 2, 1) := by decide +kernel
theorem dX11_time_52 : decode cX11_time 52 = .ok (.aload 4, 2) := by decide +kernel
theorem dX11_time_54 : decode cX11_time 54 = .ok (.getfield 70, 3) := by decide +kernel
theorem dX11_time_57 : decode cX11_time 57 = .ok (.getfield 74, 3) := by decide +kernel
theorem dX11_time_60 : decode cX11_time 60 = .ok (.if_icmp .le 7, 3) := by decide +kernel
theorem dX11_time_63 : decode cX11_time 63 = .ok (.ldc2_w 183, 3) := by decide +kernel
theorem dX11_time_66 : decode cX11_time 66 = .ok (.lreturn, 1) := by decide +kernel
theorem dX11_time_67 : decode cX11_time 67 = .ok (.aload_n 0, 1) := by decide +kernel
theorem dX11_time_68 : decode cX11_time 68 = .ok (.getfield 38, 3) := by decide +kernel
theorem dX11_time_71 : decode cX11_time 71 = .ok (.aload 4, 2) := by decide +kernel
theorem dX11_time_73 : decode cX11_time 73 = .ok (.invokevirtual 185, 3) := by decide +kernel
theorem dX11_time_76 : decode cX11_time 76 = .ok (.iload_n 3, 1) := by decide +kernel
theorem dX11_time_77 : decode cX11_time 77 = .ok (.ifCond .ne 14, 3) := by decide +kernel
theorem dX11_time_80 : decode cX11_time 80 = .ok (.aload_n 0, 1) := by decide +kernel
theorem dX11_time_81 : decode cX11_time 81 = .ok (.getfield 38, 3) := by decide +kernel
theorem dX11_time_84 : decode cX11_time 84 = .ok (.iload_n 2, 1) := by decide +kernel
theorem dX11_time_85 : decode cX11_time 85 = .ok (.invokevirtual 188, 3) := by decide +kernel
theorem dX11_time_88 : decode cX11_time 88 = .ok (.goto 11, 3) := by decide +kernel
theorem dX11_time_91 : decode cX11_time 91 = .ok (.aload_n 0, 1) := by decide +kernel
theorem dX11_time_92 : decode cX11_time 92 = .ok (.getfield 38, 3) := by decide +kernel
theorem dX11_time_95 : decode cX11_time 95 = .ok (.iload_n 2, 1) := by decide +kernel
theorem dX11_time_96 : decode cX11_time 96 = .ok (.invokevirtual 192, 3) := by decide +kernel
theorem dX11_time_99 : decode cX11_time 99 = .ok (.lreturn, 1) := by decide +kernel
theorem dX11_at_0 : decode cX11_at 0 = .ok (.aload_n 0, 1) := by decide +kernel
theorem dX11_at_1 : decode cX11_at 1 = .ok (.iload_n 1, 1) := by decide +kernel
theorem dX11_at_2 : decode cX11_at 2 = .ok (.invokevirtual 55, 3) := by decide +kernel
theorem dX11_at_5 : decode cX11_at 5 = .ok (.astore 4, 2) := by decide +kernel
theorem dX11_at_7 : decode cX11_at 7 = .ok (.aload 4, 2) := by decide +kernel
theorem dX11_at_9 : decode cX11_at 9 = .ok (.ifnull 12, 3) := by decide +kernel
theorem dX11_at_12 : decode cX11_at 12 = .ok (.iload_n 2, 1) := by decide +kernel
theorem dX11_at_13 : decode cX11_at 13 = .ok (.ifCond .lt 8, 3) := by decide +kernel
theorem dX11_at_16 : decode cX11_at 16 = .ok (.iload_n 3, 1) := by decide +kernel
theorem dX11_at_17 : decode cX11_at 17 = .ok (.iconst 1, 1) := by decide +kernel
theorem dX11_at_18 : decode cX11_at 18 = .ok (.if_icmp .ge 6, 3) := by decide +kernel
theorem dX11_at_21 : decode cX11_at 21 = .ok (.bipush (-2), 2) := by decide +kernel
theorem dX11_at_23 : decode cX11_at 23 = .ok (.ireturn, 1) := by decide +kernel
theorem dX11_at_24 : decode cX11_at 24 = .ok (.aload_n 0, 1) := by decide +kernel
theorem dX11_at_25 : decode cX11_at 25 = .ok (.aload 4, 2) := by decide +kernel
theorem dX11_at_27 : decode cX11_at 27 = .ok (.aload 4, 2) := by decide +kernel
theorem dX11_at_29 : decode cX11_at 29 = .ok (.getfield 121, 3) := by decide +kernel
theorem dX11_at_32 : decode cX11_at 32 = .ok (.invokevirtual 154, 3) := by decide +kernel
theorem dX11_at_35 : decode cX11_at 35 = .ok (.istore 5, 2) := by decide +kernel
theorem dX11_at_37 : decode cX11_at 37 = .ok (.iload 5, 2) := by decide +kernel
theorem dX11_at_39 : decode cX11_at 39 = .ok (.ifCond .eq 6, 3) := by decide +kernel
theorem dX11_at_42 : decode cX11_at 42 = .ok (.iload 5, 2) := by decide +kernel
theorem dX11_at_44 : decode cX11_at 44 = .ok (.ireturn, 1) := by decide +kernel
theorem dX11_at_45 : decode cX11_at 45 = .ok (.aload_n 0, 1) := by decide +kernel
theorem dX11_at_46 : decode cX11_at 46 = .ok (.getfield 38, 3) := by decide +kernel
theorem dX11_at_49 : decode cX11_at 49 = .ok (.aload 4, 2) := by decide +kernel
theorem dX11_at_51 : decode cX11_at 51 = .ok (.invokevirtual 185, 3) := by decide +kernel
theorem dX11_at_54 : decode cX11_at 54 = .ok (.iconst 0, 1) := by decide +kernel
theorem dX11_at_55 : decode cX11_at 55 = .ok (.istore 6, 2) := by decide +kernel
theorem dX11_at_57 : decode cX11_at 57 = .ok (.iload 6, 2) := by decide +kernel
theorem dX11_at_59 : decode cX11_at 59 = .ok (.aload 4, 2) := by decide +kernel
theorem dX11_at_61 : decode cX11_at 61 = .ok (.getfield 70, 3) := by decide +kernel
theorem dX11_at_64 : decode cX11_at 64 = .ok (.getfield 74, 3) := by decide +kernel
theorem dX11_at_67 : decode cX11_at 67 = .ok (.if_icmp .ge 46, 3) := by decide +kernel
theorem dX11_at_70 : decode cX11_at 70 = .ok (.aload_n 0, 1) := by decide +kernel
theorem dX11_at_71 : decode cX11_at 71 = .ok (.getfield 38, 3) := by decide +kernel
theorem dX11_at_74 : decode cX11_at 74 = .ok (.iload 6, 2) := by decide +kernel
theorem dX11_at_76 : decode cX11_at 76 = .ok (.iload_n 2, 1) := by decide +kernel
theorem dX11_at_77 : decode cX11_at 77 = .ok (.i2l, 1) := by decide +kernel
theorem dX11_at_78 : decode cX11_at 78 = .ok (.iload_n 3, 1) := by decide +kernel
theorem dX11_at_79 : decode cX11_at 79 = .ok (.i2l, 1) := by decide +kernel
theorem dX11_at_80 : decode cX11_at 80 = .ok (.invokevirtual 195, 3) := by decide +kernel
theorem dX11_at_83 : decode cX11_at 83 = .ok (.ifCond .gt 24, 3) := by decide +kernel
theorem dX11_at_86 : decode cX11_at 86 = .ok (.aload_n 0, 1) := by decide +kernel
theorem dX11_at_87 : decode cX11_at 87 = .ok (.getfield 38, 3) := by decide +kernel
theorem dX11_at_90 : decode cX11_at 90 = .ok (.iload 6, 2) := by decide +kernel
theorem dX11_at_92 : decode cX11_at 92 = .ok (.iconst 1, 1) := by decide +kernel
theorem dX11_at_93 : decode cX11_at 93 = .ok (.iadd, 1) := by decide +kernel
theorem dX11_at_94 : decode cX11_at 94 = .ok (.iload_n 2, 1) := by decide +kernel
theorem dX11_at_95 : decode cX11_at 95 = .ok (.i2l, 1) := by decide +kernel
theorem dX11_at_96 : decode cX11_at 96 = .ok (.iload_n 3, 1) := by decide +kernel
theorem dX11_at_97 : decode cX11_at 97 = .ok (.i2l, 1) := by decide +kernel
theorem dX11_at_98 : decode cX11_at 98 = .ok (.invokevirtual 195, 3) := by decide +kernel
theorem dX11_at_101 : decode cX11_at 101 = .ok (.ifCond .le 6, 3) := by decide +kernel
theorem dX11_at_104 : decode cX11_at 104 = .ok (.iload 6, 2) := by decide +kernel
theorem dX11_at_106 : decode cX11_at 106 = .ok (.ireturn, 1) := by decide +kernel
theorem dX11_at_107 : decode cX11_at 107 = .ok (.iinc 6 1, 3) := by decide +kernel
theorem dX11_at_110 : decode cX11_at 110 = .ok (.goto (-53), 3) := by decide +kernel
theorem dX11_at_113 : decode cX11_at 113 = .ok (.iconst (-1), 1) := by decide +kernel
theorem dX11_at_114 : decode cX11_at 114 = .ok (.ireturn, 1) := by decide +kernel
theorem dX11_together_0 : decode cX11_together 0 = .ok (.iconst 1, 1) := by decide +kernel
theorem dX11_together_1 : decode cX11_together 1 = .ok (.istore_n 1, 1) := by decide +kernel
theorem dX11_together_2 : decode cX11_together 2 = .ok (.iconst 0, 1) := by decide +kernel
theorem dX11_together_3 : decode cX11_together 3 = .ok (.istore_n 2, 1) := by decide +kernel
theorem dX11_together_4 : decode cX11_together 4 = .ok (.iconst 0, 1) := by decide +kernel
theorem dX11_together_5 : decode cX11_together 5 = .ok (.istore_n 3, 1) := by decide +kernel
theorem dX11_together_6 : decode cX11_together 6 = .ok (.iload_n 3, 1) := by decide +kernel
theorem dX11_together_7 : decode cX11_together 7 = .ok (.aload_n 0, 1) := by decide +kernel
theorem dX11_together_8 : decode cX11_together 8 = .ok (.getfield 47, 3) := by decide +kernel
theorem dX11_together_11 : decode cX11_together 11 = .ok (.if_icmp .ge 112, 3) := by decide +kernel
theorem dX11_together_14 : decode cX11_together 14 = .ok (.aload_n 0, 1) := by decide +kernel
theorem dX11_together_15 : decode cX11_together 15 = .ok (.iload_n 3, 1) := by decide +kernel
theorem dX11_together_16 : decode cX11_together 16 = .ok (.invokevirtual 55, 3) := by decide +kernel
theorem dX11_together_19 : decode cX11_together 19 = .ok (.astore 4, 2) := by decide +kernel
theorem dX11_together_21 : decode cX11_together 21 = .ok (.aload 4, 2) := by decide +kernel
theorem dX11_together_23 : decode cX11_together 23 = .ok (.ifnonnull 7, 3) := by decide +kernel
theorem dX11_together_26 : decode cX11_together 26 = .ok (.iconst (-1), 1) := by decide +kernel
theorem dX11_together_27 : decode cX11_together 27 = .ok (.goto 14, 3) := by decide +kernel
theorem dX11_together_30 : decode cX11_together 30 = .ok (.aload_n 0, 1) := by decide +kernel
theorem dX11_together_31 : decode cX11_together 31 = .ok (.aload 4, 2) := by decide +kernel
theorem dX11_together_33 : decode cX11_together 33 = .ok (.aload 4, 2) := by decide +kernel
theorem dX11_together_35 : decode cX11_together 35 = .ok (.getfield 121, 3) := by decide +kernel
theorem dX11_together_38 : decode cX11_together 38 = .ok (.invokevirtual 154, 3) := by decide +kernel
theorem dX11_together_41 : decode cX11_together 41 = .ok (.istore 5, 2) := by decide +kernel
theorem dX11_together_43 : decode cX11_together 43 = .ok (.iload_n 2, 1) := by decide +kernel
theorem dX11_together_44 : decode cX11_together 44 = .ok (.ifCond .ne 10, 3) := by decide +kernel
theorem dX11_together_47 : decode cX11_together 47 = .ok (.iload 5, 2) := by decide +kernel
theorem dX11_together_49 : decode cX11_together 49 = .ok (.bipush (-4), 2) := by decide +kernel
theorem dX11_together_51 : decode cX11_together 51 = .ok (.if_icmp .ne 7, 3) := by decide +kernel
theorem dX11_together_54 : decode cX11_together 54 = .ok (.iconst 1, 1) := by decide +kernel
theorem dX11_together_55 : decode cX11_together 55 = .ok (.goto 4, 3) := by decide +kernel
theorem dX11_together_58 : decode cX11_together 58 = .ok (.iconst 0, 1) := by decide +kernel
theorem dX11_together_59 : decode cX11_together 59 = .ok (.istore_n 2, 1) := by decide +kernel
theorem dX11_together_60 : decode cX11_together 60 = .ok (.aload 4, 2) := by decide +kernel
theorem dX11_together_62 : decode cX11_together 62 = .ok (.ifnull 8, 3) := by decide +kernel
theorem dX11_together_65 : decode cX11_together 65 = .ok (.iload 5, 2) := by decide +kernel
theorem dX11_together_67 : decode cX11_together 67 = .ok (.ifCond .eq 8, 3) := by decide +kernel
theorem dX11_together_70 : decode cX11_together 70 = .ok (.iconst 0, 1) := by decide +kernel
theorem dX11_together_71 : decode cX11_together 71 = .ok (.istore_n 1, 1) := by decide +kernel
theorem dX11_together_72 : decode cX11_together 72 = .ok (.goto 45, 3) := by decide +kernel
theorem dX11_together_75 : decode cX11_together 75 = .ok (.iload_n 3, 1) := by decide +kernel
theorem dX11_together_76 : decode cX11_together 76 = .ok (.ifCond .ne 10, 3) := by decide +kernel
theorem dX11_together_79 : decode cX11_together 79 = .ok (.aload_n 0, 1) := by decide +kernel
theorem dX11_together_80 : decode cX11_together 80 = .ok (.getfield 42, 3) := by decide +kernel
theorem dX11_together_83 : decode cX11_together 83 = .ok (.goto 7, 3) := by decide +kernel
theorem dX11_together_86 : decode cX11_together 86 = .ok (.aload_n 0, 1) := by decide +kernel
theorem dX11_together_87 : decode cX11_together 87 = .ok (.getfield 38, 3) := by decide +kernel
theorem dX11_together_90 : decode cX11_together 90 = .ok (.astore 6, 2) := by decide +kernel
theorem dX11_together_92 : decode cX11_together 92 = .ok (.aload 6, 2) := by decide +kernel
theorem dX11_together_94 : decode cX11_together 94 = .ok (.aload 4, 2) := by decide +kernel
theorem dX11_together_96 : decode cX11_together 96 = .ok (.invokevirtual 185, 3) := by decide +kernel
theorem dX11_together_99 : decode cX11_together 99 = .ok (.iload_n 3, 1) := by decide +kernel
theorem dX11_together_100 : decode cX11_together 100 = .ok (.ifCond .le 17, 3) := by decide +kernel
theorem dX11_together_103 : decode cX11_together 103 = .ok (.aload 6, 2) := by decide +kernel
theorem dX11_together_105 : decode cX11_together 105 = .ok (.aload_n 0, 1) := by decide +kernel
theorem dX11_together_106 : decode cX11_together 106 = .ok (.getfield 42, 3) := by decide +kernel
theorem dX11_together_109 : decode cX11_together 109 = .ok (.invokevirtual 199, 3) := by decide +kernel
theorem dX11_together_112 : decode cX11_together 112 = .ok (.ifCond .ne 5, 3) := by decide +kernel
theorem dX11_together_115 : decode cX11_together 115 = .ok (.iconst 0, 1) := by decide +kernel
theorem dX11_together_116 : decode cX11_together 116 = .ok (.istore_n 1, 1) := by decide +kernel
theorem dX11_together_117 : decode cX11_together 117 = .ok (.iinc 3 1, 3) := by decide +kernel
theorem dX11_together_120 : decode cX11_together 120 = .ok (.goto (-114), 3) := by decide +kernel
theorem dX11_together_123 : decode cX11_together 123 = .ok (.iload_n 2, 1) := by decide +kernel
theorem dX11_together_124 : decode cX11_together 124 = .ok (.ifCond .eq 8, 3) := by decide +kernel
theorem dX11_together_127 : decode cX11_together 127 = .ok (.bipush (-4), 2) := by decide +kernel
theorem dX11_together_129 : decode cX11_together 129 = .ok (.goto 4, 3) := by decide +kernel
theorem dX11_together_132 : decode cX11_together 132 = .ok (.iload_n 1, 1) := by decide +kernel
theorem dX11_together_133 : decode cX11_together 133 = .ok (.ireturn, 1) := by decide +kernel
theorem dX11_meet_0 : decode cX11_meet 0 = .ok (.aload_n 0, 1) := by decide +kernel
theorem dX11_meet_1 : decode cX11_meet 1 = .ok (.iload_n 1, 1) := by decide +kernel
theorem dX11_meet_2 : decode cX11_meet 2 = .ok (.invokevirtual 55, 3) := by decide +kernel
theorem dX11_meet_5 : decode cX11_meet 5 = .ok (.astore 4, 2) := by decide +kernel
theorem dX11_meet_7 : decode cX11_meet 7 = .ok (.aload_n 0, 1) := by decide +kernel
theorem dX11_meet_8 : decode cX11_meet 8 = .ok (.iload_n 2, 1) := by decide +kernel
theorem dX11_meet_9 : decode cX11_meet 9 = .ok (.invokevirtual 55, 3) := by decide +kernel
theorem dX11_meet_12 : decode cX11_meet 12 = .ok (.astore 5, 2) := by decide +kernel
theorem dX11_meet_14 : decode cX11_meet 14 = .ok (.aload 4, 2) := by decide +kernel
theorem dX11_meet_16 : decode cX11_meet 16 = .ok (.ifnull 17, 3) := by decide +kernel
theorem dX11_meet_19 : decode cX11_meet 19 = .ok (.aload 5, 2) := by decide +kernel
theorem dX11_meet_21 : decode cX11_meet 21 = .ok (.ifnull 12, 3) := by decide +kernel
theorem dX11_meet_24 : decode cX11_meet 24 = .ok (.iload_n 3, 1) := by decide +kernel
theorem dX11_meet_25 : decode cX11_meet 25 = .ok (.ifCond .lt 8, 3) := by decide +kernel
theorem dX11_meet_28 : decode cX11_meet 28 = .ok (.iload_n 3, 1) := by decide +kernel
theorem dX11_meet_29 : decode cX11_meet 29 = .ok (.iconst 1, 1) := by decide +kernel
theorem dX11_meet_30 : decode cX11_meet 30 = .ok (.if_icmp .le 6, 3) := by decide +kernel
theorem dX11_meet_33 : decode cX11_meet 33 = .ok (.bipush (-2), 2) := by decide +kernel
theorem dX11_meet_35 : decode cX11_meet 35 = .ok (.ireturn, 1) := by decide +kernel
theorem dX11_meet_36 : decode cX11_meet 36 = .ok (.aload_n 0, 1) := by decide +kernel
theorem dX11_meet_37 : decode cX11_meet 37 = .ok (.aload 4, 2) := by decide +kernel
theorem dX11_meet_39 : decode cX11_meet 39 = .ok (.aload 4, 2) := by decide +kernel
theorem dX11_meet_41 : decode cX11_meet 41 = .ok (.getfield 121, 3) := by decide +kernel
theorem dX11_meet_44 : decode cX11_meet 44 = .ok (.invokevirtual 154, 3) := by decide +kernel
theorem dX11_meet_47 : decode cX11_meet 47 = .ok (.istore 6, 2) := by decide +kernel
theorem dX11_meet_49 : decode cX11_meet 49 = .ok (.aload_n 0, 1) := by decide +kernel
theorem dX11_meet_50 : decode cX11_meet 50 = .ok (.aload 5, 2) := by decide +kernel
theorem dX11_meet_52 : decode cX11_meet 52 = .ok (.aload 5, 2) := by decide +kernel
theorem dX11_meet_54 : decode cX11_meet 54 = .ok (.getfield 121, 3) := by decide +kernel
theorem dX11_meet_57 : decode cX11_meet 57 = .ok (.invokevirtual 154, 3) := by decide +kernel
theorem dX11_meet_60 : decode cX11_meet 60 = .ok (.istore 7, 2) := by decide +kernel
theorem dX11_meet_62 : decode cX11_meet 62 = .ok (.iload 6, 2) := by decide +kernel
theorem dX11_meet_64 : decode cX11_meet 64 = .ok (.bipush (-4), 2) := by decide +kernel
theorem dX11_meet_66 : decode cX11_meet 66 = .ok (.if_icmp .eq 10, 3) := by decide +kernel
theorem dX11_meet_69 : decode cX11_meet 69 = .ok (.iload 7, 2) := by decide +kernel
theorem dX11_meet_71 : decode cX11_meet 71 = .ok (.bipush (-4), 2) := by decide +kernel
theorem dX11_meet_73 : decode cX11_meet 73 = .ok (.if_icmp .ne 6, 3) := by decide +kernel
theorem dX11_meet_76 : decode cX11_meet 76 = .ok (.bipush (-4), 2) := by decide +kernel
theorem dX11_meet_78 : decode cX11_meet 78 = .ok (.ireturn, 1) := by decide +kernel
theorem dX11_meet_79 : decode cX11_meet 79 = .ok (.iload 6, 2) := by decide +kernel
theorem dX11_meet_81 : decode cX11_meet 81 = .ok (.ifCond .ne 8, 3) := by decide +kernel
theorem dX11_meet_84 : decode cX11_meet 84 = .ok (.iload 7, 2) := by decide +kernel
theorem dX11_meet_86 : decode cX11_meet 86 = .ok (.ifCond .eq 5, 3) := by decide +kernel
theorem dX11_meet_89 : decode cX11_meet 89 = .ok (.iconst (-1), 1) := by decide +kernel
theorem dX11_meet_90 : decode cX11_meet 90 = .ok (.ireturn, 1) := by decide +kernel
theorem dX11_meet_91 : decode cX11_meet 91 = .ok (.aload_n 0, 1) := by decide +kernel
theorem dX11_meet_92 : decode cX11_meet 92 = .ok (.getfield 38, 3) := by decide +kernel
theorem dX11_meet_95 : decode cX11_meet 95 = .ok (.aload 4, 2) := by decide +kernel
theorem dX11_meet_97 : decode cX11_meet 97 = .ok (.invokevirtual 185, 3) := by decide +kernel
theorem dX11_meet_100 : decode cX11_meet 100 = .ok (.aload_n 0, 1) := by decide +kernel
theorem dX11_meet_101 : decode cX11_meet 101 = .ok (.getfield 42, 3) := by decide +kernel
theorem dX11_meet_104 : decode cX11_meet 104 = .ok (.aload 5, 2) := by decide +kernel
theorem dX11_meet_106 : decode cX11_meet 106 = .ok (.invokevirtual 185, 3) := by decide +kernel
theorem dX11_meet_109 : decode cX11_meet 109 = .ok (.iconst 0, 1) := by decide +kernel
theorem dX11_meet_110 : decode cX11_meet 110 = .ok (.istore 8, 2) := by decide +kernel
theorem dX11_meet_112 : decode cX11_meet 112 = .ok (.iconst 0, 1) := by decide +kernel
theorem dX11_meet_113 : decode cX11_meet 113 = .ok (.istore 9, 2) := by decide +kernel
theorem dX11_meet_115 : decode cX11_meet 115 = .ok (.iload 9, 2) := by decide +kernel
theorem dX11_meet_117 : decode cX11_meet 117 = .ok (.aload 4, 2) := by decide +kernel
theorem dX11_meet_119 : decode cX11_meet 119 = .ok (.getfield 70, 3) := by decide +kernel
theorem dX11_meet_122 : decode cX11_meet 122 = .ok (.getfield 74, 3) := by decide +kernel
theorem dX11_meet_125 : decode cX11_meet 125 = .ok (.if_icmp .ge 85, 3) := by decide +kernel
theorem dX11_meet_128 : decode cX11_meet 128 = .ok (.iconst 0, 1) := by decide +kernel
theorem dX11_meet_129 : decode cX11_meet 129 = .ok (.istore 10, 2) := by decide +kernel
theorem dX11_meet_131 : decode cX11_meet 131 = .ok (.iload 10, 2) := by decide +kernel
theorem dX11_meet_133 : decode cX11_meet 133 = .ok (.aload 5, 2) := by decide +kernel
theorem dX11_meet_135 : decode cX11_meet 135 = .ok (.getfield 70, 3) := by decide +kernel
theorem dX11_meet_138 : decode cX11_meet 138 = .ok (.getfield 74, 3) := by decide +kernel
theorem dX11_meet_141 : decode cX11_meet 141 = .ok (.if_icmp .ge 63, 3) := by decide +kernel
theorem dX11_meet_144 : decode cX11_meet 144 = .ok (.aload_n 0, 1) := by decide +kernel
theorem dX11_meet_145 : decode cX11_meet 145 = .ok (.aload 4, 2) := by decide +kernel
theorem dX11_meet_147 : decode cX11_meet 147 = .ok (.getfield 70, 3) := by decide +kernel
theorem dX11_meet_150 : decode cX11_meet 150 = .ok (.iload 9, 2) := by decide +kernel
theorem dX11_meet_152 : decode cX11_meet 152 = .ok (.aload 5, 2) := by decide +kernel
theorem dX11_meet_154 : decode cX11_meet 154 = .ok (.getfield 70, 3) := by decide +kernel
theorem dX11_meet_157 : decode cX11_meet 157 = .ok (.iload 10, 2) := by decide +kernel
theorem dX11_meet_159 : decode cX11_meet 159 = .ok (.invokevirtual 203, 3) := by decide +kernel
theorem dX11_meet_162 : decode cX11_meet 162 = .ok (.ifCond .eq 36, 3) := by decide +kernel
theorem dX11_meet_165 : decode cX11_meet 165 = .ok (.iload_n 3, 1) := by decide +kernel
theorem dX11_meet_166 : decode cX11_meet 166 = .ok (.ifCond .eq 29, 3) := by decide +kernel
theorem dX11_meet_169 : decode cX11_meet 169 = .ok (.aload 4, 2) := by decide +kernel
theorem dX11_meet_171 : decode cX11_meet 171 = .ok (.getfield 70, 3) := by decide +kernel
theorem dX11_meet_174 : decode cX11_meet 174 = .ok (.iload 9, 2) := by decide +kernel
theorem dX11_meet_176 : decode cX11_meet 176 = .ok (.invokevirtual 130, 3) := by decide +kernel
theorem dX11_meet_179 : decode cX11_meet 179 = .ok (.aload 5, 2) := by decide +kernel
theorem dX11_meet_181 : decode cX11_meet 181 = .ok (.getfield 70, 3) := by decide +kernel
theorem dX11_meet_184 : decode cX11_meet 184 = .ok (.iload 10, 2) := by decide +kernel
theorem dX11_meet_186 : decode cX11_meet 186 = .ok (.invokevirtual 130, 3) := by decide +kernel
theorem dX11_meet_189 : decode cX11_meet 189 = .ok (.invokestatic 207, 3) := by decide +kernel
theorem dX11_meet_192 : decode cX11_meet 192 = .ok (.ifCond .eq 6, 3) := by decide +kernel
theorem dX11_meet_195 : decode cX11_meet 195 = .ok (.iinc 8 1, 3) := by decide +kernel
theorem dX11_meet_198 : decode cX11_meet 198 = .ok (.iinc 10 1, 3) := by decide +kernel
theorem dX11_meet_201 : decode cX11_meet 201 = .ok (.goto (-70), 3) := by decide +kernel
theorem dX11_meet_204 : decode cX11_meet 204 = .ok (.iinc 9 1, 3) := by decide +kernel
theorem dX11_meet_207 : decode cX11_meet 207 = .ok (.goto (-92), 3) := by decide +kernel
theorem dX11_meet_210 : decode cX11_meet 210 = .ok (.iload 8, 2) := by decide +kernel
theorem dX11_meet_212 : decode cX11_meet 212 = .ok (.ireturn, 1) := by decide +kernel
theorem dX11_canon_0 : decode cX11_canon 0 = .ok (.aload_n 0, 1) := by decide +kernel
theorem dX11_canon_1 : decode cX11_canon 1 = .ok (.iload_n 1, 1) := by decide +kernel
theorem dX11_canon_2 : decode cX11_canon 2 = .ok (.invokevirtual 55, 3) := by decide +kernel
theorem dX11_canon_5 : decode cX11_canon 5 = .ok (.astore 5, 2) := by decide +kernel
theorem dX11_canon_7 : decode cX11_canon 7 = .ok (.aload 5, 2) := by decide +kernel
theorem dX11_canon_9 : decode cX11_canon 9 = .ok (.ifnull 31, 3) := by decide +kernel
theorem dX11_canon_12 : decode cX11_canon 12 = .ok (.iload_n 2, 1) := by decide +kernel
theorem dX11_canon_13 : decode cX11_canon 13 = .ok (.ifCond .lt 27, 3) := by decide +kernel
theorem dX11_canon_16 : decode cX11_canon 16 = .ok (.iload_n 2, 1) := by decide +kernel
theorem dX11_canon_17 : decode cX11_canon 17 = .ok (.bipush 7, 2) := by decide +kernel
theorem dX11_canon_19 : decode cX11_canon 19 = .ok (.if_icmp .gt 21, 3) := by decide +kernel
theorem dX11_canon_22 : decode cX11_canon 22 = .ok (.iload_n 3, 1) := by decide +kernel
theorem dX11_canon_23 : decode cX11_canon 23 = .ok (.ifCond .lt 17, 3) := by decide +kernel
theorem dX11_canon_26 : decode cX11_canon 26 = .ok (.iload_n 3, 1) := by decide +kernel
theorem dX11_canon_27 : decode cX11_canon 27 = .ok (.ldc 210, 2) := by decide +kernel
theorem dX11_canon_29 : decode cX11_canon 29 = .ok (.if_icmp .gt 11, 3) := by decide +kernel
theorem dX11_canon_32 : decode cX11_canon 32 = .ok (.iload 4, 2) := by decide +kernel
theorem dX11_canon_34 : decode cX11_canon 34 = .ok (.invokestatic 63, 3) := by decide +kernel
theorem dX11_canon_37 : decode cX11_canon 37 = .ok (.ifCond .ne 6, 3) := by decide +kernel
theorem dX11_canon_40 : decode cX11_canon 40 = .ok (.bipush (-2), 2) := by decide +kernel
theorem dX11_canon_42 : decode cX11_canon 42 = .ok (.ireturn, 1) := by decide +kernel
theorem dX11_canon_43 : decode cX11_canon 43 = .ok (.aload_n 0, 1) := by decide +kernel
theorem dX11_canon_44 : decode cX11_canon 44 = .ok (.aload 5, 2) := by decide +kernel
theorem dX11_canon_46 : decode cX11_canon 46 = .ok (.aload 5, 2) := by decide +kernel
theorem dX11_canon_48 : decode cX11_canon 48 = .ok (.getfield 121, 3) := by decide +kernel
theorem dX11_canon_51 : decode cX11_canon 51 = .ok (.invokevirtual 154, 3) := by decide +kernel
theorem dX11_canon_54 : decode cX11_canon 54 = .ok (.istore 6, 2) := by decide +kernel
theorem dX11_canon_56 : decode cX11_canon 56 = .ok (.iload 6, 2) := by decide +kernel
theorem dX11_canon_58 : decode cX11_canon 58 = .ok (.ifCond .eq 6, 3) := by decide +kernel
theorem dX11_canon_61 : decode cX11_canon 61 = .ok (.iload 6, 2) := by decide +kernel
theorem dX11_canon_63 : decode cX11_canon 63 = .ok (.ireturn, 1) := by decide +kernel
theorem dX11_canon_64 : decode cX11_canon 64 = .ok (.aload_n 0, 1) := by decide +kernel
theorem dX11_canon_65 : decode cX11_canon 65 = .ok (.getfield 211, 3) := by decide +kernel
theorem dX11_canon_68 : decode cX11_canon 68 = .ok (.ifCond .lt 15, 3) := by decide +kernel
theorem dX11_canon_71 : decode cX11_canon 71 = .ok (.aload_n 0, 1) := by decide +kernel
theorem dX11_canon_72 : decode cX11_canon 72 = .ok (.getfield 211, 3) := by decide +kernel
theorem dX11_canon_75 : decode cX11_canon 75 = .ok (.aload_n 0, 1) := by decide +kernel
theorem dX11_canon_76 : decode cX11_canon 76 = .ok (.getfield 17, 3) := by decide +kernel
theorem dX11_canon_79 : decode cX11_canon 79 = .ok (.arraylength, 1) := by decide +kernel
theorem dX11_canon_80 : decode cX11_canon 80 = .ok (.if_icmp .lt 7, 3) := by decide +kernel
theorem dX11_canon_83 : decode cX11_canon 83 = .ok (.aconst_null, 1) := by decide +kernel
theorem dX11_canon_84 : decode cX11_canon 84 = .ok (.goto 12, 3) := by decide +kernel
theorem dX11_canon_87 : decode cX11_canon 87 = .ok (.aload_n 0, 1) := by decide +kernel
theorem dX11_canon_88 : decode cX11_canon 88 = .ok (.getfield 17, 3) := by decide +kernel
theorem dX11_canon_91 : decode cX11_canon 91 = .ok (.aload_n 0, 1) := by decide +kernel
theorem dX11_canon_92 : decode cX11_canon 92 = .ok (.getfield 211, 3) := by decide +kernel
theorem dX11_canon_95 : decode cX11_canon 95 = .ok (.aaload, 1) := by decide +kernel
theorem dX11_canon_96 : decode cX11_canon 96 = .ok (.astore 7, 2) := by decide +kernel
theorem dX11_canon_98 : decode cX11_canon 98 = .ok (.aload 7, 2) := by decide +kernel
theorem dX11_canon_100 : decode cX11_canon 100 = .ok (.ifnonnull 6, 3) := by decide +kernel
theorem dX11_canon_103 : decode cX11_canon 103 = .ok (.bipush (-3), 2) := by decide +kernel
theorem dX11_canon_105 : decode cX11_canon 105 = .ok (.ireturn, 1) := by decide +kernel
theorem dX11_canon_106 : decode cX11_canon 106 = .ok (.aload 7, 2) := by decide +kernel
theorem dX11_canon_108 : decode cX11_canon 108 = .ok (.aload 5, 2) := by decide +kernel
theorem dX11_canon_110 : decode cX11_canon 110 = .ok (.iload_n 2, 1) := by decide +kernel
theorem dX11_canon_111 : decode cX11_canon 111 = .ok (.iload_n 3, 1) := by decide +kernel
theorem dX11_canon_112 : decode cX11_canon 112 = .ok (.iload 4, 2) := by decide +kernel
theorem dX11_canon_114 : decode cX11_canon 114 = .ok (.invokevirtual 214, 3) := by decide +kernel
theorem dX11_canon_117 : decode cX11_canon 117 = .ok (.aload_n 0, 1) := by decide +kernel
theorem dX11_canon_118 : decode cX11_canon 118 = .ok (.dup, 1) := by decide +kernel
theorem dX11_canon_119 : decode cX11_canon 119 = .ok (.getfield 211, 3) := by decide +kernel
theorem dX11_canon_122 : decode cX11_canon 122 = .ok (.iconst 1, 1) := by decide +kernel
theorem dX11_canon_123 : decode cX11_canon 123 = .ok (.iadd, 1) := by decide +kernel
theorem dX11_canon_124 : decode cX11_canon 124 = .ok (.putfield 211, 3) := by decide +kernel
theorem dX11_canon_127 : decode cX11_canon 127 = .ok (.aload_n 0, 1) := by decide +kernel
theorem dX11_canon_128 : decode cX11_canon 128 = .ok (.getfield 211, 3) := by decide +kernel
theorem dX11_canon_131 : decode cX11_canon 131 = .ok (.iconst 1, 1) := by decide +kernel
theorem dX11_canon_132 : decode cX11_canon 132 = .ok (.isub, 1) := by decide +kernel
theorem dX11_canon_133 : decode cX11_canon 133 = .ok (.ireturn, 1) := by decide +kernel
theorem dX11_follower_0 : decode cX11_follower 0 = .ok (.iload_n 1, 1) := by decide +kernel
theorem dX11_follower_1 : decode cX11_follower 1 = .ok (.ifCond .lt 29, 3) := by decide +kernel
theorem dX11_follower_4 : decode cX11_follower 4 = .ok (.iload_n 1, 1) := by decide +kernel
theorem dX11_follower_5 : decode cX11_follower 5 = .ok (.aload_n 0, 1) := by decide +kernel
theorem dX11_follower_6 : decode cX11_follower 6 = .ok (.getfield 211, 3) := by decide +kernel
theorem dX11_follower_9 : decode cX11_follower 9 = .ok (.if_icmp .ge 21, 3) := by decide +kernel
theorem dX11_follower_12 : decode cX11_follower 12 = .ok (.iload_n 1, 1) := by decide +kernel
theorem dX11_follower_13 : decode cX11_follower 13 = .ok (.aload_n 0, 1) := by decide +kernel
theorem dX11_follower_14 : decode cX11_follower 14 = .ok (.getfield 17, 3) := by decide +kernel
theorem dX11_follower_17 : decode cX11_follower 17 = .ok (.arraylength, 1) := by decide +kernel
theorem dX11_follower_18 : decode cX11_follower 18 = .ok (.if_icmp .ge 12, 3) := by decide +kernel
theorem dX11_follower_21 : decode cX11_follower 21 = .ok (.iload_n 3, 1) := by decide +kernel
theorem dX11_follower_22 : decode cX11_follower 22 = .ok (.ifCond .lt 8, 3) := by decide +kernel
theorem dX11_follower_25 : decode cX11_follower 25 = .ok (.iload_n 3, 1) := by decide +kernel
theorem dX11_follower_26 : decode cX11_follower 26 = .ok (.iconst 4, 1) := by decide +kernel
theorem dX11_follower_27 : decode cX11_follower 27 = .ok (.if_icmp .le 7, 3) := by decide +kernel
theorem dX11_follower_30 : decode cX11_follower 30 = .ok (.ldc2_w 181, 3) := by decide +kernel
theorem dX11_follower_33 : decode cX11_follower 33 = .ok (.lreturn, 1) := by decide +kernel
theorem dX11_follower_34 : decode cX11_follower 34 = .ok (.aload_n 0, 1) := by decide +kernel
theorem dX11_follower_35 : decode cX11_follower 35 = .ok (.getfield 17, 3) := by decide +kernel
theorem dX11_follower_38 : decode cX11_follower 38 = .ok (.iload_n 1, 1) := by decide +kernel
theorem dX11_follower_39 : decode cX11_follower 39 = .ok (.aaload, 1) := by decide +kernel
theorem dX11_follower_40 : decode cX11_follower 40 = .ok (.astore 4, 2) := by decide +kernel
theorem dX11_follower_42 : decode cX11_follower 42 = .ok (.aload 4, 2) := by decide +kernel
theorem dX11_follower_44 : decode cX11_follower 44 = .ok (.ifnonnull 9, 3) := by decide +kernel
theorem dX11_follower_47 : decode cX11_follower 47 = .ok (.ldc2_w 181, 3) := by decide +kernel
theorem dX11_follower_50 : decode cX11_follower 50 = .ok (.goto 10, 3) := by decide +kernel
theorem dX11_follower_53 : decode cX11_follower 53 = .ok (.aload 4, 2) := by decide +kernel
theorem dX11_follower_55 : decode cX11_follower 55 = .ok (.iload_n 2, 1) := by decide +kernel
theorem dX11_follower_56 : decode cX11_follower 56 = .ok (.iload_n 3, 1) := by decide +kernel
theorem dX11_follower_57 : decode cX11_follower 57 = .ok (.invokevirtual 218, 3) := by decide +kernel
theorem dX11_follower_60 : decode cX11_follower 60 = .ok (.lreturn, 1) := by decide +kernel
theorem dX11_write_0 : decode cX11_write 0 = .ok (.iload_n 1, 1) := by decide +kernel
theorem dX11_write_1 : decode cX11_write 1 = .ok (.ifCond .lt 46, 3) := by decide +kernel
theorem dX11_write_4 : decode cX11_write 4 = .ok (.iload_n 1, 1) := by decide +kernel
theorem dX11_write_5 : decode cX11_write 5 = .ok (.bipush 16, 2) := by decide +kernel
theorem dX11_write_7 : decode cX11_write 7 = .ok (.if_icmp .ge 40, 3) := by decide +kernel
theorem dX11_write_10 : decode cX11_write 10 = .ok (.iload_n 2, 1) := by decide +kernel
theorem dX11_write_11 : decode cX11_write 11 = .ok (.iconst 1, 1) := by decide +kernel
theorem dX11_write_12 : decode cX11_write 12 = .ok (.if_icmp .lt 35, 3) := by decide +kernel
theorem dX11_write_15 : decode cX11_write 15 = .ok (.iload_n 2, 1) := by decide +kernel
theorem dX11_write_16 : decode cX11_write 16 = .ok (.iconst 3, 1) := by decide +kernel
theorem dX11_write_17 : decode cX11_write 17 = .ok (.if_icmp .gt 30, 3) := by decide +kernel
theorem dX11_write_20 : decode cX11_write 20 = .ok (.iload_n 3, 1) := by decide +kernel
theorem dX11_write_21 : decode cX11_write 21 = .ok (.iconst 1, 1) := by decide +kernel
theorem dX11_write_22 : decode cX11_write 22 = .ok (.if_icmp .lt 25, 3) := by decide +kernel
theorem dX11_write_25 : decode cX11_write 25 = .ok (.iload_n 2, 1) := by decide +kernel
theorem dX11_write_26 : decode cX11_write 26 = .ok (.iconst 1, 1) := by decide +kernel
theorem dX11_write_27 : decode cX11_write 27 = .ok (.if_icmp .le 9, 3) := by decide +kernel
theorem dX11_write_30 : decode cX11_write 30 = .ok (.iload 4, 2) := by decide +kernel
theorem dX11_write_32 : decode cX11_write 32 = .ok (.iconst 1, 1) := by decide +kernel
theorem dX11_write_33 : decode cX11_write 33 = .ok (.if_icmp .lt 14, 3) := by decide +kernel
theorem dX11_write_36 : decode cX11_write 36 = .ok (.iload_n 2, 1) := by decide +kernel
theorem dX11_write_37 : decode cX11_write 37 = .ok (.iconst 2, 1) := by decide +kernel
theorem dX11_write_38 : decode cX11_write 38 = .ok (.if_icmp .le 12, 3) := by decide +kernel
theorem dX11_write_41 : decode cX11_write 41 = .ok (.iload 5, 2) := by decide +kernel
theorem dX11_write_43 : decode cX11_write 43 = .ok (.iconst 1, 1) := by decide +kernel
theorem dX11_write_44 : decode cX11_write 44 = .ok (.if_icmp .ge 6, 3) := by decide +kernel
theorem dX11_write_47 : decode cX11_write 47 = .ok (.bipush (-2), 2) := by decide +kernel
theorem dX11_write_49 : decode cX11_write 49 = .ok (.ireturn, 1) := by decide +kernel
theorem dX11_write_50 : decode cX11_write 50 = .ok (.aload_n 0, 1) := by decide +kernel
theorem dX11_write_51 : decode cX11_write 51 = .ok (.getfield 31, 3) := by decide +kernel
theorem dX11_write_54 : decode cX11_write 54 = .ok (.iload_n 1, 1) := by decide +kernel
theorem dX11_write_55 : decode cX11_write 55 = .ok (.iload_n 2, 1) := by decide +kernel
theorem dX11_write_56 : decode cX11_write 56 = .ok (.iload_n 3, 1) := by decide +kernel
theorem dX11_write_57 : decode cX11_write 57 = .ok (.iload 4, 2) := by decide +kernel
theorem dX11_write_59 : decode cX11_write 59 = .ok (.iload 5, 2) := by decide +kernel
theorem dX11_write_61 : decode cX11_write 61 = .ok (.invokevirtual 222, 3) := by decide +kernel
theorem dX11_write_64 : decode cX11_write 64 = .ok (.iconst 0, 1) := by decide +kernel
theorem dX11_write_65 : decode cX11_write 65 = .ok (.istore 6, 2) := by decide +kernel
theorem dX11_write_67 : decode cX11_write 67 = .ok (.iload 6, 2) := by decide +kernel
theorem dX11_write_69 : decode cX11_write 69 = .ok (.sipush 10976, 3) := by decide +kernel
theorem dX11_write_72 : decode cX11_write 72 = .ok (.if_icmp .ge 51, 3) := by decide +kernel
theorem dX11_write_75 : decode cX11_write 75 = .ok (.aload_n 0, 1) := by decide +kernel
theorem dX11_write_76 : decode cX11_write 76 = .ok (.getfield 31, 3) := by decide +kernel
theorem dX11_write_79 : decode cX11_write 79 = .ok (.invokevirtual 226, 3) := by decide +kernel
theorem dX11_write_82 : decode cX11_write 82 = .ok (.ifCond .eq 41, 3) := by decide +kernel
theorem dX11_write_85 : decode cX11_write 85 = .ok (.aload_n 0, 1) := by decide +kernel
theorem dX11_write_86 : decode cX11_write 86 = .ok (.getfield 24, 3) := by decide +kernel
theorem dX11_write_89 : decode cX11_write 89 = .ok (.aload_n 0, 1) := by decide +kernel
theorem dX11_write_90 : decode cX11_write 90 = .ok (.getfield 31, 3) := by decide +kernel
theorem dX11_write_93 : decode cX11_write 93 = .ok (.getfield 229, 3) := by decide +kernel
theorem dX11_write_96 : decode cX11_write 96 = .ok (.invokevirtual 140, 3) := by decide +kernel
theorem dX11_write_99 : decode cX11_write 99 = .ok (.aload_n 0, 1) := by decide +kernel
theorem dX11_write_100 : decode cX11_write 100 = .ok (.getfield 31, 3) := by decide +kernel
theorem dX11_write_103 : decode cX11_write 103 = .ok (.invokevirtual 232, 3) := by decide +kernel
theorem dX11_write_106 : decode cX11_write 106 = .ok (.ifCond .eq 11, 3) := by decide +kernel
theorem dX11_write_109 : decode cX11_write 109 = .ok (.aload_n 0, 1) := by decide +kernel
theorem dX11_write_110 : decode cX11_write 110 = .ok (.getfield 31, 3) := by decide +kernel
theorem dX11_write_113 : decode cX11_write 113 = .ok (.invokevirtual 235, 3) := by decide +kernel
theorem dX11_write_116 : decode cX11_write 116 = .ok (.ireturn, 1) := by decide +kernel
theorem dX11_write_117 : decode cX11_write 117 = .ok (.iinc 6 1, 3) := by decide +kernel
theorem dX11_write_120 : decode cX11_write 120 = .ok (.goto (-53), 3) := by decide +kernel
theorem dX11_write_123 : decode cX11_write 123 = .ok (.iconst (-1), 1) := by decide +kernel
theorem dX11_write_124 : decode cX11_write 124 = .ok (.ireturn, 1) := by decide +kernel
theorem dX11_written_0 : decode cX11_written 0 = .ok (.aload_n 0, 1) := by decide +kernel
theorem dX11_written_1 : decode cX11_written 1 = .ok (.getfield 31, 3) := by decide +kernel
theorem dX11_written_4 : decode cX11_written 4 = .ok (.iload_n 1, 1) := by decide +kernel
theorem dX11_written_5 : decode cX11_written 5 = .ok (.invokevirtual 239, 3) := by decide +kernel
theorem dX11_written_8 : decode cX11_written 8 = .ok (.ireturn, 1) := by decide +kernel
theorem dX11_count_0 : decode cX11_count 0 = .ok (.iload_n 1, 1) := by decide +kernel
theorem dX11_count_1 : decode cX11_count 1 = .ok (.tableswitch 42 0 2 #[27, 32, 37], 27) := by decide +kernel
theorem dX11_count_28 : decode cX11_count 28 = .ok (.aload_n 0, 1) := by decide +kernel
theorem dX11_count_29 : decode cX11_count 29 = .ok (.getfield 47, 3) := by decide +kernel
theorem dX11_count_32 : decode cX11_count 32 = .ok (.ireturn, 1) := by decide +kernel
theorem dX11_count_33 : decode cX11_count 33 = .ok (.aload_n 0, 1) := by decide +kernel
theorem dX11_count_34 : decode cX11_count 34 = .ok (.getfield 211, 3) := by decide +kernel
theorem dX11_count_37 : decode cX11_count 37 = .ok (.ireturn, 1) := by decide +kernel
theorem dX11_count_38 : decode cX11_count 38 = .ok (.aload_n 0, 1) := by decide +kernel
theorem dX11_count_39 : decode cX11_count 39 = .ok (.invokevirtual 242, 3) := by decide +kernel
theorem dX11_count_42 : decode cX11_count 42 = .ok (.ireturn, 1) := by decide +kernel
theorem dX11_count_43 : decode cX11_count 43 = .ok (.bipush (-2), 2) := by decide +kernel
theorem dX11_count_45 : decode cX11_count 45 = .ok (.ireturn, 1) := by decide +kernel
theorem dX11_voiceAt_0 : decode cX11_voiceAt 0 = .ok (.iload_n 1, 1) := by decide +kernel
theorem dX11_voiceAt_1 : decode cX11_voiceAt 1 = .ok (.ifCond .lt 20, 3) := by decide +kernel
theorem dX11_voiceAt_4 : decode cX11_voiceAt 4 = .ok (.iload_n 1, 1) := by decide +kernel
theorem dX11_voiceAt_5 : decode cX11_voiceAt 5 = .ok (.aload_n 0, 1) := by decide +kernel
theorem dX11_voiceAt_6 : decode cX11_voiceAt 6 = .ok (.getfield 47, 3) := by decide +kernel
theorem dX11_voiceAt_9 : decode cX11_voiceAt 9 = .ok (.if_icmp .ge 12, 3) := by decide +kernel
theorem dX11_voiceAt_12 : decode cX11_voiceAt 12 = .ok (.iload_n 1, 1) := by decide +kernel
theorem dX11_voiceAt_13 : decode cX11_voiceAt 13 = .ok (.aload_n 0, 1) := by decide +kernel
theorem dX11_voiceAt_14 : decode cX11_voiceAt 14 = .ok (.getfield 11, 3) := by decide +kernel
theorem dX11_voiceAt_17 : decode cX11_voiceAt 17 = .ok (.arraylength, 1) := by decide +kernel
theorem dX11_voiceAt_18 : decode cX11_voiceAt 18 = .ok (.if_icmp .lt 7, 3) := by decide +kernel
theorem dX11_voiceAt_21 : decode cX11_voiceAt 21 = .ok (.aconst_null, 1) := by decide +kernel
theorem dX11_voiceAt_22 : decode cX11_voiceAt 22 = .ok (.goto 9, 3) := by decide +kernel
theorem dX11_voiceAt_25 : decode cX11_voiceAt 25 = .ok (.aload_n 0, 1) := by decide +kernel
theorem dX11_voiceAt_26 : decode cX11_voiceAt 26 = .ok (.getfield 11, 3) := by decide +kernel
theorem dX11_voiceAt_29 : decode cX11_voiceAt 29 = .ok (.iload_n 1, 1) := by decide +kernel
theorem dX11_voiceAt_30 : decode cX11_voiceAt 30 = .ok (.aaload, 1) := by decide +kernel
theorem dX11_voiceAt_31 : decode cX11_voiceAt 31 = .ok (.areturn, 1) := by decide +kernel
theorem dX11_symbolsOfAll_0 : decode cX11_symbolsOfAll 0 = .ok (.iconst 0, 1) := by decide +kernel
theorem dX11_symbolsOfAll_1 : decode cX11_symbolsOfAll 1 = .ok (.istore_n 1, 1) := by decide +kernel
theorem dX11_symbolsOfAll_2 : decode cX11_symbolsOfAll 2 = .ok (.iconst 0, 1) := by decide +kernel
theorem dX11_symbolsOfAll_3 : decode cX11_symbolsOfAll 3 = .ok (.istore_n 2, 1) := by decide +kernel
theorem dX11_symbolsOfAll_4 : decode cX11_symbolsOfAll 4 = .ok (.iload_n 2, 1) := by decide +kernel
theorem dX11_symbolsOfAll_5 : decode cX11_symbolsOfAll 5 = .ok (.aload_n 0, 1) := by decide +kernel
theorem dX11_symbolsOfAll_6 : decode cX11_symbolsOfAll 6 = .ok (.getfield 47, 3) := by decide +kernel
theorem dX11_symbolsOfAll_9 : decode cX11_symbolsOfAll 9 = .ok (.if_icmp .ge 29, 3) := by decide +kernel
theorem dX11_symbolsOfAll_12 : decode cX11_symbolsOfAll 12 = .ok (.aload_n 0, 1) := by decide +kernel
theorem dX11_symbolsOfAll_13 : decode cX11_symbolsOfAll 13 = .ok (.iload_n 2, 1) := by decide +kernel
theorem dX11_symbolsOfAll_14 : decode cX11_symbolsOfAll 14 = .ok (.invokevirtual 55, 3) := by decide +kernel
theorem dX11_symbolsOfAll_17 : decode cX11_symbolsOfAll 17 = .ok (.astore_n 3, 1) := by decide +kernel
theorem dX11_symbolsOfAll_18 : decode cX11_symbolsOfAll 18 = .ok (.aload_n 3, 1) := by decide +kernel
theorem dX11_symbolsOfAll_19 : decode cX11_symbolsOfAll 19 = .ok (.ifnull 13, 3) := by decide +kernel
theorem dX11_symbolsOfAll_22 : decode cX11_symbolsOfAll 22 = .ok (.iload_n 1, 1) := by decide +kernel
theorem dX11_symbolsOfAll_23 : decode cX11_symbolsOfAll 23 = .ok (.aload_n 3, 1) := by decide +kernel
theorem dX11_symbolsOfAll_24 : decode cX11_symbolsOfAll 24 = .ok (.getfield 70, 3) := by decide +kernel
theorem dX11_symbolsOfAll_27 : decode cX11_symbolsOfAll 27 = .ok (.getfield 74, 3) := by decide +kernel
theorem dX11_symbolsOfAll_30 : decode cX11_symbolsOfAll 30 = .ok (.iadd, 1) := by decide +kernel
theorem dX11_symbolsOfAll_31 : decode cX11_symbolsOfAll 31 = .ok (.istore_n 1, 1) := by decide +kernel
theorem dX11_symbolsOfAll_32 : decode cX11_symbolsOfAll 32 = .ok (.iinc 2 1, 3) := by decide +kernel
theorem dX11_symbolsOfAll_35 : decode cX11_symbolsOfAll 35 = .ok (.goto (-31), 3) := by decide +kernel
theorem dX11_symbolsOfAll_38 : decode cX11_symbolsOfAll 38 = .ok (.iload_n 1, 1) := by decide +kernel
theorem dX11_symbolsOfAll_39 : decode cX11_symbolsOfAll 39 = .ok (.ireturn, 1) := by decide +kernel
theorem dX11_refusalOf_0 : decode cX11_refusalOf 0 = .ok (.aload_n 1, 1) := by decide +kernel
theorem dX11_refusalOf_1 : decode cX11_refusalOf 1 = .ok (.ifnonnull 6, 3) := by decide +kernel
theorem dX11_refusalOf_4 : decode cX11_refusalOf 4 = .ok (.bipush (-2), 2) := by decide +kernel
theorem dX11_refusalOf_6 : decode cX11_refusalOf 6 = .ok (.ireturn, 1) := by decide +kernel
theorem dX11_refusalOf_7 : decode cX11_refusalOf 7 = .ok (.aload_n 1, 1) := by decide +kernel
theorem dX11_refusalOf_8 : decode cX11_refusalOf 8 = .ok (.getfield 136, 3) := by decide +kernel
theorem dX11_refusalOf_11 : decode cX11_refusalOf 11 = .ok (.ifCond .eq 11, 3) := by decide +kernel
theorem dX11_refusalOf_14 : decode cX11_refusalOf 14 = .ok (.aload_n 0, 1) := by decide +kernel
theorem dX11_refusalOf_15 : decode cX11_refusalOf 15 = .ok (.getfield 24, 3) := by decide +kernel
theorem dX11_refusalOf_18 : decode cX11_refusalOf 18 = .ok (.aload_n 1, 1) := by decide +kernel
theorem dX11_refusalOf_19 : decode cX11_refusalOf 19 = .ok (.invokevirtual 140, 3) := by decide +kernel
theorem dX11_refusalOf_22 : decode cX11_refusalOf 22 = .ok (.aload_n 1, 1) := by decide +kernel
theorem dX11_refusalOf_23 : decode cX11_refusalOf 23 = .ok (.invokevirtual 144, 3) := by decide +kernel
theorem dX11_refusalOf_26 : decode cX11_refusalOf 26 = .ok (.ifCond .eq 6, 3) := by decide +kernel
theorem dX11_refusalOf_29 : decode cX11_refusalOf 29 = .ok (.bipush (-4), 2) := by decide +kernel
theorem dX11_refusalOf_31 : decode cX11_refusalOf 31 = .ok (.ireturn, 1) := by decide +kernel
theorem dX11_refusalOf_32 : decode cX11_refusalOf 32 = .ok (.iload_n 2, 1) := by decide +kernel
theorem dX11_refusalOf_33 : decode cX11_refusalOf 33 = .ok (.ifCond .lt 11, 3) := by decide +kernel
theorem dX11_refusalOf_36 : decode cX11_refusalOf 36 = .ok (.iload_n 2, 1) := by decide +kernel
theorem dX11_refusalOf_37 : decode cX11_refusalOf 37 = .ok (.aload_n 1, 1) := by decide +kernel
theorem dX11_refusalOf_38 : decode cX11_refusalOf 38 = .ok (.getfield 148, 3) := by decide +kernel
theorem dX11_refusalOf_41 : decode cX11_refusalOf 41 = .ok (.if_icmp .lt 7, 3) := by decide +kernel
theorem dX11_refusalOf_44 : decode cX11_refusalOf 44 = .ok (.iconst (-1), 1) := by decide +kernel
theorem dX11_refusalOf_45 : decode cX11_refusalOf 45 = .ok (.goto 4, 3) := by decide +kernel
theorem dX11_refusalOf_48 : decode cX11_refusalOf 48 = .ok (.iconst 0, 1) := by decide +kernel
theorem dX11_refusalOf_49 : decode cX11_refusalOf 49 = .ok (.ireturn, 1) := by decide +kernel
theorem dX11_beginTogether_0 : decode cX11_beginTogether 0 = .ok (.aload_n 1, 1) := by decide +kernel
theorem dX11_beginTogether_1 : decode cX11_beginTogether 1 = .ok (.iload_n 2, 1) := by decide +kernel
theorem dX11_beginTogether_2 : decode cX11_beginTogether 2 = .ok (.invokevirtual 79, 3) := by decide +kernel
theorem dX11_beginTogether_5 : decode cX11_beginTogether 5 = .ok (.iconst 1, 1) := by decide +kernel
theorem dX11_beginTogether_6 : decode cX11_beginTogether 6 = .ok (.if_icmp .ne 59, 3) := by decide +kernel
theorem dX11_beginTogether_9 : decode cX11_beginTogether 9 = .ok (.aload_n 3, 1) := by decide +kernel
theorem dX11_beginTogether_10 : decode cX11_beginTogether 10 = .ok (.iload 4, 2) := by decide +kernel
theorem dX11_beginTogether_12 : decode cX11_beginTogether 12 = .ok (.invokevirtual 79, 3) := by decide +kernel
theorem dX11_beginTogether_15 : decode cX11_beginTogether 15 = .ok (.iconst 1, 1) := by decide +kernel
theorem dX11_beginTogether_16 : decode cX11_beginTogether 16 = .ok (.if_icmp .ne 49, 3) := by decide +kernel
theorem dX11_beginTogether_19 : decode cX11_beginTogether 19 = .ok (.aload_n 0, 1) := by decide +kernel
theorem dX11_beginTogether_20 : decode cX11_beginTogether 20 = .ok (.getfield 38, 3) := by decide +kernel
theorem dX11_beginTogether_23 : decode cX11_beginTogether 23 = .ok (.iload_n 2, 1) := by decide +kernel
theorem dX11_beginTogether_24 : decode cX11_beginTogether 24 = .ok (.invokevirtual 188, 3) := by decide +kernel
theorem dX11_beginTogether_27 : decode cX11_beginTogether 27 = .ok (.aload_n 0, 1) := by decide +kernel
theorem dX11_beginTogether_28 : decode cX11_beginTogether 28 = .ok (.getfield 42, 3) := by decide +kernel
theorem dX11_beginTogether_31 : decode cX11_beginTogether 31 = .ok (.iload 4, 2) := by decide +kernel
theorem dX11_beginTogether_33 : decode cX11_beginTogether 33 = .ok (.invokevirtual 188, 3) := by decide +kernel
theorem dX11_beginTogether_36 : decode cX11_beginTogether 36 = .ok (.lcmp, 1) := by decide +kernel
theorem dX11_beginTogether_37 : decode cX11_beginTogether 37 = .ok (.ifCond .ne 28, 3) := by decide +kernel
theorem dX11_beginTogether_40 : decode cX11_beginTogether 40 = .ok (.aload_n 0, 1) := by decide +kernel
theorem dX11_beginTogether_41 : decode cX11_beginTogether 41 = .ok (.getfield 38, 3) := by decide +kernel
theorem dX11_beginTogether_44 : decode cX11_beginTogether 44 = .ok (.iload_n 2, 1) := by decide +kernel
theorem dX11_beginTogether_45 : decode cX11_beginTogether 45 = .ok (.invokevirtual 192, 3) := by decide +kernel
theorem dX11_beginTogether_48 : decode cX11_beginTogether 48 = .ok (.aload_n 0, 1) := by decide +kernel
theorem dX11_beginTogether_49 : decode cX11_beginTogether 49 = .ok (.getfield 42, 3) := by decide +kernel
theorem dX11_beginTogether_52 : decode cX11_beginTogether 52 = .ok (.iload 4, 2) := by decide +kernel
theorem dX11_beginTogether_54 : decode cX11_beginTogether 54 = .ok (.invokevirtual 192, 3) := by decide +kernel
theorem dX11_beginTogether_57 : decode cX11_beginTogether 57 = .ok (.lcmp, 1) := by decide +kernel
theorem dX11_beginTogether_58 : decode cX11_beginTogether 58 = .ok (.ifCond .ne 7, 3) := by decide +kernel
theorem dX11_beginTogether_61 : decode cX11_beginTogether 61 = .ok (.iconst 1, 1) := by decide +kernel
theorem dX11_beginTogether_62 : decode cX11_beginTogether 62 = .ok (.goto 4, 3) := by decide +kernel
theorem dX11_beginTogether_65 : decode cX11_beginTogether 65 = .ok (.iconst 0, 1) := by decide +kernel
theorem dX11_beginTogether_66 : decode cX11_beginTogether 66 = .ok (.ireturn, 1) := by decide +kernel
theorem dX11_isSweet_0 : decode cX11_isSweet 0 = .ok (.iload_n 0, 1) := by decide +kernel
theorem dX11_isSweet_1 : decode cX11_isSweet 1 = .ok (.iload_n 1, 1) := by decide +kernel
theorem dX11_isSweet_2 : decode cX11_isSweet 2 = .ok (.isub, 1) := by decide +kernel
theorem dX11_isSweet_3 : decode cX11_isSweet 3 = .ok (.invokestatic 245, 3) := by decide +kernel
theorem dX11_isSweet_6 : decode cX11_isSweet 6 = .ok (.bipush 7, 2) := by decide +kernel
theorem dX11_isSweet_8 : decode cX11_isSweet 8 = .ok (.irem, 1) := by decide +kernel
theorem dX11_isSweet_9 : decode cX11_isSweet 9 = .ok (.istore_n 2, 1) := by decide +kernel
theorem dX11_isSweet_10 : decode cX11_isSweet 10 = .ok (.iload_n 2, 1) := by decide +kernel
theorem dX11_isSweet_11 : decode cX11_isSweet 11 = .ok (.ifCond .eq 18, 3) := by decide +kernel
theorem dX11_isSweet_14 : decode cX11_isSweet 14 = .ok (.iload_n 2, 1) := by decide +kernel
theorem dX11_isSweet_15 : decode cX11_isSweet 15 = .ok (.iconst 2, 1) := by decide +kernel
theorem dX11_isSweet_16 : decode cX11_isSweet 16 = .ok (.if_icmp .eq 13, 3) := by decide +kernel
theorem dX11_isSweet_19 : decode cX11_isSweet 19 = .ok (.iload_n 2, 1) := by decide +kernel
theorem dX11_isSweet_20 : decode cX11_isSweet 20 = .ok (.iconst 4, 1) := by decide +kernel
theorem dX11_isSweet_21 : decode cX11_isSweet 21 = .ok (.if_icmp .eq 8, 3) := by decide +kernel
theorem dX11_isSweet_24 : decode cX11_isSweet 24 = .ok (.iload_n 2, 1) := by decide +kernel
theorem dX11_isSweet_25 : decode cX11_isSweet 25 = .ok (.iconst 5, 1) := by decide +kernel
theorem dX11_isSweet_26 : decode cX11_isSweet 26 = .ok (.if_icmp .ne 7, 3) := by decide +kernel
theorem dX11_isSweet_29 : decode cX11_isSweet 29 = .ok (.iconst 1, 1) := by decide +kernel
theorem dX11_isSweet_30 : decode cX11_isSweet 30 = .ok (.goto 4, 3) := by decide +kernel
theorem dX11_isSweet_33 : decode cX11_isSweet 33 = .ok (.iconst 0, 1) := by decide +kernel
theorem dX11_isSweet_34 : decode cX11_isSweet 34 = .ok (.ireturn, 1) := by decide +kernel
theorem dX11_isKind_0 : decode cX11_isKind 0 = .ok (.iload_n 0, 1) := by decide +kernel
theorem dX11_isKind_1 : decode cX11_isKind 1 = .ok (.ifCond .lt 13, 3) := by decide +kernel
theorem dX11_isKind_4 : decode cX11_isKind 4 = .ok (.iload_n 0, 1) := by decide +kernel
theorem dX11_isKind_5 : decode cX11_isKind 5 = .ok (.bipush 7, 2) := by decide +kernel
theorem dX11_isKind_7 : decode cX11_isKind 7 = .ok (.if_icmp .ge 7, 3) := by decide +kernel
theorem dX11_isKind_10 : decode cX11_isKind 10 = .ok (.iconst 1, 1) := by decide +kernel
theorem dX11_isKind_11 : decode cX11_isKind 11 = .ok (.goto 4, 3) := by decide +kernel
theorem dX11_isKind_14 : decode cX11_isKind 14 = .ok (.iconst 0, 1) := by decide +kernel
theorem dX11_isKind_15 : decode cX11_isKind 15 = .ok (.ireturn, 1) := by decide +kernel
theorem dX11_isPitch_0 : decode cX11_isPitch 0 = .ok (.iload_n 0, 1) := by decide +kernel
theorem dX11_isPitch_1 : decode cX11_isPitch 1 = .ok (.bipush (-40), 2) := by decide +kernel
theorem dX11_isPitch_3 : decode cX11_isPitch 3 = .ok (.if_icmp .lt 13, 3) := by decide +kernel
theorem dX11_isPitch_6 : decode cX11_isPitch 6 = .ok (.iload_n 0, 1) := by decide +kernel
theorem dX11_isPitch_7 : decode cX11_isPitch 7 = .ok (.bipush 40, 2) := by decide +kernel
theorem dX11_isPitch_9 : decode cX11_isPitch 9 = .ok (.if_icmp .gt 7, 3) := by decide +kernel
theorem dX11_isPitch_12 : decode cX11_isPitch 12 = .ok (.iconst 1, 1) := by decide +kernel
theorem dX11_isPitch_13 : decode cX11_isPitch 13 = .ok (.goto 4, 3) := by decide +kernel
theorem dX11_isPitch_16 : decode cX11_isPitch 16 = .ok (.iconst 0, 1) := by decide +kernel
theorem dX11_isPitch_17 : decode cX11_isPitch 17 = .ok (.ireturn, 1) := by decide +kernel
theorem dX11_pitchOf_0 : decode cX11_pitchOf 0 = .ok (.lload_n 0, 1) := by decide +kernel
theorem dX11_pitchOf_1 : decode cX11_pitchOf 1 = .ok (.bipush 8, 2) := by decide +kernel
theorem dX11_pitchOf_3 : decode cX11_pitchOf 3 = .ok (.iload_n 2, 1) := by decide +kernel
theorem dX11_pitchOf_4 : decode cX11_pitchOf 4 = .ok (.imul, 1) := by decide +kernel
theorem dX11_pitchOf_5 : decode cX11_pitchOf 5 = .ok (.lshr, 1) := by decide +kernel
theorem dX11_pitchOf_6 : decode cX11_pitchOf 6 = .ok (.l2i, 1) := by decide +kernel
theorem dX11_pitchOf_7 : decode cX11_pitchOf 7 = .ok (.i2b, 1) := by decide +kernel
theorem dX11_pitchOf_8 : decode cX11_pitchOf 8 = .ok (.ireturn, 1) := by decide +kernel
theorem dX11_hasPitches_0 : decode cX11_hasPitches 0 = .ok (.iconst 0, 1) := by decide +kernel
theorem dX11_hasPitches_1 : decode cX11_hasPitches 1 = .ok (.istore_n 3, 1) := by decide +kernel
theorem dX11_hasPitches_2 : decode cX11_hasPitches 2 = .ok (.iload_n 3, 1) := by decide +kernel
theorem dX11_hasPitches_3 : decode cX11_hasPitches 3 = .ok (.iload_n 0, 1) := by decide +kernel
theorem dX11_hasPitches_4 : decode cX11_hasPitches 4 = .ok (.if_icmp .ge 22, 3) := by decide +kernel
theorem dX11_hasPitches_7 : decode cX11_hasPitches 7 = .ok (.lload_n 1, 1) := by decide +kernel
theorem dX11_hasPitches_8 : decode cX11_hasPitches 8 = .ok (.iload_n 3, 1) := by decide +kernel
theorem dX11_hasPitches_9 : decode cX11_hasPitches 9 = .ok (.invokestatic 98, 3) := by decide +kernel
theorem dX11_hasPitches_12 : decode cX11_hasPitches 12 = .ok (.invokestatic 63, 3) := by decide +kernel
theorem dX11_hasPitches_15 : decode cX11_hasPitches 15 = .ok (.ifCond .ne 5, 3) := by decide +kernel
theorem dX11_hasPitches_18 : decode cX11_hasPitches 18 = .ok (.iconst 0, 1) := by decide +kernel
theorem dX11_hasPitches_19 : decode cX11_hasPitches 19 = .ok (.ireturn, 1) := by decide +kernel
theorem dX11_hasPitches_20 : decode cX11_hasPitches 20 = .ok (.iinc 3 1, 3) := by decide +kernel
theorem dX11_hasPitches_23 : decode cX11_hasPitches 23 = .ok (.goto (-21), 3) := by decide +kernel
theorem dX11_hasPitches_26 : decode cX11_hasPitches 26 = .ok (.iconst 1, 1) := by decide +kernel
theorem dX11_hasPitches_27 : decode cX11_hasPitches 27 = .ok (.ireturn, 1) := by decide +kernel
theorem dX11_falls_0 : decode cX11_falls 0 = .ok (.lload_n 0, 1) := by decide +kernel
theorem dX11_falls_1 : decode cX11_falls 1 = .ok (.iload_n 2, 1) := by decide +kernel
theorem dX11_falls_2 : decode cX11_falls 2 = .ok (.invokestatic 98, 3) := by decide +kernel
theorem dX11_falls_5 : decode cX11_falls 5 = .ok (.lload_n 0, 1) := by decide +kernel
theorem dX11_falls_6 : decode cX11_falls 6 = .ok (.iload_n 2, 1) := by decide +kernel
theorem dX11_falls_7 : decode cX11_falls 7 = .ok (.iconst 1, 1) := by decide +kernel
theorem dX11_falls_8 : decode cX11_falls 8 = .ok (.isub, 1) := by decide +kernel
theorem dX11_falls_9 : decode cX11_falls 9 = .ok (.invokestatic 98, 3) := by decide +kernel
theorem dX11_falls_12 : decode cX11_falls 12 = .ok (.if_icmp .ge 7, 3) := by decide +kernel
theorem dX11_falls_15 : decode cX11_falls 15 = .ok (.iconst 1, 1) := by decide +kernel
theorem dX11_falls_16 : decode cX11_falls 16 = .ok (.goto 4, 3) := by decide +kernel
theorem dX11_falls_19 : decode cX11_falls 19 = .ok (.iconst 0, 1) := by decide +kernel
theorem dX11_falls_20 : decode cX11_falls 20 = .ok (.ireturn, 1) := by decide +kernel
theorem dX11_isShape_0 : decode cX11_isShape 0 = .ok (.iconst 1, 1) := by decide +kernel
theorem dX11_isShape_1 : decode cX11_isShape 1 = .ok (.istore 4, 2) := by decide +kernel
theorem dX11_isShape_3 : decode cX11_isShape 3 = .ok (.iload 4, 2) := by decide +kernel
theorem dX11_isShape_5 : decode cX11_isShape 5 = .ok (.iload_n 1, 1) := by decide +kernel
theorem dX11_isShape_6 : decode cX11_isShape 6 = .ok (.if_icmp .ge 28, 3) := by decide +kernel
theorem dX11_isShape_9 : decode cX11_isShape 9 = .ok (.lload_n 2, 1) := by decide +kernel
theorem dX11_isShape_10 : decode cX11_isShape 10 = .ok (.iload 4, 2) := by decide +kernel
theorem dX11_isShape_12 : decode cX11_isShape 12 = .ok (.invokestatic 98, 3) := by decide +kernel
theorem dX11_isShape_15 : decode cX11_isShape 15 = .ok (.lload_n 2, 1) := by decide +kernel
theorem dX11_isShape_16 : decode cX11_isShape 16 = .ok (.iload 4, 2) := by decide +kernel
theorem dX11_isShape_18 : decode cX11_isShape 18 = .ok (.iconst 1, 1) := by decide +kernel
theorem dX11_isShape_19 : decode cX11_isShape 19 = .ok (.isub, 1) := by decide +kernel
theorem dX11_isShape_20 : decode cX11_isShape 20 = .ok (.invokestatic 98, 3) := by decide +kernel
theorem dX11_isShape_23 : decode cX11_isShape 23 = .ok (.if_icmp .ne 5, 3) := by decide +kernel
theorem dX11_isShape_26 : decode cX11_isShape 26 = .ok (.iconst 0, 1) := by decide +kernel
theorem dX11_isShape_27 : decode cX11_isShape 27 = .ok (.ireturn, 1) := by decide +kernel
theorem dX11_isShape_28 : decode cX11_isShape 28 = .ok (.iinc 4 1, 3) := by decide +kernel
theorem dX11_isShape_31 : decode cX11_isShape 31 = .ok (.goto (-28), 3) := by decide +kernel
theorem dX11_isShape_34 : decode cX11_isShape 34 = .ok (.iload_n 0, 1) := by decide +kernel
theorem dX11_isShape_35 : decode cX11_isShape 35 = .ok (.iconst 3, 1) := by decide +kernel
theorem dX11_isShape_36 : decode cX11_isShape 36 = .ok (.iand, 1) := by decide +kernel
theorem dX11_isShape_37 : decode cX11_isShape 37 = .ok (.iconst 3, 1) := by decide +kernel
theorem dX11_isShape_38 : decode cX11_isShape 38 = .ok (.if_icmp .ne 7, 3) := by decide +kernel
theorem dX11_isShape_41 : decode cX11_isShape 41 = .ok (.iconst 1, 1) := by decide +kernel
theorem dX11_isShape_42 : decode cX11_isShape 42 = .ok (.goto 4, 3) := by decide +kernel
theorem dX11_isShape_45 : decode cX11_isShape 45 = .ok (.iconst 0, 1) := by decide +kernel
theorem dX11_isShape_46 : decode cX11_isShape 46 = .ok (.istore 4, 2) := by decide +kernel
theorem dX11_isShape_48 : decode cX11_isShape 48 = .ok (.iload_n 0, 1) := by decide +kernel
theorem dX11_isShape_49 : decode cX11_isShape 49 = .ok (.iconst 4, 1) := by decide +kernel
theorem dX11_isShape_50 : decode cX11_isShape 50 = .ok (.iand, 1) := by decide +kernel
theorem dX11_isShape_51 : decode cX11_isShape 51 = .ok (.ifCond .eq 17, 3) := by decide +kernel
theorem dX11_isShape_54 : decode cX11_isShape 54 = .ok (.lload_n 2, 1) := by decide +kernel
theorem dX11_isShape_55 : decode cX11_isShape 55 = .ok (.iload_n 1, 1) := by decide +kernel
theorem dX11_isShape_56 : decode cX11_isShape 56 = .ok (.iconst 1, 1) := by decide +kernel
theorem dX11_isShape_57 : decode cX11_isShape 57 = .ok (.isub, 1) := by decide +kernel
theorem dX11_isShape_58 : decode cX11_isShape 58 = .ok (.invokestatic 250, 3) := by decide +kernel
theorem dX11_isShape_61 : decode cX11_isShape 61 = .ok (.ifCond .ne 7, 3) := by decide +kernel
theorem dX11_isShape_64 : decode cX11_isShape 64 = .ok (.iconst 1, 1) := by decide +kernel
theorem dX11_isShape_65 : decode cX11_isShape 65 = .ok (.goto 4, 3) := by decide +kernel
theorem dX11_isShape_68 : decode cX11_isShape 68 = .ok (.iconst 0, 1) := by decide +kernel
theorem dX11_isShape_69 : decode cX11_isShape 69 = .ok (.istore 5, 2) := by decide +kernel
theorem dX11_isShape_71 : decode cX11_isShape 71 = .ok (.iload 4, 2) := by decide +kernel
theorem dX11_isShape_73 : decode cX11_isShape 73 = .ok (.ifCond .ne 12, 3) := by decide +kernel
theorem dX11_isShape_76 : decode cX11_isShape 76 = .ok (.iload 5, 2) := by decide +kernel
theorem dX11_isShape_78 : decode cX11_isShape 78 = .ok (.ifCond .ne 7, 3) := by decide +kernel
theorem dX11_isShape_81 : decode cX11_isShape 81 = .ok (.iconst 1, 1) := by decide +kernel
theorem dX11_isShape_82 : decode cX11_isShape 82 = .ok (.goto 4, 3) := by decide +kernel
theorem dX11_isShape_85 : decode cX11_isShape 85 = .ok (.iconst 0, 1) := by decide +kernel
theorem dX11_isShape_86 : decode cX11_isShape 86 = .ok (.ireturn, 1) := by decide +kernel
theorem dX11_kindInLigature_0 : decode cX11_kindInLigature 0 = .ok (.iload_n 0, 1) := by decide +kernel
theorem dX11_kindInLigature_1 : decode cX11_kindInLigature 1 = .ok (.iconst 2, 1) := by decide +kernel
theorem dX11_kindInLigature_2 : decode cX11_kindInLigature 2 = .ok (.iand, 1) := by decide +kernel
theorem dX11_kindInLigature_3 : decode cX11_kindInLigature 3 = .ok (.ifCond .eq 11, 3) := by decide +kernel
theorem dX11_kindInLigature_6 : decode cX11_kindInLigature 6 = .ok (.iload 4, 2) := by decide +kernel
theorem dX11_kindInLigature_8 : decode cX11_kindInLigature 8 = .ok (.iconst 2, 1) := by decide +kernel
theorem dX11_kindInLigature_9 : decode cX11_kindInLigature 9 = .ok (.if_icmp .ge 5, 3) := by decide +kernel
theorem dX11_kindInLigature_12 : decode cX11_kindInLigature 12 = .ok (.iconst 3, 1) := by decide +kernel
theorem dX11_kindInLigature_13 : decode cX11_kindInLigature 13 = .ok (.ireturn, 1) := by decide +kernel
theorem dX11_kindInLigature_14 : decode cX11_kindInLigature 14 = .ok (.iload 4, 2) := by decide +kernel
theorem dX11_kindInLigature_16 : decode cX11_kindInLigature 16 = .ok (.ifCond .ne 32, 3) := by decide +kernel
theorem dX11_kindInLigature_19 : decode cX11_kindInLigature 19 = .ok (.iload_n 0, 1) := by decide +kernel
theorem dX11_kindInLigature_20 : decode cX11_kindInLigature 20 = .ok (.iconst 1, 1) := by decide +kernel
theorem dX11_kindInLigature_21 : decode cX11_kindInLigature 21 = .ok (.iand, 1) := by decide +kernel
theorem dX11_kindInLigature_22 : decode cX11_kindInLigature 22 = .ok (.ifCond .eq 7, 3) := by decide +kernel
theorem dX11_kindInLigature_25 : decode cX11_kindInLigature 25 = .ok (.iconst 1, 1) := by decide +kernel
theorem dX11_kindInLigature_26 : decode cX11_kindInLigature 26 = .ok (.goto 4, 3) := by decide +kernel
theorem dX11_kindInLigature_29 : decode cX11_kindInLigature 29 = .ok (.iconst 0, 1) := by decide +kernel
theorem dX11_kindInLigature_30 : decode cX11_kindInLigature 30 = .ok (.istore 5, 2) := by decide +kernel
theorem dX11_kindInLigature_32 : decode cX11_kindInLigature 32 = .ok (.iload 5, 2) := by decide +kernel
theorem dX11_kindInLigature_34 : decode cX11_kindInLigature 34 = .ok (.lload_n 2, 1) := by decide +kernel
theorem dX11_kindInLigature_35 : decode cX11_kindInLigature 35 = .ok (.iconst 1, 1) := by decide +kernel
theorem dX11_kindInLigature_36 : decode cX11_kindInLigature 36 = .ok (.invokestatic 250, 3) := by decide +kernel
theorem dX11_kindInLigature_39 : decode cX11_kindInLigature 39 = .ok (.if_icmp .ne 7, 3) := by decide +kernel
theorem dX11_kindInLigature_42 : decode cX11_kindInLigature 42 = .ok (.iconst 2, 1) := by decide +kernel
theorem dX11_kindInLigature_43 : decode cX11_kindInLigature 43 = .ok (.goto 4, 3) := by decide +kernel
theorem dX11_kindInLigature_46 : decode cX11_kindInLigature 46 = .ok (.iconst 1, 1) := by decide +kernel
theorem dX11_kindInLigature_47 : decode cX11_kindInLigature 47 = .ok (.ireturn, 1) := by decide +kernel
theorem dX11_kindInLigature_48 : decode cX11_kindInLigature 48 = .ok (.iload 4, 2) := by decide +kernel
theorem dX11_kindInLigature_50 : decode cX11_kindInLigature 50 = .ok (.iload_n 1, 1) := by decide +kernel
theorem dX11_kindInLigature_51 : decode cX11_kindInLigature 51 = .ok (.iconst 1, 1) := by decide +kernel
theorem dX11_kindInLigature_52 : decode cX11_kindInLigature 52 = .ok (.isub, 1) := by decide +kernel
theorem dX11_kindInLigature_53 : decode cX11_kindInLigature 53 = .ok (.if_icmp .ge 5, 3) := by decide +kernel
theorem dX11_kindInLigature_56 : decode cX11_kindInLigature 56 = .ok (.iconst 2, 1) := by decide +kernel
theorem dX11_kindInLigature_57 : decode cX11_kindInLigature 57 = .ok (.ireturn, 1) := by decide +kernel
theorem dX11_kindInLigature_58 : decode cX11_kindInLigature 58 = .ok (.iload_n 0, 1) := by decide +kernel
theorem dX11_kindInLigature_59 : decode cX11_kindInLigature 59 = .ok (.bipush 8, 2) := by decide +kernel
theorem dX11_kindInLigature_61 : decode cX11_kindInLigature 61 = .ok (.iand, 1) := by decide +kernel
theorem dX11_kindInLigature_62 : decode cX11_kindInLigature 62 = .ok (.ifCond .eq 5, 3) := by decide +kernel
theorem dX11_kindInLigature_65 : decode cX11_kindInLigature 65 = .ok (.iconst 1, 1) := by decide +kernel
theorem dX11_kindInLigature_66 : decode cX11_kindInLigature 66 = .ok (.ireturn, 1) := by decide +kernel
theorem dX11_kindInLigature_67 : decode cX11_kindInLigature 67 = .ok (.iload_n 0, 1) := by decide +kernel
theorem dX11_kindInLigature_68 : decode cX11_kindInLigature 68 = .ok (.iconst 4, 1) := by decide +kernel
theorem dX11_kindInLigature_69 : decode cX11_kindInLigature 69 = .ok (.iand, 1) := by decide +kernel
theorem dX11_kindInLigature_70 : decode cX11_kindInLigature 70 = .ok (.ifCond .ne 16, 3) := by decide +kernel
theorem dX11_kindInLigature_73 : decode cX11_kindInLigature 73 = .ok (.lload_n 2, 1) := by decide +kernel
theorem dX11_kindInLigature_74 : decode cX11_kindInLigature 74 = .ok (.iload 4, 2) := by decide +kernel
theorem dX11_kindInLigature_76 : decode cX11_kindInLigature 76 = .ok (.invokestatic 250, 3) := by decide +kernel
theorem dX11_kindInLigature_79 : decode cX11_kindInLigature 79 = .ok (.ifCond .eq 7, 3) := by decide +kernel
theorem dX11_kindInLigature_82 : decode cX11_kindInLigature 82 = .ok (.iconst 1, 1) := by decide +kernel
theorem dX11_kindInLigature_83 : decode cX11_kindInLigature 83 = .ok (.goto 4, 3) := by decide +kernel
theorem dX11_kindInLigature_86 : decode cX11_kindInLigature 86 = .ok (.iconst 2, 1) := by decide +kernel
theorem dX11_kindInLigature_87 : decode cX11_kindInLigature 87 = .ok (.ireturn, 1) := by decide +kernel

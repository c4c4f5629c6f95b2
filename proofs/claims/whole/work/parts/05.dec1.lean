theorem dX0_init_0 : decode cX0_init 0 = .ok (.aload_n 0, 1) := by decide +kernel
theorem dX0_init_1 : decode cX0_init 1 = .ok (.invokespecial 1, 3) := by decide +kernel
theorem dX0_init_4 : decode cX0_init 4 = .ok (.aload_n 0, 1) := by decide +kernel
theorem dX0_init_5 : decode cX0_init 5 = .ok (.sipush 128, 3) := by decide +kernel
theorem dX0_init_8 : decode cX0_init 8 = .ok (.newarray .int, 2) := by decide +kernel
theorem dX0_init_10 : decode cX0_init 10 = .ok (.putfield 9, 3) := by decide +kernel
theorem dX0_init_13 : decode cX0_init 13 = .ok (.aload_n 0, 1) := by decide +kernel
theorem dX0_init_14 : decode cX0_init 14 = .ok (.sipush 128, 3) := by decide +kernel
theorem dX0_init_17 : decode cX0_init 17 = .ok (.newarray .int, 2) := by decide +kernel
theorem dX0_init_19 : decode cX0_init 19 = .ok (.putfield 13, 3) := by decide +kernel
theorem dX0_init_22 : decode cX0_init 22 = .ok (.aload_n 0, 1) := by decide +kernel
theorem dX0_init_23 : decode cX0_init 23 = .ok (.sipush 128, 3) := by decide +kernel
theorem dX0_init_26 : decode cX0_init 26 = .ok (.newarray .int, 2) := by decide +kernel
theorem dX0_init_28 : decode cX0_init 28 = .ok (.putfield 16, 3) := by decide +kernel
theorem dX0_init_31 : decode cX0_init 31 = .ok (.aload_n 0, 1) := by decide +kernel
theorem dX0_init_32 : decode cX0_init 32 = .ok (.sipush 128, 3) := by decide +kernel
theorem dX0_init_35 : decode cX0_init 35 = .ok (.newarray .int, 2) := by decide +kernel
theorem dX0_init_37 : decode cX0_init 37 = .ok (.putfield 19, 3) := by decide +kernel
theorem dX0_init_40 : decode cX0_init 40 = .ok (.aload_n 0, 1) := by decide +kernel
theorem dX0_init_41 : decode cX0_init 41 = .ok (.sipush 128, 3) := by decide +kernel
theorem dX0_init_44 : decode cX0_init 44 = .ok (.newarray .int, 2) := by decide +kernel
theorem dX0_init_46 : decode cX0_init 46 = .ok (.putfield 22, 3) := by decide +kernel
theorem dX0_init_49 : decode cX0_init 49 = .ok (.aload_n 0, 1) := by decide +kernel
theorem dX0_init_50 : decode cX0_init 50 = .ok (.new 25, 3) := by decide +kernel
theorem dX0_init_53 : decode cX0_init 53 = .ok (.dup, 1) := by decide +kernel
theorem dX0_init_54 : decode cX0_init 54 = .ok (.invokespecial 27, 3) := by decide +kernel
theorem dX0_init_57 : decode cX0_init 57 = .ok (.putfield 28, 3) := by decide +kernel
theorem dX0_init_60 : decode cX0_init 60 = .ok (.return_, 1) := by decide +kernel
theorem dX0_begin_0 : decode cX0_begin 0 = .ok (.aload_n 0, 1) := by decide +kernel
theorem dX0_begin_1 : decode cX0_begin 1 = .ok (.iconst 0, 1) := by decide +kernel
theorem dX0_begin_2 : decode cX0_begin 2 = .ok (.putfield 32, 3) := by decide +kernel
theorem dX0_begin_5 : decode cX0_begin 5 = .ok (.aload_n 0, 1) := by decide +kernel
theorem dX0_begin_6 : decode cX0_begin 6 = .ok (.iconst 0, 1) := by decide +kernel
theorem dX0_begin_7 : decode cX0_begin 7 = .ok (.iconst 0, 1) := by decide +kernel
theorem dX0_begin_8 : decode cX0_begin 8 = .ok (.iconst 0, 1) := by decide +kernel
theorem dX0_begin_9 : decode cX0_begin 9 = .ok (.iconst 0, 1) := by decide +kernel
theorem dX0_begin_10 : decode cX0_begin 10 = .ok (.aload_n 0, 1) := by decide +kernel
theorem dX0_begin_11 : decode cX0_begin 11 = .ok (.getfield 28, 3) := by decide +kernel
theorem dX0_begin_14 : decode cX0_begin 14 = .ok (.getfield 36, 3) := by decide +kernel
theorem dX0_begin_17 : decode cX0_begin 17 = .ok (.invokevirtual 39, 3) := by decide +kernel
theorem dX0_begin_20 : decode cX0_begin 20 = .ok (.pop, 1) := by decide +kernel
theorem dX0_begin_21 : decode cX0_begin 21 = .ok (.return_, 1) := by decide +kernel
theorem dX0_unit_0 : decode cX0_unit 0 = .ok (.aload_n 0, 1) := by decide +kernel
theorem dX0_unit_1 : decode cX0_unit 1 = .ok (.iconst 1, 1) := by decide +kernel
theorem dX0_unit_2 : decode cX0_unit 2 = .ok (.iload_n 1, 1) := by decide +kernel
theorem dX0_unit_3 : decode cX0_unit 3 = .ok (.iconst 0, 1) := by decide +kernel
theorem dX0_unit_4 : decode cX0_unit 4 = .ok (.iload_n 2, 1) := by decide +kernel
theorem dX0_unit_5 : decode cX0_unit 5 = .ok (.aload_n 0, 1) := by decide +kernel
theorem dX0_unit_6 : decode cX0_unit 6 = .ok (.getfield 28, 3) := by decide +kernel
theorem dX0_unit_9 : decode cX0_unit 9 = .ok (.aload_n 0, 1) := by decide +kernel
theorem dX0_unit_10 : decode cX0_unit 10 = .ok (.getfield 28, 3) := by decide +kernel
theorem dX0_unit_13 : decode cX0_unit 13 = .ok (.getfield 43, 3) := by decide +kernel
theorem dX0_unit_16 : decode cX0_unit 16 = .ok (.iload_n 1, 1) := by decide +kernel
theorem dX0_unit_17 : decode cX0_unit 17 = .ok (.aload_n 0, 1) := by decide +kernel
theorem dX0_unit_18 : decode cX0_unit 18 = .ok (.iload_n 2, 1) := by decide +kernel
theorem dX0_unit_19 : decode cX0_unit 19 = .ok (.invokevirtual 46, 3) := by decide +kernel
theorem dX0_unit_22 : decode cX0_unit 22 = .ok (.invokevirtual 50, 3) := by decide +kernel
theorem dX0_unit_25 : decode cX0_unit 25 = .ok (.invokevirtual 39, 3) := by decide +kernel
theorem dX0_unit_28 : decode cX0_unit 28 = .ok (.ireturn, 1) := by decide +kernel
theorem dX0_pair_0 : decode cX0_pair 0 = .ok (.aload_n 0, 1) := by decide +kernel
theorem dX0_pair_1 : decode cX0_pair 1 = .ok (.iconst 2, 1) := by decide +kernel
theorem dX0_pair_2 : decode cX0_pair 2 = .ok (.iload_n 1, 1) := by decide +kernel
theorem dX0_pair_3 : decode cX0_pair 3 = .ok (.iconst 0, 1) := by decide +kernel
theorem dX0_pair_4 : decode cX0_pair 4 = .ok (.iload_n 2, 1) := by decide +kernel
theorem dX0_pair_5 : decode cX0_pair 5 = .ok (.aload_n 0, 1) := by decide +kernel
theorem dX0_pair_6 : decode cX0_pair 6 = .ok (.getfield 28, 3) := by decide +kernel
theorem dX0_pair_9 : decode cX0_pair 9 = .ok (.aload_n 0, 1) := by decide +kernel
theorem dX0_pair_10 : decode cX0_pair 10 = .ok (.getfield 28, 3) := by decide +kernel
theorem dX0_pair_13 : decode cX0_pair 13 = .ok (.getfield 54, 3) := by decide +kernel
theorem dX0_pair_16 : decode cX0_pair 16 = .ok (.iload_n 1, 1) := by decide +kernel
theorem dX0_pair_17 : decode cX0_pair 17 = .ok (.aload_n 0, 1) := by decide +kernel
theorem dX0_pair_18 : decode cX0_pair 18 = .ok (.iload_n 2, 1) := by decide +kernel
theorem dX0_pair_19 : decode cX0_pair 19 = .ok (.invokevirtual 46, 3) := by decide +kernel
theorem dX0_pair_22 : decode cX0_pair 22 = .ok (.invokevirtual 50, 3) := by decide +kernel
theorem dX0_pair_25 : decode cX0_pair 25 = .ok (.invokevirtual 39, 3) := by decide +kernel
theorem dX0_pair_28 : decode cX0_pair 28 = .ok (.ireturn, 1) := by decide +kernel
theorem dX0_third_0 : decode cX0_third 0 = .ok (.aload_n 0, 1) := by decide +kernel
theorem dX0_third_1 : decode cX0_third 1 = .ok (.iconst 3, 1) := by decide +kernel
theorem dX0_third_2 : decode cX0_third 2 = .ok (.iload_n 1, 1) := by decide +kernel
theorem dX0_third_3 : decode cX0_third 3 = .ok (.iconst 0, 1) := by decide +kernel
theorem dX0_third_4 : decode cX0_third 4 = .ok (.iload_n 2, 1) := by decide +kernel
theorem dX0_third_5 : decode cX0_third 5 = .ok (.aload_n 0, 1) := by decide +kernel
theorem dX0_third_6 : decode cX0_third 6 = .ok (.getfield 28, 3) := by decide +kernel
theorem dX0_third_9 : decode cX0_third 9 = .ok (.aload_n 0, 1) := by decide +kernel
theorem dX0_third_10 : decode cX0_third 10 = .ok (.getfield 28, 3) := by decide +kernel
theorem dX0_third_13 : decode cX0_third 13 = .ok (.getfield 57, 3) := by decide +kernel
theorem dX0_third_16 : decode cX0_third 16 = .ok (.iload_n 1, 1) := by decide +kernel
theorem dX0_third_17 : decode cX0_third 17 = .ok (.aload_n 0, 1) := by decide +kernel
theorem dX0_third_18 : decode cX0_third 18 = .ok (.iload_n 2, 1) := by decide +kernel
theorem dX0_third_19 : decode cX0_third 19 = .ok (.invokevirtual 46, 3) := by decide +kernel
theorem dX0_third_22 : decode cX0_third 22 = .ok (.invokevirtual 50, 3) := by decide +kernel
theorem dX0_third_25 : decode cX0_third 25 = .ok (.invokevirtual 39, 3) := by decide +kernel
theorem dX0_third_28 : decode cX0_third 28 = .ok (.ireturn, 1) := by decide +kernel
theorem dX0_take_0 : decode cX0_take 0 = .ok (.aload_n 0, 1) := by decide +kernel
theorem dX0_take_1 : decode cX0_take 1 = .ok (.iconst 4, 1) := by decide +kernel
theorem dX0_take_2 : decode cX0_take 2 = .ok (.iconst 0, 1) := by decide +kernel
theorem dX0_take_3 : decode cX0_take 3 = .ok (.iload_n 2, 1) := by decide +kernel
theorem dX0_take_4 : decode cX0_take 4 = .ok (.iload_n 3, 1) := by decide +kernel
theorem dX0_take_5 : decode cX0_take 5 = .ok (.aload_n 0, 1) := by decide +kernel
theorem dX0_take_6 : decode cX0_take 6 = .ok (.iload_n 3, 1) := by decide +kernel
theorem dX0_take_7 : decode cX0_take 7 = .ok (.invokevirtual 46, 3) := by decide +kernel
theorem dX0_take_10 : decode cX0_take 10 = .ok (.iconst 1, 1) := by decide +kernel
theorem dX0_take_11 : decode cX0_take 11 = .ok (.ishr, 1) := by decide +kernel
theorem dX0_take_12 : decode cX0_take 12 = .ok (.iload_n 1, 1) := by decide +kernel
theorem dX0_take_13 : decode cX0_take 13 = .ok (.iand, 1) := by decide +kernel
theorem dX0_take_14 : decode cX0_take 14 = .ok (.invokevirtual 39, 3) := by decide +kernel
theorem dX0_take_17 : decode cX0_take 17 = .ok (.ireturn, 1) := by decide +kernel
theorem dX0_takeDotted_0 : decode cX0_takeDotted 0 = .ok (.aload_n 0, 1) := by decide +kernel
theorem dX0_takeDotted_1 : decode cX0_takeDotted 1 = .ok (.iconst 5, 1) := by decide +kernel
theorem dX0_takeDotted_2 : decode cX0_takeDotted 2 = .ok (.iconst 0, 1) := by decide +kernel
theorem dX0_takeDotted_3 : decode cX0_takeDotted 3 = .ok (.iload_n 2, 1) := by decide +kernel
theorem dX0_takeDotted_4 : decode cX0_takeDotted 4 = .ok (.iload_n 3, 1) := by decide +kernel
theorem dX0_takeDotted_5 : decode cX0_takeDotted 5 = .ok (.aload_n 0, 1) := by decide +kernel
theorem dX0_takeDotted_6 : decode cX0_takeDotted 6 = .ok (.iload_n 3, 1) := by decide +kernel
theorem dX0_takeDotted_7 : decode cX0_takeDotted 7 = .ok (.invokevirtual 46, 3) := by decide +kernel
theorem dX0_takeDotted_10 : decode cX0_takeDotted 10 = .ok (.iconst 2, 1) := by decide +kernel
theorem dX0_takeDotted_11 : decode cX0_takeDotted 11 = .ok (.ishr, 1) := by decide +kernel
theorem dX0_takeDotted_12 : decode cX0_takeDotted 12 = .ok (.iload_n 1, 1) := by decide +kernel
theorem dX0_takeDotted_13 : decode cX0_takeDotted 13 = .ok (.iand, 1) := by decide +kernel
theorem dX0_takeDotted_14 : decode cX0_takeDotted 14 = .ok (.invokevirtual 39, 3) := by decide +kernel
theorem dX0_takeDotted_17 : decode cX0_takeDotted 17 = .ok (.ireturn, 1) := by decide +kernel
theorem dX0_divide_0 : decode cX0_divide 0 = .ok (.aload_n 0, 1) := by decide +kernel
theorem dX0_divide_1 : decode cX0_divide 1 = .ok (.bipush 6, 2) := by decide +kernel
theorem dX0_divide_3 : decode cX0_divide 3 = .ok (.iconst 0, 1) := by decide +kernel
theorem dX0_divide_4 : decode cX0_divide 4 = .ok (.iconst 0, 1) := by decide +kernel
theorem dX0_divide_5 : decode cX0_divide 5 = .ok (.iload_n 1, 1) := by decide +kernel
theorem dX0_divide_6 : decode cX0_divide 6 = .ok (.aload_n 0, 1) := by decide +kernel
theorem dX0_divide_7 : decode cX0_divide 7 = .ok (.iload_n 1, 1) := by decide +kernel
theorem dX0_divide_8 : decode cX0_divide 8 = .ok (.invokevirtual 46, 3) := by decide +kernel
theorem dX0_divide_11 : decode cX0_divide 11 = .ok (.aload_n 0, 1) := by decide +kernel
theorem dX0_divide_12 : decode cX0_divide 12 = .ok (.iload_n 1, 1) := by decide +kernel
theorem dX0_divide_13 : decode cX0_divide 13 = .ok (.invokevirtual 46, 3) := by decide +kernel
theorem dX0_divide_16 : decode cX0_divide 16 = .ok (.iconst 1, 1) := by decide +kernel
theorem dX0_divide_17 : decode cX0_divide 17 = .ok (.ishr, 1) := by decide +kernel
theorem dX0_divide_18 : decode cX0_divide 18 = .ok (.aload_n 0, 1) := by decide +kernel
theorem dX0_divide_19 : decode cX0_divide 19 = .ok (.getfield 28, 3) := by decide +kernel
theorem dX0_divide_22 : decode cX0_divide 22 = .ok (.getfield 60, 3) := by decide +kernel
theorem dX0_divide_25 : decode cX0_divide 25 = .ok (.iand, 1) := by decide +kernel
theorem dX0_divide_26 : decode cX0_divide 26 = .ok (.ior, 1) := by decide +kernel
theorem dX0_divide_27 : decode cX0_divide 27 = .ok (.invokevirtual 39, 3) := by decide +kernel
theorem dX0_divide_30 : decode cX0_divide 30 = .ok (.ireturn, 1) := by decide +kernel
theorem dX0_push_0 : decode cX0_push 0 = .ok (.aload_n 0, 1) := by decide +kernel
theorem dX0_push_1 : decode cX0_push 1 = .ok (.getfield 32, 3) := by decide +kernel
theorem dX0_push_4 : decode cX0_push 4 = .ok (.ifCond .lt 13, 3) := by decide +kernel
theorem dX0_push_7 : decode cX0_push 7 = .ok (.aload_n 0, 1) := by decide +kernel
theorem dX0_push_8 : decode cX0_push 8 = .ok (.getfield 32, 3) := by decide +kernel
theorem dX0_push_11 : decode cX0_push 11 = .ok (.sipush 128, 3) := by decide +kernel
theorem dX0_push_14 : decode cX0_push 14 = .ok (.if_icmp .lt 5, 3) := by decide +kernel
theorem dX0_push_17 : decode cX0_push 17 = .ok (.iconst 0, 1) := by decide +kernel
theorem dX0_push_18 : decode cX0_push 18 = .ok (.ireturn, 1) := by decide +kernel
theorem dX0_push_19 : decode cX0_push 19 = .ok (.aload_n 0, 1) := by decide +kernel
theorem dX0_push_20 : decode cX0_push 20 = .ok (.getfield 9, 3) := by decide +kernel
theorem dX0_push_23 : decode cX0_push 23 = .ok (.aload_n 0, 1) := by decide +kernel
theorem dX0_push_24 : decode cX0_push 24 = .ok (.getfield 32, 3) := by decide +kernel
theorem dX0_push_27 : decode cX0_push 27 = .ok (.iload_n 1, 1) := by decide +kernel
theorem dX0_push_28 : decode cX0_push 28 = .ok (.iastore, 1) := by decide +kernel
theorem dX0_push_29 : decode cX0_push 29 = .ok (.aload_n 0, 1) := by decide +kernel
theorem dX0_push_30 : decode cX0_push 30 = .ok (.getfield 13, 3) := by decide +kernel
theorem dX0_push_33 : decode cX0_push 33 = .ok (.aload_n 0, 1) := by decide +kernel
theorem dX0_push_34 : decode cX0_push 34 = .ok (.getfield 32, 3) := by decide +kernel
theorem dX0_push_37 : decode cX0_push 37 = .ok (.iload_n 2, 1) := by decide +kernel
theorem dX0_push_38 : decode cX0_push 38 = .ok (.iastore, 1) := by decide +kernel
theorem dX0_push_39 : decode cX0_push 39 = .ok (.aload_n 0, 1) := by decide +kernel
theorem dX0_push_40 : decode cX0_push 40 = .ok (.getfield 16, 3) := by decide +kernel
theorem dX0_push_43 : decode cX0_push 43 = .ok (.aload_n 0, 1) := by decide +kernel
theorem dX0_push_44 : decode cX0_push 44 = .ok (.getfield 32, 3) := by decide +kernel
theorem dX0_push_47 : decode cX0_push 47 = .ok (.iload_n 3, 1) := by decide +kernel
theorem dX0_push_48 : decode cX0_push 48 = .ok (.iastore, 1) := by decide +kernel
theorem dX0_push_49 : decode cX0_push 49 = .ok (.aload_n 0, 1) := by decide +kernel
theorem dX0_push_50 : decode cX0_push 50 = .ok (.getfield 19, 3) := by decide +kernel
theorem dX0_push_53 : decode cX0_push 53 = .ok (.aload_n 0, 1) := by decide +kernel
theorem dX0_push_54 : decode cX0_push 54 = .ok (.getfield 32, 3) := by decide +kernel
theorem dX0_push_57 : decode cX0_push 57 = .ok (.iload 4, 2) := by decide +kernel
theorem dX0_push_59 : decode cX0_push 59 = .ok (.iastore, 1) := by decide +kernel
theorem dX0_push_60 : decode cX0_push 60 = .ok (.aload_n 0, 1) := by decide +kernel
theorem dX0_push_61 : decode cX0_push 61 = .ok (.getfield 22, 3) := by decide +kernel
theorem dX0_push_64 : decode cX0_push 64 = .ok (.aload_n 0, 1) := by decide +kernel
theorem dX0_push_65 : decode cX0_push 65 = .ok (.getfield 32, 3) := by decide +kernel
theorem dX0_push_68 : decode cX0_push 68 = .ok (.iload 5, 2) := by decide +kernel
theorem dX0_push_70 : decode cX0_push 70 = .ok (.iastore, 1) := by decide +kernel
theorem dX0_push_71 : decode cX0_push 71 = .ok (.aload_n 0, 1) := by decide +kernel
theorem dX0_push_72 : decode cX0_push 72 = .ok (.dup, 1) := by decide +kernel
theorem dX0_push_73 : decode cX0_push 73 = .ok (.getfield 32, 3) := by decide +kernel
theorem dX0_push_76 : decode cX0_push 76 = .ok (.iconst 1, 1) := by decide +kernel
theorem dX0_push_77 : decode cX0_push 77 = .ok (.iadd, 1) := by decide +kernel
theorem dX0_push_78 : decode cX0_push 78 = .ok (.putfield 32, 3) := by decide +kernel
theorem dX0_push_81 : decode cX0_push 81 = .ok (.aload_n 0, 1) := by decide +kernel
theorem dX0_push_82 : decode cX0_push 82 = .ok (.getfield 32, 3) := by decide +kernel
theorem dX0_push_85 : decode cX0_push 85 = .ok (.iconst 1, 1) := by decide +kernel
theorem dX0_push_86 : decode cX0_push 86 = .ok (.isub, 1) := by decide +kernel
theorem dX0_push_87 : decode cX0_push 87 = .ok (.ireturn, 1) := by decide +kernel
theorem dX0_sortOf_0 : decode cX0_sortOf 0 = .ok (.iload_n 1, 1) := by decide +kernel
theorem dX0_sortOf_1 : decode cX0_sortOf 1 = .ok (.ifCond .lt 10, 3) := by decide +kernel
theorem dX0_sortOf_4 : decode cX0_sortOf 4 = .ok (.iload_n 1, 1) := by decide +kernel
theorem dX0_sortOf_5 : decode cX0_sortOf 5 = .ok (.sipush 128, 3) := by decide +kernel
theorem dX0_sortOf_8 : decode cX0_sortOf 8 = .ok (.if_icmp .lt 7, 3) := by decide +kernel
theorem dX0_sortOf_11 : decode cX0_sortOf 11 = .ok (.iconst 0, 1) := by decide +kernel
theorem dX0_sortOf_12 : decode cX0_sortOf 12 = .ok (.goto 9, 3) := by decide +kernel
theorem dX0_sortOf_15 : decode cX0_sortOf 15 = .ok (.aload_n 0, 1) := by decide +kernel
theorem dX0_sortOf_16 : decode cX0_sortOf 16 = .ok (.getfield 9, 3) := by decide +kernel
theorem dX0_sortOf_19 : decode cX0_sortOf 19 = .ok (.iload_n 1, 1) := by decide +kernel
theorem dX0_sortOf_20 : decode cX0_sortOf 20 = .ok (.iaload, 1) := by decide +kernel
theorem dX0_sortOf_21 : decode cX0_sortOf 21 = .ok (.ireturn, 1) := by decide +kernel
theorem dX0_kindOf_0 : decode cX0_kindOf 0 = .ok (.iload_n 1, 1) := by decide +kernel
theorem dX0_kindOf_1 : decode cX0_kindOf 1 = .ok (.ifCond .lt 10, 3) := by decide +kernel
theorem dX0_kindOf_4 : decode cX0_kindOf 4 = .ok (.iload_n 1, 1) := by decide +kernel
theorem dX0_kindOf_5 : decode cX0_kindOf 5 = .ok (.sipush 128, 3) := by decide +kernel
theorem dX0_kindOf_8 : decode cX0_kindOf 8 = .ok (.if_icmp .lt 7, 3) := by decide +kernel
theorem dX0_kindOf_11 : decode cX0_kindOf 11 = .ok (.iconst 0, 1) := by decide +kernel
theorem dX0_kindOf_12 : decode cX0_kindOf 12 = .ok (.goto 9, 3) := by decide +kernel
theorem dX0_kindOf_15 : decode cX0_kindOf 15 = .ok (.aload_n 0, 1) := by decide +kernel
theorem dX0_kindOf_16 : decode cX0_kindOf 16 = .ok (.getfield 13, 3) := by decide +kernel
theorem dX0_kindOf_19 : decode cX0_kindOf 19 = .ok (.iload_n 1, 1) := by decide +kernel
theorem dX0_kindOf_20 : decode cX0_kindOf 20 = .ok (.iaload, 1) := by decide +kernel
theorem dX0_kindOf_21 : decode cX0_kindOf 21 = .ok (.ireturn, 1) := by decide +kernel
theorem dX0_worthOf_0 : decode cX0_worthOf 0 = .ok (.iload_n 1, 1) := by decide +kernel
theorem dX0_worthOf_1 : decode cX0_worthOf 1 = .ok (.ifCond .lt 10, 3) := by decide +kernel
theorem dX0_worthOf_4 : decode cX0_worthOf 4 = .ok (.iload_n 1, 1) := by decide +kernel
theorem dX0_worthOf_5 : decode cX0_worthOf 5 = .ok (.sipush 128, 3) := by decide +kernel
theorem dX0_worthOf_8 : decode cX0_worthOf 8 = .ok (.if_icmp .lt 7, 3) := by decide +kernel
theorem dX0_worthOf_11 : decode cX0_worthOf 11 = .ok (.iconst 0, 1) := by decide +kernel
theorem dX0_worthOf_12 : decode cX0_worthOf 12 = .ok (.goto 9, 3) := by decide +kernel
theorem dX0_worthOf_15 : decode cX0_worthOf 15 = .ok (.aload_n 0, 1) := by decide +kernel
theorem dX0_worthOf_16 : decode cX0_worthOf 16 = .ok (.getfield 16, 3) := by decide +kernel
theorem dX0_worthOf_19 : decode cX0_worthOf 19 = .ok (.iload_n 1, 1) := by decide +kernel
theorem dX0_worthOf_20 : decode cX0_worthOf 20 = .ok (.iaload, 1) := by decide +kernel
theorem dX0_worthOf_21 : decode cX0_worthOf 21 = .ok (.ireturn, 1) := by decide +kernel
theorem dX0_restOf_0 : decode cX0_restOf 0 = .ok (.iload_n 1, 1) := by decide +kernel
theorem dX0_restOf_1 : decode cX0_restOf 1 = .ok (.ifCond .lt 10, 3) := by decide +kernel
theorem dX0_restOf_4 : decode cX0_restOf 4 = .ok (.iload_n 1, 1) := by decide +kernel
theorem dX0_restOf_5 : decode cX0_restOf 5 = .ok (.sipush 128, 3) := by decide +kernel
theorem dX0_restOf_8 : decode cX0_restOf 8 = .ok (.if_icmp .lt 7, 3) := by decide +kernel
theorem dX0_restOf_11 : decode cX0_restOf 11 = .ok (.iconst 0, 1) := by decide +kernel
theorem dX0_restOf_12 : decode cX0_restOf 12 = .ok (.goto 9, 3) := by decide +kernel
theorem dX0_restOf_15 : decode cX0_restOf 15 = .ok (.aload_n 0, 1) := by decide +kernel
theorem dX0_restOf_16 : decode cX0_restOf 16 = .ok (.getfield 19, 3) := by decide +kernel
theorem dX0_restOf_19 : decode cX0_restOf 19 = .ok (.iload_n 1, 1) := by decide +kernel
theorem dX0_restOf_20 : decode cX0_restOf 20 = .ok (.iaload, 1) := by decide +kernel
theorem dX0_restOf_21 : decode cX0_restOf 21 = .ok (.ireturn, 1) := by decide +kernel
theorem dX0_placesOf_0 : decode cX0_placesOf 0 = .ok (.iload_n 1, 1) := by decide +kernel
theorem dX0_placesOf_1 : decode cX0_placesOf 1 = .ok (.ifCond .lt 10, 3) := by decide +kernel
theorem dX0_placesOf_4 : decode cX0_placesOf 4 = .ok (.iload_n 1, 1) := by decide +kernel
theorem dX0_placesOf_5 : decode cX0_placesOf 5 = .ok (.sipush 128, 3) := by decide +kernel
theorem dX0_placesOf_8 : decode cX0_placesOf 8 = .ok (.if_icmp .lt 7, 3) := by decide +kernel
theorem dX0_placesOf_11 : decode cX0_placesOf 11 = .ok (.iconst 0, 1) := by decide +kernel
theorem dX0_placesOf_12 : decode cX0_placesOf 12 = .ok (.goto 9, 3) := by decide +kernel
theorem dX0_placesOf_15 : decode cX0_placesOf 15 = .ok (.aload_n 0, 1) := by decide +kernel
theorem dX0_placesOf_16 : decode cX0_placesOf 16 = .ok (.getfield 22, 3) := by decide +kernel
theorem dX0_placesOf_19 : decode cX0_placesOf 19 = .ok (.iload_n 1, 1) := by decide +kernel
theorem dX0_placesOf_20 : decode cX0_placesOf 20 = .ok (.iaload, 1) := by decide +kernel
theorem dX0_placesOf_21 : decode cX0_placesOf 21 = .ok (.ireturn, 1) := by decide +kernel
theorem dX1_init_0 : decode cX1_init 0 = .ok (.aload_n 0, 1) := by decide +kernel
theorem dX1_init_1 : decode cX1_init 1 = .ok (.invokespecial 3, 3) := by decide +kernel
theorem dX1_init_4 : decode cX1_init 4 = .ok (.aload_n 0, 1) := by decide +kernel
theorem dX1_init_5 : decode cX1_init 5 = .ok (.bipush 48, 2) := by decide +kernel
theorem dX1_init_7 : decode cX1_init 7 = .ok (.newarray .int, 2) := by decide +kernel
theorem dX1_init_9 : decode cX1_init 9 = .ok (.putfield 11, 3) := by decide +kernel
theorem dX1_init_12 : decode cX1_init 12 = .ok (.aload_n 0, 1) := by decide +kernel
theorem dX1_init_13 : decode cX1_init 13 = .ok (.bipush 24, 2) := by decide +kernel
theorem dX1_init_15 : decode cX1_init 15 = .ok (.newarray .int, 2) := by decide +kernel
theorem dX1_init_17 : decode cX1_init 17 = .ok (.putfield 15, 3) := by decide +kernel
theorem dX1_init_20 : decode cX1_init 20 = .ok (.return_, 1) := by decide +kernel
theorem dX1_begin_0 : decode cX1_begin 0 = .ok (.aload_n 0, 1) := by decide +kernel
theorem dX1_begin_1 : decode cX1_begin 1 = .ok (.iconst 0, 1) := by decide +kernel
theorem dX1_begin_2 : decode cX1_begin 2 = .ok (.putfield 18, 3) := by decide +kernel
theorem dX1_begin_5 : decode cX1_begin 5 = .ok (.aload_n 0, 1) := by decide +kernel
theorem dX1_begin_6 : decode cX1_begin 6 = .ok (.iconst 0, 1) := by decide +kernel
theorem dX1_begin_7 : decode cX1_begin 7 = .ok (.putfield 22, 3) := by decide +kernel
theorem dX1_begin_10 : decode cX1_begin 10 = .ok (.aload_n 0, 1) := by decide +kernel
theorem dX1_begin_11 : decode cX1_begin 11 = .ok (.iconst 0, 1) := by decide +kernel
theorem dX1_begin_12 : decode cX1_begin 12 = .ok (.putfield 25, 3) := by decide +kernel
theorem dX1_begin_15 : decode cX1_begin 15 = .ok (.aload_n 0, 1) := by decide +kernel
theorem dX1_begin_16 : decode cX1_begin 16 = .ok (.iconst 1, 1) := by decide +kernel
theorem dX1_begin_17 : decode cX1_begin 17 = .ok (.putfield 28, 3) := by decide +kernel
theorem dX1_begin_20 : decode cX1_begin 20 = .ok (.return_, 1) := by decide +kernel
theorem dX1_tell_0 : decode cX1_tell 0 = .ok (.aload_n 0, 1) := by decide +kernel
theorem dX1_tell_1 : decode cX1_tell 1 = .ok (.getfield 18, 3) := by decide +kernel
theorem dX1_tell_4 : decode cX1_tell 4 = .ok (.ifCond .lt 32, 3) := by decide +kernel
theorem dX1_tell_7 : decode cX1_tell 7 = .ok (.aload_n 0, 1) := by decide +kernel
theorem dX1_tell_8 : decode cX1_tell 8 = .ok (.getfield 18, 3) := by decide +kernel
theorem dX1_tell_11 : decode cX1_tell 11 = .ok (.bipush 48, 2) := by decide +kernel
theorem dX1_tell_13 : decode cX1_tell 13 = .ok (.if_icmp .ge 23, 3) := by decide +kernel
theorem dX1_tell_16 : decode cX1_tell 16 = .ok (.aload_n 0, 1) := by decide +kernel
theorem dX1_tell_17 : decode cX1_tell 17 = .ok (.getfield 11, 3) := by decide +kernel
theorem dX1_tell_20 : decode cX1_tell 20 = .ok (.aload_n 0, 1) := by decide +kernel
theorem dX1_tell_21 : decode cX1_tell 21 = .ok (.getfield 18, 3) := by decide +kernel
theorem dX1_tell_24 : decode cX1_tell 24 = .ok (.iload_n 1, 1) := by decide +kernel
theorem dX1_tell_25 : decode cX1_tell 25 = .ok (.iastore, 1) := by decide +kernel
theorem dX1_tell_26 : decode cX1_tell 26 = .ok (.aload_n 0, 1) := by decide +kernel
theorem dX1_tell_27 : decode cX1_tell 27 = .ok (.dup, 1) := by decide +kernel
theorem dX1_tell_28 : decode cX1_tell 28 = .ok (.getfield 18, 3) := by decide +kernel
theorem dX1_tell_31 : decode cX1_tell 31 = .ok (.iconst 1, 1) := by decide +kernel
theorem dX1_tell_32 : decode cX1_tell 32 = .ok (.iadd, 1) := by decide +kernel
theorem dX1_tell_33 : decode cX1_tell 33 = .ok (.putfield 18, 3) := by decide +kernel
theorem dX1_tell_36 : decode cX1_tell 36 = .ok (.iload_n 1, 1) := by decide +kernel
theorem dX1_tell_37 : decode cX1_tell 37 = .ok (.bipush 7, 2) := by decide +kernel
theorem dX1_tell_39 : decode cX1_tell 39 = .ok (.if_icmp .eq 9, 3) := by decide +kernel
theorem dX1_tell_42 : decode cX1_tell 42 = .ok (.iload_n 1, 1) := by decide +kernel
theorem dX1_tell_43 : decode cX1_tell 43 = .ok (.bipush 12, 2) := by decide +kernel
theorem dX1_tell_45 : decode cX1_tell 45 = .ok (.if_icmp .ne 16, 3) := by decide +kernel
theorem dX1_tell_48 : decode cX1_tell 48 = .ok (.aload_n 0, 1) := by decide +kernel
theorem dX1_tell_49 : decode cX1_tell 49 = .ok (.dup, 1) := by decide +kernel
theorem dX1_tell_50 : decode cX1_tell 50 = .ok (.getfield 22, 3) := by decide +kernel
theorem dX1_tell_53 : decode cX1_tell 53 = .ok (.iconst 1, 1) := by decide +kernel
theorem dX1_tell_54 : decode cX1_tell 54 = .ok (.iadd, 1) := by decide +kernel
theorem dX1_tell_55 : decode cX1_tell 55 = .ok (.putfield 22, 3) := by decide +kernel
theorem dX1_tell_58 : decode cX1_tell 58 = .ok (.goto 38, 3) := by decide +kernel
theorem dX1_tell_61 : decode cX1_tell 61 = .ok (.iload_n 1, 1) := by decide +kernel
theorem dX1_tell_62 : decode cX1_tell 62 = .ok (.bipush 8, 2) := by decide +kernel
theorem dX1_tell_64 : decode cX1_tell 64 = .ok (.if_icmp .ne 16, 3) := by decide +kernel
theorem dX1_tell_67 : decode cX1_tell 67 = .ok (.aload_n 0, 1) := by decide +kernel
theorem dX1_tell_68 : decode cX1_tell 68 = .ok (.dup, 1) := by decide +kernel
theorem dX1_tell_69 : decode cX1_tell 69 = .ok (.getfield 22, 3) := by decide +kernel
theorem dX1_tell_72 : decode cX1_tell 72 = .ok (.iconst 2, 1) := by decide +kernel
theorem dX1_tell_73 : decode cX1_tell 73 = .ok (.iadd, 1) := by decide +kernel
theorem dX1_tell_74 : decode cX1_tell 74 = .ok (.putfield 22, 3) := by decide +kernel
theorem dX1_tell_77 : decode cX1_tell 77 = .ok (.goto 19, 3) := by decide +kernel
theorem dX1_tell_80 : decode cX1_tell 80 = .ok (.iload_n 1, 1) := by decide +kernel
theorem dX1_tell_81 : decode cX1_tell 81 = .ok (.bipush 9, 2) := by decide +kernel
theorem dX1_tell_83 : decode cX1_tell 83 = .ok (.if_icmp .ne 13, 3) := by decide +kernel
theorem dX1_tell_86 : decode cX1_tell 86 = .ok (.aload_n 0, 1) := by decide +kernel
theorem dX1_tell_87 : decode cX1_tell 87 = .ok (.dup, 1) := by decide +kernel
theorem dX1_tell_88 : decode cX1_tell 88 = .ok (.getfield 22, 3) := by decide +kernel
theorem dX1_tell_91 : decode cX1_tell 91 = .ok (.iconst 3, 1) := by decide +kernel
theorem dX1_tell_92 : decode cX1_tell 92 = .ok (.iadd, 1) := by decide +kernel
theorem dX1_tell_93 : decode cX1_tell 93 = .ok (.putfield 22, 3) := by decide +kernel
theorem dX1_tell_96 : decode cX1_tell 96 = .ok (.return_, 1) := by decide +kernel
theorem dX1_take_0 : decode cX1_take 0 = .ok (.aload_n 0, 1) := by decide +kernel
theorem dX1_take_1 : decode cX1_take 1 = .ok (.getfield 25, 3) := by decide +kernel
theorem dX1_take_4 : decode cX1_take 4 = .ok (.ifCond .lt 32, 3) := by decide +kernel
theorem dX1_take_7 : decode cX1_take 7 = .ok (.aload_n 0, 1) := by decide +kernel
theorem dX1_take_8 : decode cX1_take 8 = .ok (.getfield 25, 3) := by decide +kernel
theorem dX1_take_11 : decode cX1_take 11 = .ok (.bipush 24, 2) := by decide +kernel
theorem dX1_take_13 : decode cX1_take 13 = .ok (.if_icmp .ge 23, 3) := by decide +kernel
theorem dX1_take_16 : decode cX1_take 16 = .ok (.aload_n 0, 1) := by decide +kernel
theorem dX1_take_17 : decode cX1_take 17 = .ok (.getfield 15, 3) := by decide +kernel
theorem dX1_take_20 : decode cX1_take 20 = .ok (.aload_n 0, 1) := by decide +kernel
theorem dX1_take_21 : decode cX1_take 21 = .ok (.getfield 25, 3) := by decide +kernel
theorem dX1_take_24 : decode cX1_take 24 = .ok (.iload_n 1, 1) := by decide +kernel
theorem dX1_take_25 : decode cX1_take 25 = .ok (.iastore, 1) := by decide +kernel
theorem dX1_take_26 : decode cX1_take 26 = .ok (.aload_n 0, 1) := by decide +kernel
theorem dX1_take_27 : decode cX1_take 27 = .ok (.dup, 1) := by decide +kernel
theorem dX1_take_28 : decode cX1_take 28 = .ok (.getfield 25, 3) := by decide +kernel
theorem dX1_take_31 : decode cX1_take 31 = .ok (.iconst 1, 1) := by decide +kernel
theorem dX1_take_32 : decode cX1_take 32 = .ok (.iadd, 1) := by decide +kernel
theorem dX1_take_33 : decode cX1_take 33 = .ok (.putfield 25, 3) := by decide +kernel
theorem dX1_take_36 : decode cX1_take 36 = .ok (.return_, 1) := by decide +kernel
theorem dX1_takeDotted_0 : decode cX1_takeDotted 0 = .ok (.aload_n 0, 1) := by decide +kernel
theorem dX1_takeDotted_1 : decode cX1_takeDotted 1 = .ok (.iload_n 1, 1) := by decide +kernel
theorem dX1_takeDotted_2 : decode cX1_takeDotted 2 = .ok (.invokevirtual 31, 3) := by decide +kernel
theorem dX1_takeDotted_5 : decode cX1_takeDotted 5 = .ok (.aload_n 0, 1) := by decide +kernel
theorem dX1_takeDotted_6 : decode cX1_takeDotted 6 = .ok (.iconst 0, 1) := by decide +kernel
theorem dX1_takeDotted_7 : decode cX1_takeDotted 7 = .ok (.invokevirtual 31, 3) := by decide +kernel
theorem dX1_takeDotted_10 : decode cX1_takeDotted 10 = .ok (.return_, 1) := by decide +kernel
theorem dX1_formAt_0 : decode cX1_formAt 0 = .ok (.iload_n 1, 1) := by decide +kernel
theorem dX1_formAt_1 : decode cX1_formAt 1 = .ok (.ifCond .lt 17, 3) := by decide +kernel
theorem dX1_formAt_4 : decode cX1_formAt 4 = .ok (.iload_n 1, 1) := by decide +kernel
theorem dX1_formAt_5 : decode cX1_formAt 5 = .ok (.aload_n 0, 1) := by decide +kernel
theorem dX1_formAt_6 : decode cX1_formAt 6 = .ok (.getfield 18, 3) := by decide +kernel
theorem dX1_formAt_9 : decode cX1_formAt 9 = .ok (.if_icmp .ge 9, 3) := by decide +kernel
theorem dX1_formAt_12 : decode cX1_formAt 12 = .ok (.iload_n 1, 1) := by decide +kernel
theorem dX1_formAt_13 : decode cX1_formAt 13 = .ok (.bipush 48, 2) := by decide +kernel
theorem dX1_formAt_15 : decode cX1_formAt 15 = .ok (.if_icmp .lt 7, 3) := by decide +kernel
theorem dX1_formAt_18 : decode cX1_formAt 18 = .ok (.iconst (-1), 1) := by decide +kernel
theorem dX1_formAt_19 : decode cX1_formAt 19 = .ok (.goto 9, 3) := by decide +kernel
theorem dX1_formAt_22 : decode cX1_formAt 22 = .ok (.aload_n 0, 1) := by decide +kernel
theorem dX1_formAt_23 : decode cX1_formAt 23 = .ok (.getfield 11, 3) := by decide +kernel
theorem dX1_formAt_26 : decode cX1_formAt 26 = .ok (.iload_n 1, 1) := by decide +kernel
theorem dX1_formAt_27 : decode cX1_formAt 27 = .ok (.iaload, 1) := by decide +kernel
theorem dX1_formAt_28 : decode cX1_formAt 28 = .ok (.ireturn, 1) := by decide +kernel
theorem dX1_ticksAt_0 : decode cX1_ticksAt 0 = .ok (.iload_n 1, 1) := by decide +kernel
theorem dX1_ticksAt_1 : decode cX1_ticksAt 1 = .ok (.ifCond .lt 9, 3) := by decide +kernel
theorem dX1_ticksAt_4 : decode cX1_ticksAt 4 = .ok (.iload_n 1, 1) := by decide +kernel
theorem dX1_ticksAt_5 : decode cX1_ticksAt 5 = .ok (.bipush 24, 2) := by decide +kernel
theorem dX1_ticksAt_7 : decode cX1_ticksAt 7 = .ok (.if_icmp .lt 7, 3) := by decide +kernel
theorem dX1_ticksAt_10 : decode cX1_ticksAt 10 = .ok (.iconst 0, 1) := by decide +kernel
theorem dX1_ticksAt_11 : decode cX1_ticksAt 11 = .ok (.goto 9, 3) := by decide +kernel
theorem dX1_ticksAt_14 : decode cX1_ticksAt 14 = .ok (.aload_n 0, 1) := by decide +kernel
theorem dX1_ticksAt_15 : decode cX1_ticksAt 15 = .ok (.getfield 15, 3) := by decide +kernel
theorem dX1_ticksAt_18 : decode cX1_ticksAt 18 = .ok (.iload_n 1, 1) := by decide +kernel
theorem dX1_ticksAt_19 : decode cX1_ticksAt 19 = .ok (.iaload, 1) := by decide +kernel
theorem dX1_ticksAt_20 : decode cX1_ticksAt 20 = .ok (.ireturn, 1) := by decide +kernel
theorem dX3_init_0 : decode cX3_init 0 = .ok (.aload_n 0, 1) := by decide +kernel
theorem dX3_init_1 : decode cX3_init 1 = .ok (.invokespecial 5, 3) := by decide +kernel
theorem dX3_init_4 : decode cX3_init 4 = .ok (.aload_n 0, 1) := by decide +kernel
theorem dX3_init_5 : decode cX3_init 5 = .ok (.sipush 4000, 3) := by decide +kernel
theorem dX3_init_8 : decode cX3_init 8 = .ok (.newarray .long, 2) := by decide +kernel
theorem dX3_init_10 : decode cX3_init 10 = .ok (.putfield 11, 3) := by decide +kernel
theorem dX3_init_13 : decode cX3_init 13 = .ok (.aload_n 0, 1) := by decide +kernel
theorem dX3_init_14 : decode cX3_init 14 = .ok (.sipush 1000, 3) := by decide +kernel
theorem dX3_init_17 : decode cX3_init 17 = .ok (.newarray .int, 2) := by decide +kernel
theorem dX3_init_19 : decode cX3_init 19 = .ok (.putfield 15, 3) := by decide +kernel
theorem dX3_init_22 : decode cX3_init 22 = .ok (.aload_n 0, 1) := by decide +kernel
theorem dX3_init_23 : decode cX3_init 23 = .ok (.sipush 1000, 3) := by decide +kernel
theorem dX3_init_26 : decode cX3_init 26 = .ok (.newarray .int, 2) := by decide +kernel
theorem dX3_init_28 : decode cX3_init 28 = .ok (.putfield 19, 3) := by decide +kernel
theorem dX3_init_31 : decode cX3_init 31 = .ok (.aload_n 0, 1) := by decide +kernel
theorem dX3_init_32 : decode cX3_init 32 = .ok (.sipush 129, 3) := by decide +kernel
theorem dX3_init_35 : decode cX3_init 35 = .ok (.newarray .int, 2) := by decide +kernel
theorem dX3_init_37 : decode cX3_init 37 = .ok (.putfield 22, 3) := by decide +kernel
theorem dX3_init_40 : decode cX3_init 40 = .ok (.return_, 1) := by decide +kernel
theorem dX3_clear_0 : decode cX3_clear 0 = .ok (.aload_n 0, 1) := by decide +kernel
theorem dX3_clear_1 : decode cX3_clear 1 = .ok (.iconst 0, 1) := by decide +kernel
theorem dX3_clear_2 : decode cX3_clear 2 = .ok (.putfield 25, 3) := by decide +kernel
theorem dX3_clear_5 : decode cX3_clear 5 = .ok (.return_, 1) := by decide +kernel
theorem dX3_isMany_0 : decode cX3_isMany 0 = .ok (.aload_n 0, 1) := by decide +kernel
theorem dX3_isMany_1 : decode cX3_isMany 1 = .ok (.getfield 25, 3) := by decide +kernel
theorem dX3_isMany_4 : decode cX3_isMany 4 = .ok (.sipush 1000, 3) := by decide +kernel
theorem dX3_isMany_7 : decode cX3_isMany 7 = .ok (.if_icmp .le 7, 3) := by decide +kernel
theorem dX3_isMany_10 : decode cX3_isMany 10 = .ok (.iconst 1, 1) := by decide +kernel
theorem dX3_isMany_11 : decode cX3_isMany 11 = .ok (.goto 4, 3) := by decide +kernel
theorem dX3_isMany_14 : decode cX3_isMany 14 = .ok (.iconst 0, 1) := by decide +kernel
theorem dX3_isMany_15 : decode cX3_isMany 15 = .ok (.ireturn, 1) := by decide +kernel
theorem dX3_add_0 : decode cX3_add 0 = .ok (.iconst 0, 1) := by decide +kernel
theorem dX3_add_1 : decode cX3_add 1 = .ok (.istore 5, 2) := by decide +kernel
theorem dX3_add_3 : decode cX3_add 3 = .ok (.iload 5, 2) := by decide +kernel
theorem dX3_add_5 : decode cX3_add 5 = .ok (.iload 4, 2) := by decide +kernel
theorem dX3_add_7 : decode cX3_add 7 = .ok (.if_icmp .ge 73, 3) := by decide +kernel
theorem dX3_add_10 : decode cX3_add 10 = .ok (.aload_n 0, 1) := by decide +kernel
theorem dX3_add_11 : decode cX3_add 11 = .ok (.invokevirtual 29, 3) := by decide +kernel
theorem dX3_add_14 : decode cX3_add 14 = .ok (.ifCond .ne 66, 3) := by decide +kernel
theorem dX3_add_17 : decode cX3_add 17 = .ok (.aload_n 0, 1) := by decide +kernel
theorem dX3_add_18 : decode cX3_add 18 = .ok (.getfield 25, 3) := by decide +kernel
theorem dX3_add_21 : decode cX3_add 21 = .ok (.ifCond .lt 43, 3) := by decide +kernel
theorem dX3_add_24 : decode cX3_add 24 = .ok (.aload_n 0, 1) := by decide +kernel
theorem dX3_add_25 : decode cX3_add 25 = .ok (.getfield 25, 3) := by decide +kernel
theorem dX3_add_28 : decode cX3_add 28 = .ok (.sipush 1000, 3) := by decide +kernel
theorem dX3_add_31 : decode cX3_add 31 = .ok (.if_icmp .ge 33, 3) := by decide +kernel
theorem dX3_add_34 : decode cX3_add 34 = .ok (.aload_n 0, 1) := by decide +kernel
theorem dX3_add_35 : decode cX3_add 35 = .ok (.getfield 15, 3) := by decide +kernel
theorem dX3_add_38 : decode cX3_add 38 = .ok (.aload_n 0, 1) := by decide +kernel
theorem dX3_add_39 : decode cX3_add 39 = .ok (.getfield 25, 3) := by decide +kernel
theorem dX3_add_42 : decode cX3_add 42 = .ok (.iconst 0, 1) := by decide +kernel
theorem dX3_add_43 : decode cX3_add 43 = .ok (.iload_n 3, 1) := by decide +kernel
theorem dX3_add_44 : decode cX3_add 44 = .ok (.bipush 127, 2) := by decide +kernel
theorem dX3_add_46 : decode cX3_add 46 = .ok (.invokestatic 33, 3) := by decide +kernel
theorem dX3_add_49 : decode cX3_add 49 = .ok (.invokestatic 39, 3) := by decide +kernel
theorem dX3_add_52 : decode cX3_add 52 = .ok (.iastore, 1) := by decide +kernel
theorem dX3_add_53 : decode cX3_add 53 = .ok (.aload_n 0, 1) := by decide +kernel
theorem dX3_add_54 : decode cX3_add 54 = .ok (.aload_n 1, 1) := by decide +kernel
theorem dX3_add_55 : decode cX3_add 55 = .ok (.iload_n 2, 1) := by decide +kernel
theorem dX3_add_56 : decode cX3_add 56 = .ok (.aload_n 1, 1) := by decide +kernel
theorem dX3_add_57 : decode cX3_add 57 = .ok (.arraylength, 1) := by decide +kernel
theorem dX3_add_58 : decode cX3_add 58 = .ok (.invokestatic 33, 3) := by decide +kernel
theorem dX3_add_61 : decode cX3_add 61 = .ok (.invokevirtual 42, 3) := by decide +kernel
theorem dX3_add_64 : decode cX3_add 64 = .ok (.aload_n 0, 1) := by decide +kernel
theorem dX3_add_65 : decode cX3_add 65 = .ok (.dup, 1) := by decide +kernel
theorem dX3_add_66 : decode cX3_add 66 = .ok (.getfield 25, 3) := by decide +kernel
theorem dX3_add_69 : decode cX3_add 69 = .ok (.iconst 1, 1) := by decide +kernel
theorem dX3_add_70 : decode cX3_add 70 = .ok (.iadd, 1) := by decide +kernel
theorem dX3_add_71 : decode cX3_add 71 = .ok (.putfield 25, 3) := by decide +kernel
theorem dX3_add_74 : decode cX3_add 74 = .ok (.iinc 5 1, 3) := by decide +kernel
theorem dX3_add_77 : decode cX3_add 77 = .ok (.goto (-74), 3) := by decide +kernel
theorem dX3_add_80 : decode cX3_add 80 = .ok (.return_, 1) := by decide +kernel
theorem dX3_pack_0 : decode cX3_pack 0 = .ok (.iconst 0, 1) := by decide +kernel
theorem dX3_pack_1 : decode cX3_pack 1 = .ok (.istore_n 3, 1) := by decide +kernel
theorem dX3_pack_2 : decode cX3_pack 2 = .ok (.iload_n 3, 1) := by decide +kernel
theorem dX3_pack_3 : decode cX3_pack 3 = .ok (.iconst 4, 1) := by decide +kernel
theorem dX3_pack_4 : decode cX3_pack 4 = .ok (.if_icmp .ge 74, 3) := by decide +kernel
theorem dX3_pack_7 : decode cX3_pack 7 = .ok (.lconst 0, 1) := by decide +kernel
theorem dX3_pack_8 : decode cX3_pack 8 = .ok (.lstore 4, 2) := by decide +kernel
theorem dX3_pack_10 : decode cX3_pack 10 = .ok (.iconst 0, 1) := by decide +kernel
theorem dX3_pack_11 : decode cX3_pack 11 = .ok (.istore 6, 2) := by decide +kernel
theorem dX3_pack_13 : decode cX3_pack 13 = .ok (.iload 6, 2) := by decide +kernel
theorem dX3_pack_15 : decode cX3_pack 15 = .ok (.bipush 12, 2) := by decide +kernel
theorem dX3_pack_17 : decode cX3_pack 17 = .ok (.if_icmp .ge 40, 3) := by decide +kernel
theorem dX3_pack_20 : decode cX3_pack 20 = .ok (.iload_n 3, 1) := by decide +kernel
theorem dX3_pack_21 : decode cX3_pack 21 = .ok (.bipush 12, 2) := by decide +kernel
theorem dX3_pack_23 : decode cX3_pack 23 = .ok (.imul, 1) := by decide +kernel
theorem dX3_pack_24 : decode cX3_pack 24 = .ok (.iload 6, 2) := by decide +kernel
theorem dX3_pack_26 : decode cX3_pack 26 = .ok (.iadd, 1) := by decide +kernel
theorem dX3_pack_27 : decode cX3_pack 27 = .ok (.iload_n 2, 1) := by decide +kernel
theorem dX3_pack_28 : decode cX3_pack 28 = .ok (.if_icmp .ge 29, 3) := by decide +kernel
theorem dX3_pack_31 : decode cX3_pack 31 = .ok (.lload 4, 2) := by decide +kernel
theorem dX3_pack_33 : decode cX3_pack 33 = .ok (.aload_n 1, 1) := by decide +kernel
theorem dX3_pack_34 : decode cX3_pack 34 = .ok (.iload_n 3, 1) := by decide +kernel
theorem dX3_pack_35 : decode cX3_pack 35 = .ok (.bipush 12, 2) := by decide +kernel
theorem dX3_pack_37 : decode cX3_pack 37 = .ok (.imul, 1) := by decide +kernel
theorem dX3_pack_38 : decode cX3_pack 38 = .ok (.iload 6, 2) := by decide +kernel
theorem dX3_pack_40 : decode cX3_pack 40 = .ok (.iadd, 1) := by decide +kernel
theorem dX3_pack_41 : decode cX3_pack 41 = .ok (.iaload, 1) := by decide +kernel
theorem dX3_pack_42 : decode cX3_pack 42 = .ok (.i2l, 1) := by decide +kernel
theorem dX3_pack_43 : decode cX3_pack 43 = .ok (.iload 6, 2) := by decide +kernel
theorem dX3_pack_45 : decode cX3_pack 45 = .ok (.iconst 5, 1) := by decide +kernel
theorem dX3_pack_46 : decode cX3_pack 46 = .ok (.imul, 1) := by decide +kernel
theorem dX3_pack_47 : decode cX3_pack 47 = .ok (.lshl, 1) := by decide +kernel
theorem dX3_pack_48 : decode cX3_pack 48 = .ok (.lor, 1) := by decide +kernel
theorem dX3_pack_49 : decode cX3_pack 49 = .ok (.lstore 4, 2) := by decide +kernel
theorem dX3_pack_51 : decode cX3_pack 51 = .ok (.iinc 6 1, 3) := by decide +kernel
theorem dX3_pack_54 : decode cX3_pack 54 = .ok (.goto (-41), 3) := by decide +kernel
theorem dX3_pack_57 : decode cX3_pack 57 = .ok (.aload_n 0, 1) := by decide +kernel
theorem dX3_pack_58 : decode cX3_pack 58 = .ok (.getfield 11, 3) := by decide +kernel
theorem dX3_pack_61 : decode cX3_pack 61 = .ok (.aload_n 0, 1) := by decide +kernel
theorem dX3_pack_62 : decode cX3_pack 62 = .ok (.getfield 25, 3) := by decide +kernel
theorem dX3_pack_65 : decode cX3_pack 65 = .ok (.iconst 4, 1) := by decide +kernel
theorem dX3_pack_66 : decode cX3_pack 66 = .ok (.imul, 1) := by decide +kernel
theorem dX3_pack_67 : decode cX3_pack 67 = .ok (.iload_n 3, 1) := by decide +kernel
theorem dX3_pack_68 : decode cX3_pack 68 = .ok (.iadd, 1) := by decide +kernel
theorem dX3_pack_69 : decode cX3_pack 69 = .ok (.lload 4, 2) := by decide +kernel
theorem dX3_pack_71 : decode cX3_pack 71 = .ok (.lastore, 1) := by decide +kernel
theorem dX3_pack_72 : decode cX3_pack 72 = .ok (.iinc 3 1, 3) := by decide +kernel
theorem dX3_pack_75 : decode cX3_pack 75 = .ok (.goto (-73), 3) := by decide +kernel
theorem dX3_pack_78 : decode cX3_pack 78 = .ok (.return_, 1) := by decide +kernel
theorem dX3_arrange_0 : decode cX3_arrange 0 = .ok (.aload_n 0, 1) := by decide +kernel
theorem dX3_arrange_1 : decode cX3_arrange 1 = .ok (.invokevirtual 29, 3) := by decide +kernel
theorem dX3_arrange_4 : decode cX3_arrange 4 = .ok (.ifCond .eq 4, 3) := by decide +kernel
theorem dX3_arrange_7 : decode cX3_arrange 7 = .ok (.return_, 1) := by decide +kernel
theorem dX3_arrange_8 : decode cX3_arrange 8 = .ok (.aload_n 0, 1) := by decide +kernel
theorem dX3_arrange_9 : decode cX3_arrange 9 = .ok (.getfield 22, 3) := by decide +kernel
theorem dX3_arrange_12 : decode cX3_arrange 12 = .ok (.iconst 0, 1) := by decide +kernel
theorem dX3_arrange_13 : decode cX3_arrange 13 = .ok (.invokestatic 46, 3) := by decide +kernel
theorem dX3_arrange_16 : decode cX3_arrange 16 = .ok (.iconst 0, 1) := by decide +kernel
theorem dX3_arrange_17 : decode cX3_arrange 17 = .ok (.istore_n 1, 1) := by decide +kernel
theorem dX3_arrange_18 : decode cX3_arrange 18 = .ok (.iload_n 1, 1) := by decide +kernel
theorem dX3_arrange_19 : decode cX3_arrange 19 = .ok (.aload_n 0, 1) := by decide +kernel
theorem dX3_arrange_20 : decode cX3_arrange 20 = .ok (.getfield 25, 3) := by decide +kernel
theorem dX3_arrange_23 : decode cX3_arrange 23 = .ok (.if_icmp .ge 26, 3) := by decide +kernel
theorem dX3_arrange_26 : decode cX3_arrange 26 = .ok (.aload_n 0, 1) := by decide +kernel
theorem dX3_arrange_27 : decode cX3_arrange 27 = .ok (.getfield 22, 3) := by decide +kernel
theorem dX3_arrange_30 : decode cX3_arrange 30 = .ok (.aload_n 0, 1) := by decide +kernel
theorem dX3_arrange_31 : decode cX3_arrange 31 = .ok (.getfield 15, 3) := by decide +kernel
theorem dX3_arrange_34 : decode cX3_arrange 34 = .ok (.iload_n 1, 1) := by decide +kernel
theorem dX3_arrange_35 : decode cX3_arrange 35 = .ok (.iaload, 1) := by decide +kernel
theorem dX3_arrange_36 : decode cX3_arrange 36 = .ok (.iconst 1, 1) := by decide +kernel
theorem dX3_arrange_37 : decode cX3_arrange 37 = .ok (.iadd, 1) := by decide +kernel
theorem dX3_arrange_38 : decode cX3_arrange 38 = .ok (.dup2, 1) := by decide +kernel
theorem dX3_arrange_39 : decode cX3_arrange 39 = .ok (.iaload, 1) := by decide +kernel
theorem dX3_arrange_40 : decode cX3_arrange 40 = .ok (.iconst 1, 1) := by decide +kernel
theorem dX3_arrange_41 : decode cX3_arrange 41 = .ok (.iadd, 1) := by decide +kernel
theorem dX3_arrange_42 : decode cX3_arrange 42 = .ok (.iastore, 1) := by decide +kernel
theorem dX3_arrange_43 : decode cX3_arrange 43 = .ok (.iinc 1 1, 3) := by decide +kernel
theorem dX3_arrange_46 : decode cX3_arrange 46 = .ok (.goto (-28), 3) := by decide +kernel
theorem dX3_arrange_49 : decode cX3_arrange 49 = .ok (.iconst 1, 1) := by decide +kernel
theorem dX3_arrange_50 : decode cX3_arrange 50 = .ok (.istore_n 1, 1) := by decide +kernel
theorem dX3_arrange_51 : decode cX3_arrange 51 = .ok (.iload_n 1, 1) := by decide +kernel
theorem dX3_arrange_52 : decode cX3_arrange 52 = .ok (.sipush 128, 3) := by decide +kernel
theorem dX3_arrange_55 : decode cX3_arrange 55 = .ok (.if_icmp .gt 26, 3) := by decide +kernel
theorem dX3_arrange_58 : decode cX3_arrange 58 = .ok (.aload_n 0, 1) := by decide +kernel
theorem dX3_arrange_59 : decode cX3_arrange 59 = .ok (.getfield 22, 3) := by decide +kernel
theorem dX3_arrange_62 : decode cX3_arrange 62 = .ok (.iload_n 1, 1) := by decide +kernel
theorem dX3_arrange_63 : decode cX3_arrange 63 = .ok (.dup2, 1) := by decide +kernel
theorem dX3_arrange_64 : decode cX3_arrange 64 = .ok (.iaload, 1) := by decide +kernel
theorem dX3_arrange_65 : decode cX3_arrange 65 = .ok (.aload_n 0, 1) := by decide +kernel
theorem dX3_arrange_66 : decode cX3_arrange 66 = .ok (.getfield 22, 3) := by decide +kernel
theorem dX3_arrange_69 : decode cX3_arrange 69 = .ok (.iload_n 1, 1) := by decide +kernel
theorem dX3_arrange_70 : decode cX3_arrange 70 = .ok (.iconst 1, 1) := by decide +kernel
theorem dX3_arrange_71 : decode cX3_arrange 71 = .ok (.isub, 1) := by decide +kernel
theorem dX3_arrange_72 : decode cX3_arrange 72 = .ok (.iaload, 1) := by decide +kernel
theorem dX3_arrange_73 : decode cX3_arrange 73 = .ok (.iadd, 1) := by decide +kernel
theorem dX3_arrange_74 : decode cX3_arrange 74 = .ok (.iastore, 1) := by decide +kernel
theorem dX3_arrange_75 : decode cX3_arrange 75 = .ok (.iinc 1 1, 3) := by decide +kernel
theorem dX3_arrange_78 : decode cX3_arrange 78 = .ok (.goto (-27), 3) := by decide +kernel
theorem dX3_arrange_81 : decode cX3_arrange 81 = .ok (.iconst 0, 1) := by decide +kernel
theorem dX3_arrange_82 : decode cX3_arrange 82 = .ok (.istore_n 1, 1) := by decide +kernel
theorem dX3_arrange_83 : decode cX3_arrange 83 = .ok (.iload_n 1, 1) := by decide +kernel
theorem dX3_arrange_84 : decode cX3_arrange 84 = .ok (.aload_n 0, 1) := by decide +kernel
theorem dX3_arrange_85 : decode cX3_arrange 85 = .ok (.getfield 25, 3) := by decide +kernel
theorem dX3_arrange_88 : decode cX3_arrange 88 = .ok (.if_icmp .ge 54, 3) := by decide +kernel
theorem dX3_arrange_91 : decode cX3_arrange 91 = .ok (.aload_n 0, 1) := by decide +kernel
theorem dX3_arrange_92 : decode cX3_arrange 92 = .ok (.getfield 22, 3) := by decide +kernel
theorem dX3_arrange_95 : decode cX3_arrange 95 = .ok (.aload_n 0, 1) := by decide +kernel
theorem dX3_arrange_96 : decode cX3_arrange 96 = .ok (.getfield 15, 3) := by decide +kernel
theorem dX3_arrange_99 : decode cX3_arrange 99 = .ok (.iload_n 1, 1) := by decide +kernel
theorem dX3_arrange_100 : decode cX3_arrange 100 = .ok (.iaload, 1) := by decide +kernel
theorem dX3_arrange_101 : decode cX3_arrange 101 = .ok (.iaload, 1) := by decide +kernel
theorem dX3_arrange_102 : decode cX3_arrange 102 = .ok (.istore_n 2, 1) := by decide +kernel
theorem dX3_arrange_103 : decode cX3_arrange 103 = .ok (.iload_n 2, 1) := by decide +kernel
theorem dX3_arrange_104 : decode cX3_arrange 104 = .ok (.ifCond .lt 32, 3) := by decide +kernel
theorem dX3_arrange_107 : decode cX3_arrange 107 = .ok (.iload_n 2, 1) := by decide +kernel
theorem dX3_arrange_108 : decode cX3_arrange 108 = .ok (.sipush 1000, 3) := by decide +kernel
theorem dX3_arrange_111 : decode cX3_arrange 111 = .ok (.if_icmp .ge 25, 3) := by decide +kernel
theorem dX3_arrange_114 : decode cX3_arrange 114 = .ok (.aload_n 0, 1) := by decide +kernel
theorem dX3_arrange_115 : decode cX3_arrange 115 = .ok (.getfield 19, 3) := by decide +kernel
theorem dX3_arrange_118 : decode cX3_arrange 118 = .ok (.iload_n 2, 1) := by decide +kernel
theorem dX3_arrange_119 : decode cX3_arrange 119 = .ok (.iload_n 1, 1) := by decide +kernel
theorem dX3_arrange_120 : decode cX3_arrange 120 = .ok (.iastore, 1) := by decide +kernel
theorem dX3_arrange_121 : decode cX3_arrange 121 = .ok (.aload_n 0, 1) := by decide +kernel
theorem dX3_arrange_122 : decode cX3_arrange 122 = .ok (.getfield 22, 3) := by decide +kernel
theorem dX3_arrange_125 : decode cX3_arrange 125 = .ok (.aload_n 0, 1) := by decide +kernel
theorem dX3_arrange_126 : decode cX3_arrange 126 = .ok (.getfield 15, 3) := by decide +kernel
theorem dX3_arrange_129 : decode cX3_arrange 129 = .ok (.iload_n 1, 1) := by decide +kernel
theorem dX3_arrange_130 : decode cX3_arrange 130 = .ok (.iaload, 1) := by decide +kernel
theorem dX3_arrange_131 : decode cX3_arrange 131 = .ok (.dup2, 1) := by decide +kernel
theorem dX3_arrange_132 : decode cX3_arrange 132 = .ok (.iaload, 1) := by decide +kernel
theorem dX3_arrange_133 : decode cX3_arrange 133 = .ok (.iconst 1, 1) := by decide +kernel
theorem dX3_arrange_134 : decode cX3_arrange 134 = .ok (.iadd, 1) := by decide +kernel
theorem dX3_arrange_135 : decode cX3_arrange 135 = .ok (.iastore, 1) := by decide +kernel
theorem dX3_arrange_136 : decode cX3_arrange 136 = .ok (.iinc 1 1, 3) := by decide +kernel
theorem dX3_arrange_139 : decode cX3_arrange 139 = .ok (.goto (-56), 3) := by decide +kernel
theorem dX3_arrange_142 : decode cX3_arrange 142 = .ok (.return_, 1) := by decide +kernel
theorem dX3_choiceOf_0 : decode cX3_choiceOf 0 = .ok (.iload_n 1, 1) := by decide +kernel
theorem dX3_choiceOf_1 : decode cX3_choiceOf 1 = .ok (.ifCond .lt 28, 3) := by decide +kernel
theorem dX3_choiceOf_4 : decode cX3_choiceOf 4 = .ok (.iload_n 1, 1) := by decide +kernel
theorem dX3_choiceOf_5 : decode cX3_choiceOf 5 = .ok (.aload_n 0, 1) := by decide +kernel
theorem dX3_choiceOf_6 : decode cX3_choiceOf 6 = .ok (.getfield 25, 3) := by decide +kernel
theorem dX3_choiceOf_9 : decode cX3_choiceOf 9 = .ok (.if_icmp .ge 20, 3) := by decide +kernel
theorem dX3_choiceOf_12 : decode cX3_choiceOf 12 = .ok (.iload_n 1, 1) := by decide +kernel
theorem dX3_choiceOf_13 : decode cX3_choiceOf 13 = .ok (.sipush 1000, 3) := by decide +kernel
theorem dX3_choiceOf_16 : decode cX3_choiceOf 16 = .ok (.if_icmp .ge 13, 3) := by decide +kernel
theorem dX3_choiceOf_19 : decode cX3_choiceOf 19 = .ok (.iload_n 2, 1) := by decide +kernel
theorem dX3_choiceOf_20 : decode cX3_choiceOf 20 = .ok (.ifCond .lt 9, 3) := by decide +kernel
theorem dX3_choiceOf_23 : decode cX3_choiceOf 23 = .ok (.iload_n 2, 1) := by decide +kernel
theorem dX3_choiceOf_24 : decode cX3_choiceOf 24 = .ok (.bipush 48, 2) := by decide +kernel
theorem dX3_choiceOf_26 : decode cX3_choiceOf 26 = .ok (.if_icmp .lt 5, 3) := by decide +kernel
theorem dX3_choiceOf_29 : decode cX3_choiceOf 29 = .ok (.iconst 0, 1) := by decide +kernel
theorem dX3_choiceOf_30 : decode cX3_choiceOf 30 = .ok (.ireturn, 1) := by decide +kernel
theorem dX3_choiceOf_31 : decode cX3_choiceOf 31 = .ok (.aload_n 0, 1) := by decide +kernel
theorem dX3_choiceOf_32 : decode cX3_choiceOf 32 = .ok (.getfield 11, 3) := by decide +kernel
theorem dX3_choiceOf_35 : decode cX3_choiceOf 35 = .ok (.aload_n 0, 1) := by decide +kernel
theorem dX3_choiceOf_36 : decode cX3_choiceOf 36 = .ok (.getfield 19, 3) := by decide +kernel
theorem dX3_choiceOf_39 : decode cX3_choiceOf 39 = .ok (.iload_n 1, 1) := by decide +kernel
theorem dX3_choiceOf_40 : decode cX3_choiceOf 40 = .ok (.iaload, 1) := by decide +kernel
theorem dX3_choiceOf_41 : decode cX3_choiceOf 41 = .ok (.iconst 4, 1) := by decide +kernel
theorem dX3_choiceOf_42 : decode cX3_choiceOf 42 = .ok (.imul, 1) := by decide +kernel
theorem dX3_choiceOf_43 : decode cX3_choiceOf 43 = .ok (.iload_n 2, 1) := by decide +kernel
theorem dX3_choiceOf_44 : decode cX3_choiceOf 44 = .ok (.bipush 12, 2) := by decide +kernel
theorem dX3_choiceOf_46 : decode cX3_choiceOf 46 = .ok (.idiv, 1) := by decide +kernel
theorem dX3_choiceOf_47 : decode cX3_choiceOf 47 = .ok (.iadd, 1) := by decide +kernel
theorem dX3_choiceOf_48 : decode cX3_choiceOf 48 = .ok (.laload, 1) := by decide +kernel
theorem dX3_choiceOf_49 : decode cX3_choiceOf 49 = .ok (.lstore_n 3, 1) := by decide +kernel
theorem dX3_choiceOf_50 : decode cX3_choiceOf 50 = .ok (.lload_n 3, 1) := by decide +kernel
theorem dX3_choiceOf_51 : decode cX3_choiceOf 51 = .ok (.iload_n 2, 1) := by decide +kernel
theorem dX3_choiceOf_52 : decode cX3_choiceOf 52 = .ok (.bipush 12, 2) := by decide +kernel
theorem dX3_choiceOf_54 : decode cX3_choiceOf 54 = .ok (.irem, 1) := by decide +kernel
theorem dX3_choiceOf_55 : decode cX3_choiceOf 55 = .ok (.iconst 5, 1) := by decide +kernel
theorem dX3_choiceOf_56 : decode cX3_choiceOf 56 = .ok (.imul, 1) := by decide +kernel
theorem dX3_choiceOf_57 : decode cX3_choiceOf 57 = .ok (.lshr, 1) := by decide +kernel
theorem dX3_choiceOf_58 : decode cX3_choiceOf 58 = .ok (.l2i, 1) := by decide +kernel
theorem dX3_choiceOf_59 : decode cX3_choiceOf 59 = .ok (.bipush 31, 2) := by decide +kernel
theorem dX3_choiceOf_61 : decode cX3_choiceOf 61 = .ok (.iand, 1) := by decide +kernel
theorem dX3_choiceOf_62 : decode cX3_choiceOf 62 = .ok (.ireturn, 1) := by decide +kernel
theorem dX4_init_0 : decode cX4_init 0 = .ok (.aload_n 0, 1) := by decide +kernel
theorem dX4_init_1 : decode cX4_init 1 = .ok (.invokespecial 1, 3) := by decide +kernel
theorem dX4_init_4 : decode cX4_init 4 = .ok (.aload_n 0, 1) := by decide +kernel
theorem dX4_init_5 : decode cX4_init 5 = .ok (.lconst 1, 1) := by decide +kernel
theorem dX4_init_6 : decode cX4_init 6 = .ok (.putfield 7, 3) := by decide +kernel
theorem dX4_init_9 : decode cX4_init 9 = .ok (.return_, 1) := by decide +kernel
theorem dX4_common_0 : decode cX4_common 0 = .ok (.lload_n 0, 1) := by decide +kernel
theorem dX4_common_1 : decode cX4_common 1 = .ok (.lstore 4, 2) := by decide +kernel
theorem dX4_common_3 : decode cX4_common 3 = .ok (.lload_n 2, 1) := by decide +kernel
theorem dX4_common_4 : decode cX4_common 4 = .ok (.lstore 6, 2) := by decide +kernel
theorem dX4_common_6 : decode cX4_common 6 = .ok (.iconst 0, 1) := by decide +kernel
theorem dX4_common_7 : decode cX4_common 7 = .ok (.istore 8, 2) := by decide +kernel
theorem dX4_common_9 : decode cX4_common 9 = .ok (.iload 8, 2) := by decide +kernel
theorem dX4_common_11 : decode cX4_common 11 = .ok (.sipush 1000, 3) := by decide +kernel
theorem dX4_common_14 : decode cX4_common 14 = .ok (.if_icmp .ge 31, 3) := by decide +kernel
theorem dX4_common_17 : decode cX4_common 17 = .ok (.lload 6, 2) := by decide +kernel
theorem dX4_common_19 : decode cX4_common 19 = .ok (.lconst 0, 1) := by decide +kernel
theorem dX4_common_20 : decode cX4_common 20 = .ok (.lcmp, 1) := by decide +kernel
theorem dX4_common_21 : decode cX4_common 21 = .ok (.ifCond .eq 24, 3) := by decide +kernel
theorem dX4_common_24 : decode cX4_common 24 = .ok (.lload 4, 2) := by decide +kernel
theorem dX4_common_26 : decode cX4_common 26 = .ok (.lload 6, 2) := by decide +kernel
theorem dX4_common_28 : decode cX4_common 28 = .ok (.lrem, 1) := by decide +kernel
theorem dX4_common_29 : decode cX4_common 29 = .ok (.lstore 9, 2) := by decide +kernel
theorem dX4_common_31 : decode cX4_common 31 = .ok (.lload 6, 2) := by decide +kernel
theorem dX4_common_33 : decode cX4_common 33 = .ok (.lstore 4, 2) := by decide +kernel
theorem dX4_common_35 : decode cX4_common 35 = .ok (.lload 9, 2) := by decide +kernel
theorem dX4_common_37 : decode cX4_common 37 = .ok (.lstore 6, 2) := by decide +kernel
theorem dX4_common_39 : decode cX4_common 39 = .ok (.iinc 8 1, 3) := by decide +kernel
theorem dX4_common_42 : decode cX4_common 42 = .ok (.goto (-33), 3) := by decide +kernel
theorem dX4_common_45 : decode cX4_common 45 = .ok (.lload 4, 2) := by decide +kernel
theorem dX4_common_47 : decode cX4_common 47 = .ok (.lreturn, 1) := by decide +kernel
theorem dX4_set_0 : decode cX4_set 0 = .ok (.lload_n 1, 1) := by decide +kernel
theorem dX4_set_1 : decode cX4_set 1 = .ok (.lload_n 3, 1) := by decide +kernel
theorem dX4_set_2 : decode cX4_set 2 = .ok (.invokestatic 13, 3) := by decide +kernel
theorem dX4_set_5 : decode cX4_set 5 = .ok (.lstore 5, 2) := by decide +kernel
theorem dX4_set_7 : decode cX4_set 7 = .ok (.aload_n 0, 1) := by decide +kernel
theorem dX4_set_8 : decode cX4_set 8 = .ok (.lload 5, 2) := by decide +kernel
theorem dX4_set_10 : decode cX4_set 10 = .ok (.lconst 1, 1) := by decide +kernel
theorem dX4_set_11 : decode cX4_set 11 = .ok (.lcmp, 1) := by decide +kernel
theorem dX4_set_12 : decode cX4_set 12 = .ok (.ifCond .le 10, 3) := by decide +kernel
theorem dX4_set_15 : decode cX4_set 15 = .ok (.lload_n 1, 1) := by decide +kernel
theorem dX4_set_16 : decode cX4_set 16 = .ok (.lload 5, 2) := by decide +kernel
theorem dX4_set_18 : decode cX4_set 18 = .ok (.ldiv, 1) := by decide +kernel
theorem dX4_set_19 : decode cX4_set 19 = .ok (.goto 4, 3) := by decide +kernel
theorem dX4_set_22 : decode cX4_set 22 = .ok (.lload_n 1, 1) := by decide +kernel
theorem dX4_set_23 : decode cX4_set 23 = .ok (.putfield 17, 3) := by decide +kernel
theorem dX4_set_26 : decode cX4_set 26 = .ok (.aload_n 0, 1) := by decide +kernel
theorem dX4_set_27 : decode cX4_set 27 = .ok (.lload 5, 2) := by decide +kernel
theorem dX4_set_29 : decode cX4_set 29 = .ok (.lconst 1, 1) := by decide +kernel
theorem dX4_set_30 : decode cX4_set 30 = .ok (.lcmp, 1) := by decide +kernel
theorem dX4_set_31 : decode cX4_set 31 = .ok (.ifCond .le 10, 3) := by decide +kernel
theorem dX4_set_34 : decode cX4_set 34 = .ok (.lload_n 3, 1) := by decide +kernel
theorem dX4_set_35 : decode cX4_set 35 = .ok (.lload 5, 2) := by decide +kernel
theorem dX4_set_37 : decode cX4_set 37 = .ok (.ldiv, 1) := by decide +kernel
theorem dX4_set_38 : decode cX4_set 38 = .ok (.goto 4, 3) := by decide +kernel
theorem dX4_set_41 : decode cX4_set 41 = .ok (.lload_n 3, 1) := by decide +kernel
theorem dX4_set_42 : decode cX4_set 42 = .ok (.putfield 7, 3) := by decide +kernel
theorem dX4_set_45 : decode cX4_set 45 = .ok (.return_, 1) := by decide +kernel
theorem dX4_add_0 : decode cX4_add 0 = .ok (.aload_n 0, 1) := by decide +kernel
theorem dX4_add_1 : decode cX4_add 1 = .ok (.getfield 7, 3) := by decide +kernel
theorem dX4_add_4 : decode cX4_add 4 = .ok (.aload_n 1, 1) := by decide +kernel
theorem dX4_add_5 : decode cX4_add 5 = .ok (.getfield 7, 3) := by decide +kernel
theorem dX4_add_8 : decode cX4_add 8 = .ok (.invokestatic 13, 3) := by decide +kernel
theorem dX4_add_11 : decode cX4_add 11 = .ok (.lstore_n 2, 1) := by decide +kernel
theorem dX4_add_12 : decode cX4_add 12 = .ok (.lload_n 2, 1) := by decide +kernel
theorem dX4_add_13 : decode cX4_add 13 = .ok (.lconst 0, 1) := by decide +kernel
theorem dX4_add_14 : decode cX4_add 14 = .ok (.lcmp, 1) := by decide +kernel
theorem dX4_add_15 : decode cX4_add 15 = .ok (.ifCond .le 41, 3) := by decide +kernel
theorem dX4_add_18 : decode cX4_add 18 = .ok (.aload_n 1, 1) := by decide +kernel
theorem dX4_add_19 : decode cX4_add 19 = .ok (.getfield 7, 3) := by decide +kernel
theorem dX4_add_22 : decode cX4_add 22 = .ok (.lload_n 2, 1) := by decide +kernel
theorem dX4_add_23 : decode cX4_add 23 = .ok (.ldiv, 1) := by decide +kernel
theorem dX4_add_24 : decode cX4_add 24 = .ok (.lstore 4, 2) := by decide +kernel
theorem dX4_add_26 : decode cX4_add 26 = .ok (.aload_n 0, 1) := by decide +kernel
theorem dX4_add_27 : decode cX4_add 27 = .ok (.aload_n 0, 1) := by decide +kernel
theorem dX4_add_28 : decode cX4_add 28 = .ok (.getfield 17, 3) := by decide +kernel
theorem dX4_add_31 : decode cX4_add 31 = .ok (.lload 4, 2) := by decide +kernel
theorem dX4_add_33 : decode cX4_add 33 = .ok (.lmul, 1) := by decide +kernel
theorem dX4_add_34 : decode cX4_add 34 = .ok (.aload_n 1, 1) := by decide +kernel
theorem dX4_add_35 : decode cX4_add 35 = .ok (.getfield 17, 3) := by decide +kernel
theorem dX4_add_38 : decode cX4_add 38 = .ok (.aload_n 0, 1) := by decide +kernel
theorem dX4_add_39 : decode cX4_add 39 = .ok (.getfield 7, 3) := by decide +kernel
theorem dX4_add_42 : decode cX4_add 42 = .ok (.lload_n 2, 1) := by decide +kernel
theorem dX4_add_43 : decode cX4_add 43 = .ok (.ldiv, 1) := by decide +kernel
theorem dX4_add_44 : decode cX4_add 44 = .ok (.lmul, 1) := by decide +kernel
theorem dX4_add_45 : decode cX4_add 45 = .ok (.ladd, 1) := by decide +kernel
theorem dX4_add_46 : decode cX4_add 46 = .ok (.aload_n 0, 1) := by decide +kernel
theorem dX4_add_47 : decode cX4_add 47 = .ok (.getfield 7, 3) := by decide +kernel
theorem dX4_add_50 : decode cX4_add 50 = .ok (.lload 4, 2) := by decide +kernel
theorem dX4_add_52 : decode cX4_add 52 = .ok (.lmul, 1) := by decide +kernel
theorem dX4_add_53 : decode cX4_add 53 = .ok (.invokevirtual 20, 3) := by decide +kernel
theorem dX4_add_56 : decode cX4_add 56 = .ok (.return_, 1) := by decide +kernel
theorem dX4_compare_0 : decode cX4_compare 0 = .ok (.lload_n 0, 1) := by decide +kernel
theorem dX4_compare_1 : decode cX4_compare 1 = .ok (.lstore 8, 2) := by decide +kernel
theorem dX4_compare_3 : decode cX4_compare 3 = .ok (.lload_n 2, 1) := by decide +kernel
theorem dX4_compare_4 : decode cX4_compare 4 = .ok (.lstore 10, 2) := by decide +kernel
theorem dX4_compare_6 : decode cX4_compare 6 = .ok (.lload 4, 2) := by decide +kernel
theorem dX4_compare_8 : decode cX4_compare 8 = .ok (.lstore 12, 2) := by decide +kernel
theorem dX4_compare_10 : decode cX4_compare 10 = .ok (.lload 6, 2) := by decide +kernel
theorem dX4_compare_12 : decode cX4_compare 12 = .ok (.lstore 14, 2) := by decide +kernel
theorem dX4_compare_14 : decode cX4_compare 14 = .ok (.iconst 1, 1) := by decide +kernel
theorem dX4_compare_15 : decode cX4_compare 15 = .ok (.istore 16, 2) := by decide +kernel
theorem dX4_compare_17 : decode cX4_compare 17 = .ok (.iconst 0, 1) := by decide +kernel
theorem dX4_compare_18 : decode cX4_compare 18 = .ok (.istore 17, 2) := by decide +kernel
theorem dX4_compare_20 : decode cX4_compare 20 = .ok (.iload 17, 2) := by decide +kernel
theorem dX4_compare_22 : decode cX4_compare 22 = .ok (.sipush 1000, 3) := by decide +kernel
theorem dX4_compare_25 : decode cX4_compare 25 = .ok (.if_icmp .ge 109, 3) := by decide +kernel
theorem dX4_compare_28 : decode cX4_compare 28 = .ok (.lload 10, 2) := by decide +kernel
theorem dX4_compare_30 : decode cX4_compare 30 = .ok (.lconst 0, 1) := by decide +kernel
theorem dX4_compare_31 : decode cX4_compare 31 = .ok (.lcmp, 1) := by decide +kernel
theorem dX4_compare_32 : decode cX4_compare 32 = .ok (.ifCond .le 102, 3) := by decide +kernel
theorem dX4_compare_35 : decode cX4_compare 35 = .ok (.lload 14, 2) := by decide +kernel
theorem dX4_compare_37 : decode cX4_compare 37 = .ok (.lconst 0, 1) := by decide +kernel
theorem dX4_compare_38 : decode cX4_compare 38 = .ok (.lcmp, 1) := by decide +kernel
theorem dX4_compare_39 : decode cX4_compare 39 = .ok (.ifCond .le 95, 3) := by decide +kernel
theorem dX4_compare_42 : decode cX4_compare 42 = .ok (.lload 8, 2) := by decide +kernel
theorem dX4_compare_44 : decode cX4_compare 44 = .ok (.lload 10, 2) := by decide +kernel
theorem dX4_compare_46 : decode cX4_compare 46 = .ok (.ldiv, 1) := by decide +kernel
theorem dX4_compare_47 : decode cX4_compare 47 = .ok (.lload 12, 2) := by decide +kernel
theorem dX4_compare_49 : decode cX4_compare 49 = .ok (.lload 14, 2) := by decide +kernel
theorem dX4_compare_51 : decode cX4_compare 51 = .ok (.ldiv, 1) := by decide +kernel
theorem dX4_compare_52 : decode cX4_compare 52 = .ok (.invokestatic 24, 3) := by decide +kernel
theorem dX4_compare_55 : decode cX4_compare 55 = .ok (.istore 18, 2) := by decide +kernel
theorem dX4_compare_57 : decode cX4_compare 57 = .ok (.iload 18, 2) := by decide +kernel
theorem dX4_compare_59 : decode cX4_compare 59 = .ok (.ifCond .eq 9, 3) := by decide +kernel
theorem dX4_compare_62 : decode cX4_compare 62 = .ok (.iload 18, 2) := by decide +kernel
theorem dX4_compare_64 : decode cX4_compare 64 = .ok (.iload 16, 2) := by decide +kernel
theorem dX4_compare_66 : decode cX4_compare 66 = .ok (.imul, 1) := by decide +kernel
theorem dX4_compare_67 : decode cX4_compare 67 = .ok (.ireturn, 1) := by decide +kernel
theorem dX4_compare_68 : decode cX4_compare 68 = .ok (.lload 8, 2) := by decide +kernel
theorem dX4_compare_70 : decode cX4_compare 70 = .ok (.lload 10, 2) := by decide +kernel
theorem dX4_compare_72 : decode cX4_compare 72 = .ok (.lrem, 1) := by decide +kernel
theorem dX4_compare_73 : decode cX4_compare 73 = .ok (.lstore 19, 2) := by decide +kernel
theorem dX4_compare_75 : decode cX4_compare 75 = .ok (.lload 12, 2) := by decide +kernel
theorem dX4_compare_77 : decode cX4_compare 77 = .ok (.lload 14, 2) := by decide +kernel
theorem dX4_compare_79 : decode cX4_compare 79 = .ok (.lrem, 1) := by decide +kernel
theorem dX4_compare_80 : decode cX4_compare 80 = .ok (.lstore 21, 2) := by decide +kernel
theorem dX4_compare_82 : decode cX4_compare 82 = .ok (.lload 19, 2) := by decide +kernel
theorem dX4_compare_84 : decode cX4_compare 84 = .ok (.lconst 0, 1) := by decide +kernel
theorem dX4_compare_85 : decode cX4_compare 85 = .ok (.lcmp, 1) := by decide +kernel
theorem dX4_compare_86 : decode cX4_compare 86 = .ok (.ifCond .eq 10, 3) := by decide +kernel
theorem dX4_compare_89 : decode cX4_compare 89 = .ok (.lload 21, 2) := by decide +kernel
theorem dX4_compare_91 : decode cX4_compare 91 = .ok (.lconst 0, 1) := by decide +kernel
theorem dX4_compare_92 : decode cX4_compare 92 = .ok (.lcmp, 1) := by decide +kernel
theorem dX4_compare_93 : decode cX4_compare 93 = .ok (.ifCond .ne 14, 3) := by decide +kernel
theorem dX4_compare_96 : decode cX4_compare 96 = .ok (.lload 19, 2) := by decide +kernel
theorem dX4_compare_98 : decode cX4_compare 98 = .ok (.lload 21, 2) := by decide +kernel
theorem dX4_compare_100 : decode cX4_compare 100 = .ok (.invokestatic 24, 3) := by decide +kernel
theorem dX4_compare_103 : decode cX4_compare 103 = .ok (.iload 16, 2) := by decide +kernel
theorem dX4_compare_105 : decode cX4_compare 105 = .ok (.imul, 1) := by decide +kernel
theorem dX4_compare_106 : decode cX4_compare 106 = .ok (.ireturn, 1) := by decide +kernel
theorem dX4_compare_107 : decode cX4_compare 107 = .ok (.lload 10, 2) := by decide +kernel
theorem dX4_compare_109 : decode cX4_compare 109 = .ok (.lstore 8, 2) := by decide +kernel
theorem dX4_compare_111 : decode cX4_compare 111 = .ok (.lload 19, 2) := by decide +kernel
theorem dX4_compare_113 : decode cX4_compare 113 = .ok (.lstore 10, 2) := by decide +kernel
theorem dX4_compare_115 : decode cX4_compare 115 = .ok (.lload 14, 2) := by decide +kernel
theorem dX4_compare_117 : decode cX4_compare 117 = .ok (.lstore 12, 2) := by decide +kernel
theorem dX4_compare_119 : decode cX4_compare 119 = .ok (.lload 21, 2) := by decide +kernel
theorem dX4_compare_121 : decode cX4_compare 121 = .ok (.lstore 14, 2) := by decide +kernel
theorem dX4_compare_123 : decode cX4_compare 123 = .ok (.iload 16, 2) := by decide +kernel
theorem dX4_compare_125 : decode cX4_compare 125 = .ok (.ineg, 1) := by decide +kernel
theorem dX4_compare_126 : decode cX4_compare 126 = .ok (.istore 16, 2) := by decide +kernel
theorem dX4_compare_128 : decode cX4_compare 128 = .ok (.iinc 17 1, 3) := by decide +kernel
theorem dX4_compare_131 : decode cX4_compare 131 = .ok (.goto (-111), 3) := by decide +kernel
theorem dX4_compare_134 : decode cX4_compare 134 = .ok (.iconst 0, 1) := by decide +kernel
theorem dX4_compare_135 : decode cX4_compare 135 = .ok (.ireturn, 1) := by decide +kernel
theorem dX6_init_0 : decode cX6_init 0 = .ok (.aload_n 0, 1) := by decide +kernel
theorem dX6_init_1 : decode cX6_init 1 = .ok (.invokespecial 3, 3) := by decide +kernel
theorem dX6_init_4 : decode cX6_init 4 = .ok (.aload_n 0, 1) := by decide +kernel
theorem dX6_init_5 : decode cX6_init 5 = .ok (.bipush 24, 2) := by decide +kernel
theorem dX6_init_7 : decode cX6_init 7 = .ok (.newarray .int, 2) := by decide +kernel
theorem dX6_init_9 : decode cX6_init 9 = .ok (.putfield 9, 3) := by decide +kernel
theorem dX6_init_12 : decode cX6_init 12 = .ok (.aload_n 0, 1) := by decide +kernel
theorem dX6_init_13 : decode cX6_init 13 = .ok (.bipush 24, 2) := by decide +kernel
theorem dX6_init_15 : decode cX6_init 15 = .ok (.newarray .int, 2) := by decide +kernel
theorem dX6_init_17 : decode cX6_init 17 = .ok (.putfield 15, 3) := by decide +kernel
theorem dX6_init_20 : decode cX6_init 20 = .ok (.aload_n 0, 1) := by decide +kernel
theorem dX6_init_21 : decode cX6_init 21 = .ok (.bipush 24, 2) := by decide +kernel
theorem dX6_init_23 : decode cX6_init 23 = .ok (.newarray .int, 2) := by decide +kernel
theorem dX6_init_25 : decode cX6_init 25 = .ok (.putfield 18, 3) := by decide +kernel
theorem dX6_init_28 : decode cX6_init 28 = .ok (.aload_n 0, 1) := by decide +kernel
theorem dX6_init_29 : decode cX6_init 29 = .ok (.bipush 24, 2) := by decide +kernel
theorem dX6_init_31 : decode cX6_init 31 = .ok (.newarray .boolean, 2) := by decide +kernel
theorem dX6_init_33 : decode cX6_init 33 = .ok (.putfield 21, 3) := by decide +kernel
theorem dX6_init_36 : decode cX6_init 36 = .ok (.aload_n 0, 1) := by decide +kernel
theorem dX6_init_37 : decode cX6_init 37 = .ok (.bipush 24, 2) := by decide +kernel
theorem dX6_init_39 : decode cX6_init 39 = .ok (.newarray .int, 2) := by decide +kernel
theorem dX6_init_41 : decode cX6_init 41 = .ok (.putfield 25, 3) := by decide +kernel
theorem dX6_init_44 : decode cX6_init 44 = .ok (.aload_n 0, 1) := by decide +kernel
theorem dX6_init_45 : decode cX6_init 45 = .ok (.bipush 24, 2) := by decide +kernel
theorem dX6_init_47 : decode cX6_init 47 = .ok (.newarray .int, 2) := by decide +kernel
theorem dX6_init_49 : decode cX6_init 49 = .ok (.putfield 28, 3) := by decide +kernel
theorem dX6_init_52 : decode cX6_init 52 = .ok (.aload_n 0, 1) := by decide +kernel
theorem dX6_init_53 : decode cX6_init 53 = .ok (.iconst 1, 1) := by decide +kernel
theorem dX6_init_54 : decode cX6_init 54 = .ok (.putfield 31, 3) := by decide +kernel
theorem dX6_init_57 : decode cX6_init 57 = .ok (.aload_n 0, 1) := by decide +kernel
theorem dX6_init_58 : decode cX6_init 58 = .ok (.iconst 1, 1) := by decide +kernel
theorem dX6_init_59 : decode cX6_init 59 = .ok (.putfield 35, 3) := by decide +kernel
theorem dX6_init_62 : decode cX6_init 62 = .ok (.return_, 1) := by decide +kernel
theorem dX6_hasRoomFor_0 : decode cX6_hasRoomFor 0 = .ok (.aload_n 0, 1) := by decide +kernel
theorem dX6_hasRoomFor_1 : decode cX6_hasRoomFor 1 = .ok (.getfield 38, 3) := by decide +kernel
theorem dX6_hasRoomFor_4 : decode cX6_hasRoomFor 4 = .ok (.iload_n 1, 1) := by decide +kernel
theorem dX6_hasRoomFor_5 : decode cX6_hasRoomFor 5 = .ok (.iadd, 1) := by decide +kernel
theorem dX6_hasRoomFor_6 : decode cX6_hasRoomFor 6 = .ok (.bipush 24, 2) := by decide +kernel
theorem dX6_hasRoomFor_8 : decode cX6_hasRoomFor 8 = .ok (.if_icmp .gt 7, 3) := by decide +kernel
theorem dX6_hasRoomFor_11 : decode cX6_hasRoomFor 11 = .ok (.iconst 1, 1) := by decide +kernel
theorem dX6_hasRoomFor_12 : decode cX6_hasRoomFor 12 = .ok (.goto 4, 3) := by decide +kernel
theorem dX6_hasRoomFor_15 : decode cX6_hasRoomFor 15 = .ok (.iconst 0, 1) := by decide +kernel
theorem dX6_hasRoomFor_16 : decode cX6_hasRoomFor 16 = .ok (.ireturn, 1) := by decide +kernel
theorem dX6_add_0 : decode cX6_add 0 = .ok (.aload_n 0, 1) := by decide +kernel
theorem dX6_add_1 : decode cX6_add 1 = .ok (.getfield 38, 3) := by decide +kernel
theorem dX6_add_4 : decode cX6_add 4 = .ok (.ifCond .lt 12, 3) := by decide +kernel
theorem dX6_add_7 : decode cX6_add 7 = .ok (.aload_n 0, 1) := by decide +kernel
theorem dX6_add_8 : decode cX6_add 8 = .ok (.getfield 38, 3) := by decide +kernel
theorem dX6_add_11 : decode cX6_add 11 = .ok (.bipush 24, 2) := by decide +kernel
theorem dX6_add_13 : decode cX6_add 13 = .ok (.if_icmp .lt 4, 3) := by decide +kernel
theorem dX6_add_16 : decode cX6_add 16 = .ok (.return_, 1) := by decide +kernel
theorem dX6_add_17 : decode cX6_add 17 = .ok (.aload_n 0, 1) := by decide +kernel
theorem dX6_add_18 : decode cX6_add 18 = .ok (.getfield 9, 3) := by decide +kernel
theorem dX6_add_21 : decode cX6_add 21 = .ok (.aload_n 0, 1) := by decide +kernel
theorem dX6_add_22 : decode cX6_add 22 = .ok (.getfield 38, 3) := by decide +kernel
theorem dX6_add_25 : decode cX6_add 25 = .ok (.iload_n 1, 1) := by decide +kernel
theorem dX6_add_26 : decode cX6_add 26 = .ok (.iastore, 1) := by decide +kernel
theorem dX6_add_27 : decode cX6_add 27 = .ok (.aload_n 0, 1) := by decide +kernel
theorem dX6_add_28 : decode cX6_add 28 = .ok (.getfield 15, 3) := by decide +kernel
theorem dX6_add_31 : decode cX6_add 31 = .ok (.aload_n 0, 1) := by decide +kernel
theorem dX6_add_32 : decode cX6_add 32 = .ok (.getfield 38, 3) := by decide +kernel
theorem dX6_add_35 : decode cX6_add 35 = .ok (.iload_n 2, 1) := by decide +kernel
theorem dX6_add_36 : decode cX6_add 36 = .ok (.iastore, 1) := by decide +kernel
theorem dX6_add_37 : decode cX6_add 37 = .ok (.aload_n 0, 1) := by decide +kernel
theorem dX6_add_38 : decode cX6_add 38 = .ok (.getfield 18, 3) := by decide +kernel
theorem dX6_add_41 : decode cX6_add 41 = .ok (.aload_n 0, 1) := by decide +kernel
theorem dX6_add_42 : decode cX6_add 42 = .ok (.getfield 38, 3) := by decide +kernel
theorem dX6_add_45 : decode cX6_add 45 = .ok (.iload_n 3, 1) := by decide +kernel
theorem dX6_add_46 : decode cX6_add 46 = .ok (.iastore, 1) := by decide +kernel
theorem dX6_add_47 : decode cX6_add 47 = .ok (.aload_n 0, 1) := by decide +kernel
theorem dX6_add_48 : decode cX6_add 48 = .ok (.getfield 21, 3) := by decide +kernel
theorem dX6_add_51 : decode cX6_add 51 = .ok (.aload_n 0, 1) := by decide +kernel
theorem dX6_add_52 : decode cX6_add 52 = .ok (.getfield 38, 3) := by decide +kernel
theorem dX6_add_55 : decode cX6_add 55 = .ok (.iload 4, 2) := by decide +kernel
theorem dX6_add_57 : decode cX6_add 57 = .ok (.bastore, 1) := by decide +kernel
theorem dX6_add_58 : decode cX6_add 58 = .ok (.aload_n 0, 1) := by decide +kernel
theorem dX6_add_59 : decode cX6_add 59 = .ok (.getfield 25, 3) := by decide +kernel
theorem dX6_add_62 : decode cX6_add 62 = .ok (.aload_n 0, 1) := by decide +kernel
theorem dX6_add_63 : decode cX6_add 63 = .ok (.getfield 38, 3) := by decide +kernel
theorem dX6_add_66 : decode cX6_add 66 = .ok (.aload_n 0, 1) := by decide +kernel
theorem dX6_add_67 : decode cX6_add 67 = .ok (.getfield 31, 3) := by decide +kernel
theorem dX6_add_70 : decode cX6_add 70 = .ok (.iastore, 1) := by decide +kernel
theorem dX6_add_71 : decode cX6_add 71 = .ok (.aload_n 0, 1) := by decide +kernel
theorem dX6_add_72 : decode cX6_add 72 = .ok (.getfield 28, 3) := by decide +kernel
theorem dX6_add_75 : decode cX6_add 75 = .ok (.aload_n 0, 1) := by decide +kernel
theorem dX6_add_76 : decode cX6_add 76 = .ok (.getfield 38, 3) := by decide +kernel
theorem dX6_add_79 : decode cX6_add 79 = .ok (.aload_n 0, 1) := by decide +kernel
theorem dX6_add_80 : decode cX6_add 80 = .ok (.getfield 35, 3) := by decide +kernel
theorem dX6_add_83 : decode cX6_add 83 = .ok (.iastore, 1) := by decide +kernel
theorem dX6_add_84 : decode cX6_add 84 = .ok (.aload_n 0, 1) := by decide +kernel
theorem dX6_add_85 : decode cX6_add 85 = .ok (.dup, 1) := by decide +kernel
theorem dX6_add_86 : decode cX6_add 86 = .ok (.getfield 38, 3) := by decide +kernel
theorem dX6_add_89 : decode cX6_add 89 = .ok (.iconst 1, 1) := by decide +kernel
theorem dX6_add_90 : decode cX6_add 90 = .ok (.iadd, 1) := by decide +kernel
theorem dX6_add_91 : decode cX6_add 91 = .ok (.putfield 38, 3) := by decide +kernel
theorem dX6_add_94 : decode cX6_add 94 = .ok (.return_, 1) := by decide +kernel
theorem dX6_multiply_0 : decode cX6_multiply 0 = .ok (.aload_n 0, 1) := by decide +kernel
theorem dX6_multiply_1 : decode cX6_multiply 1 = .ok (.getfield 31, 3) := by decide +kernel
theorem dX6_multiply_4 : decode cX6_multiply 4 = .ok (.iload_n 1, 1) := by decide +kernel
theorem dX6_multiply_5 : decode cX6_multiply 5 = .ok (.imul, 1) := by decide +kernel
theorem dX6_multiply_6 : decode cX6_multiply 6 = .ok (.istore_n 3, 1) := by decide +kernel
theorem dX6_multiply_7 : decode cX6_multiply 7 = .ok (.aload_n 0, 1) := by decide +kernel
theorem dX6_multiply_8 : decode cX6_multiply 8 = .ok (.getfield 35, 3) := by decide +kernel
theorem dX6_multiply_11 : decode cX6_multiply 11 = .ok (.iload_n 2, 1) := by decide +kernel
theorem dX6_multiply_12 : decode cX6_multiply 12 = .ok (.imul, 1) := by decide +kernel
theorem dX6_multiply_13 : decode cX6_multiply 13 = .ok (.istore 4, 2) := by decide +kernel
theorem dX6_multiply_15 : decode cX6_multiply 15 = .ok (.iload_n 3, 1) := by decide +kernel
theorem dX6_multiply_16 : decode cX6_multiply 16 = .ok (.i2l, 1) := by decide +kernel
theorem dX6_multiply_17 : decode cX6_multiply 17 = .ok (.iload 4, 2) := by decide +kernel
theorem dX6_multiply_19 : decode cX6_multiply 19 = .ok (.i2l, 1) := by decide +kernel
theorem dX6_multiply_20 : decode cX6_multiply 20 = .ok (.invokestatic 41, 3) := by decide +kernel
theorem dX6_multiply_23 : decode cX6_multiply 23 = .ok (.l2i, 1) := by decide +kernel
theorem dX6_multiply_24 : decode cX6_multiply 24 = .ok (.istore 5, 2) := by decide +kernel
theorem dX6_multiply_26 : decode cX6_multiply 26 = .ok (.iload 5, 2) := by decide +kernel
theorem dX6_multiply_28 : decode cX6_multiply 28 = .ok (.iconst 1, 1) := by decide +kernel
theorem dX6_multiply_29 : decode cX6_multiply 29 = .ok (.if_icmp .le 15, 3) := by decide +kernel
theorem dX6_multiply_32 : decode cX6_multiply 32 = .ok (.iload_n 3, 1) := by decide +kernel
theorem dX6_multiply_33 : decode cX6_multiply 33 = .ok (.iload 5, 2) := by decide +kernel
theorem dX6_multiply_35 : decode cX6_multiply 35 = .ok (.idiv, 1) := by decide +kernel
theorem dX6_multiply_36 : decode cX6_multiply 36 = .ok (.istore_n 3, 1) := by decide +kernel
theorem dX6_multiply_37 : decode cX6_multiply 37 = .ok (.iload 4, 2) := by decide +kernel
theorem dX6_multiply_39 : decode cX6_multiply 39 = .ok (.iload 5, 2) := by decide +kernel
theorem dX6_multiply_41 : decode cX6_multiply 41 = .ok (.idiv, 1) := by decide +kernel
theorem dX6_multiply_42 : decode cX6_multiply 42 = .ok (.istore 4, 2) := by decide +kernel
theorem dX6_multiply_44 : decode cX6_multiply 44 = .ok (.iload_n 3, 1) := by decide +kernel
theorem dX6_multiply_45 : decode cX6_multiply 45 = .ok (.sipush 1000, 3) := by decide +kernel
theorem dX6_multiply_48 : decode cX6_multiply 48 = .ok (.if_icmp .gt 11, 3) := by decide +kernel
theorem dX6_multiply_51 : decode cX6_multiply 51 = .ok (.iload 4, 2) := by decide +kernel
theorem dX6_multiply_53 : decode cX6_multiply 53 = .ok (.sipush 1000, 3) := by decide +kernel
theorem dX6_multiply_56 : decode cX6_multiply 56 = .ok (.if_icmp .le 5, 3) := by decide +kernel
theorem dX6_multiply_59 : decode cX6_multiply 59 = .ok (.iconst 0, 1) := by decide +kernel
theorem dX6_multiply_60 : decode cX6_multiply 60 = .ok (.ireturn, 1) := by decide +kernel
theorem dX6_multiply_61 : decode cX6_multiply 61 = .ok (.aload_n 0, 1) := by decide +kernel
theorem dX6_multiply_62 : decode cX6_multiply 62 = .ok (.iload_n 3, 1) := by decide +kernel
theorem dX6_multiply_63 : decode cX6_multiply 63 = .ok (.putfield 31, 3) := by decide +kernel
theorem dX6_multiply_66 : decode cX6_multiply 66 = .ok (.aload_n 0, 1) := by decide +kernel
theorem dX6_multiply_67 : decode cX6_multiply 67 = .ok (.iload 4, 2) := by decide +kernel
theorem dX6_multiply_69 : decode cX6_multiply 69 = .ok (.putfield 35, 3) := by decide +kernel
theorem dX6_multiply_72 : decode cX6_multiply 72 = .ok (.iconst 1, 1) := by decide +kernel
theorem dX6_multiply_73 : decode cX6_multiply 73 = .ok (.ireturn, 1) := by decide +kernel
theorem dX6_sortAt_0 : decode cX6_sortAt 0 = .ok (.iload_n 1, 1) := by decide +kernel
theorem dX6_sortAt_1 : decode cX6_sortAt 1 = .ok (.ifCond .lt 17, 3) := by decide +kernel
theorem dX6_sortAt_4 : decode cX6_sortAt 4 = .ok (.iload_n 1, 1) := by decide +kernel
theorem dX6_sortAt_5 : decode cX6_sortAt 5 = .ok (.aload_n 0, 1) := by decide +kernel
theorem dX6_sortAt_6 : decode cX6_sortAt 6 = .ok (.getfield 38, 3) := by decide +kernel
theorem dX6_sortAt_9 : decode cX6_sortAt 9 = .ok (.if_icmp .ge 9, 3) := by decide +kernel
theorem dX6_sortAt_12 : decode cX6_sortAt 12 = .ok (.iload_n 1, 1) := by decide +kernel
theorem dX6_sortAt_13 : decode cX6_sortAt 13 = .ok (.bipush 24, 2) := by decide +kernel
theorem dX6_sortAt_15 : decode cX6_sortAt 15 = .ok (.if_icmp .lt 7, 3) := by decide +kernel
theorem dX6_sortAt_18 : decode cX6_sortAt 18 = .ok (.iconst (-1), 1) := by decide +kernel
theorem dX6_sortAt_19 : decode cX6_sortAt 19 = .ok (.goto 9, 3) := by decide +kernel
theorem dX6_sortAt_22 : decode cX6_sortAt 22 = .ok (.aload_n 0, 1) := by decide +kernel
theorem dX6_sortAt_23 : decode cX6_sortAt 23 = .ok (.getfield 9, 3) := by decide +kernel
theorem dX6_sortAt_26 : decode cX6_sortAt 26 = .ok (.iload_n 1, 1) := by decide +kernel
theorem dX6_sortAt_27 : decode cX6_sortAt 27 = .ok (.iaload, 1) := by decide +kernel
theorem dX6_sortAt_28 : decode cX6_sortAt 28 = .ok (.ireturn, 1) := by decide +kernel
theorem dX6_kindAt_0 : decode cX6_kindAt 0 = .ok (.iload_n 1, 1) := by decide +kernel
theorem dX6_kindAt_1 : decode cX6_kindAt 1 = .ok (.ifCond .lt 17, 3) := by decide +kernel
theorem dX6_kindAt_4 : decode cX6_kindAt 4 = .ok (.iload_n 1, 1) := by decide +kernel
theorem dX6_kindAt_5 : decode cX6_kindAt 5 = .ok (.aload_n 0, 1) := by decide +kernel
theorem dX6_kindAt_6 : decode cX6_kindAt 6 = .ok (.getfield 38, 3) := by decide +kernel
theorem dX6_kindAt_9 : decode cX6_kindAt 9 = .ok (.if_icmp .ge 9, 3) := by decide +kernel
theorem dX6_kindAt_12 : decode cX6_kindAt 12 = .ok (.iload_n 1, 1) := by decide +kernel
theorem dX6_kindAt_13 : decode cX6_kindAt 13 = .ok (.bipush 24, 2) := by decide +kernel
theorem dX6_kindAt_15 : decode cX6_kindAt 15 = .ok (.if_icmp .lt 7, 3) := by decide +kernel
theorem dX6_kindAt_18 : decode cX6_kindAt 18 = .ok (.iconst (-1), 1) := by decide +kernel
theorem dX6_kindAt_19 : decode cX6_kindAt 19 = .ok (.goto 9, 3) := by decide +kernel
theorem dX6_kindAt_22 : decode cX6_kindAt 22 = .ok (.aload_n 0, 1) := by decide +kernel
theorem dX6_kindAt_23 : decode cX6_kindAt 23 = .ok (.getfield 15, 3) := by decide +kernel
theorem dX6_kindAt_26 : decode cX6_kindAt 26 = .ok (.iload_n 1, 1) := by decide +kernel
theorem dX6_kindAt_27 : decode cX6_kindAt 27 = .ok (.iaload, 1) := by decide +kernel
theorem dX6_kindAt_28 : decode cX6_kindAt 28 = .ok (.ireturn, 1) := by decide +kernel
theorem dX6_pitchAt_0 : decode cX6_pitchAt 0 = .ok (.iload_n 1, 1) := by decide +kernel
theorem dX6_pitchAt_1 : decode cX6_pitchAt 1 = .ok (.ifCond .lt 17, 3) := by decide +kernel
theorem dX6_pitchAt_4 : decode cX6_pitchAt 4 = .ok (.iload_n 1, 1) := by decide +kernel
theorem dX6_pitchAt_5 : decode cX6_pitchAt 5 = .ok (.aload_n 0, 1) := by decide +kernel
theorem dX6_pitchAt_6 : decode cX6_pitchAt 6 = .ok (.getfield 38, 3) := by decide +kernel
theorem dX6_pitchAt_9 : decode cX6_pitchAt 9 = .ok (.if_icmp .ge 9, 3) := by decide +kernel
theorem dX6_pitchAt_12 : decode cX6_pitchAt 12 = .ok (.iload_n 1, 1) := by decide +kernel
theorem dX6_pitchAt_13 : decode cX6_pitchAt 13 = .ok (.bipush 24, 2) := by decide +kernel
theorem dX6_pitchAt_15 : decode cX6_pitchAt 15 = .ok (.if_icmp .lt 7, 3) := by decide +kernel
theorem dX6_pitchAt_18 : decode cX6_pitchAt 18 = .ok (.iconst (-1), 1) := by decide +kernel
theorem dX6_pitchAt_19 : decode cX6_pitchAt 19 = .ok (.goto 9, 3) := by decide +kernel
theorem dX6_pitchAt_22 : decode cX6_pitchAt 22 = .ok (.aload_n 0, 1) := by decide +kernel
theorem dX6_pitchAt_23 : decode cX6_pitchAt 23 = .ok (.getfield 18, 3) := by decide +kernel
theorem dX6_pitchAt_26 : decode cX6_pitchAt 26 = .ok (.iload_n 1, 1) := by decide +kernel
theorem dX6_pitchAt_27 : decode cX6_pitchAt 27 = .ok (.iaload, 1) := by decide +kernel
theorem dX6_pitchAt_28 : decode cX6_pitchAt 28 = .ok (.ireturn, 1) := by decide +kernel
theorem dX6_isColouredAt_0 : decode cX6_isColouredAt 0 = .ok (.iload_n 1, 1) := by decide +kernel
theorem dX6_isColouredAt_1 : decode cX6_isColouredAt 1 = .ok (.ifCond .lt 30, 3) := by decide +kernel
theorem dX6_isColouredAt_4 : decode cX6_isColouredAt 4 = .ok (.iload_n 1, 1) := by decide +kernel
theorem dX6_isColouredAt_5 : decode cX6_isColouredAt 5 = .ok (.aload_n 0, 1) := by decide +kernel
theorem dX6_isColouredAt_6 : decode cX6_isColouredAt 6 = .ok (.getfield 38, 3) := by decide +kernel
theorem dX6_isColouredAt_9 : decode cX6_isColouredAt 9 = .ok (.if_icmp .ge 22, 3) := by decide +kernel
theorem dX6_isColouredAt_12 : decode cX6_isColouredAt 12 = .ok (.iload_n 1, 1) := by decide +kernel
theorem dX6_isColouredAt_13 : decode cX6_isColouredAt 13 = .ok (.bipush 24, 2) := by decide +kernel
theorem dX6_isColouredAt_15 : decode cX6_isColouredAt 15 = .ok (.if_icmp .ge 16, 3) := by decide +kernel
theorem dX6_isColouredAt_18 : decode cX6_isColouredAt 18 = .ok (.aload_n 0, 1) := by decide +kernel
theorem dX6_isColouredAt_19 : decode cX6_isColouredAt 19 = .ok (.getfield 21, 3) := by decide +kernel
theorem dX6_isColouredAt_22 : decode cX6_isColouredAt 22 = .ok (.iload_n 1, 1) := by decide +kernel
theorem dX6_isColouredAt_23 : decode cX6_isColouredAt 23 = .ok (.baload, 1) := by decide +kernel
theorem dX6_isColouredAt_24 : decode cX6_isColouredAt 24 = .ok (.ifCond .eq 7, 3) := by decide +kernel
theorem dX6_isColouredAt_27 : decode cX6_isColouredAt 27 = .ok (.iconst 1, 1) := by decide +kernel
theorem dX6_isColouredAt_28 : decode cX6_isColouredAt 28 = .ok (.goto 4, 3) := by decide +kernel
theorem dX6_isColouredAt_31 : decode cX6_isColouredAt 31 = .ok (.iconst 0, 1) := by decide +kernel
theorem dX6_isColouredAt_32 : decode cX6_isColouredAt 32 = .ok (.ireturn, 1) := by decide +kernel
theorem dX6_upAt_0 : decode cX6_upAt 0 = .ok (.iload_n 1, 1) := by decide +kernel
theorem dX6_upAt_1 : decode cX6_upAt 1 = .ok (.ifCond .lt 17, 3) := by decide +kernel
theorem dX6_upAt_4 : decode cX6_upAt 4 = .ok (.iload_n 1, 1) := by decide +kernel
theorem dX6_upAt_5 : decode cX6_upAt 5 = .ok (.aload_n 0, 1) := by decide +kernel
theorem dX6_upAt_6 : decode cX6_upAt 6 = .ok (.getfield 38, 3) := by decide +kernel
theorem dX6_upAt_9 : decode cX6_upAt 9 = .ok (.if_icmp .ge 9, 3) := by decide +kernel
theorem dX6_upAt_12 : decode cX6_upAt 12 = .ok (.iload_n 1, 1) := by decide +kernel
theorem dX6_upAt_13 : decode cX6_upAt 13 = .ok (.bipush 24, 2) := by decide +kernel
theorem dX6_upAt_15 : decode cX6_upAt 15 = .ok (.if_icmp .lt 7, 3) := by decide +kernel
theorem dX6_upAt_18 : decode cX6_upAt 18 = .ok (.iconst 1, 1) := by decide +kernel
theorem dX6_upAt_19 : decode cX6_upAt 19 = .ok (.goto 9, 3) := by decide +kernel
theorem dX6_upAt_22 : decode cX6_upAt 22 = .ok (.aload_n 0, 1) := by decide +kernel
theorem dX6_upAt_23 : decode cX6_upAt 23 = .ok (.getfield 25, 3) := by decide +kernel
theorem dX6_upAt_26 : decode cX6_upAt 26 = .ok (.iload_n 1, 1) := by decide +kernel
theorem dX6_upAt_27 : decode cX6_upAt 27 = .ok (.iaload, 1) := by decide +kernel
theorem dX6_upAt_28 : decode cX6_upAt 28 = .ok (.ireturn, 1) := by decide +kernel
theorem dX6_downAt_0 : decode cX6_downAt 0 = .ok (.iload_n 1, 1) := by decide +kernel
theorem dX6_downAt_1 : decode cX6_downAt 1 = .ok (.ifCond .lt 17, 3) := by decide +kernel
theorem dX6_downAt_4 : decode cX6_downAt 4 = .ok (.iload_n 1, 1) := by decide +kernel
theorem dX6_downAt_5 : decode cX6_downAt 5 = .ok (.aload_n 0, 1) := by decide +kernel
theorem dX6_downAt_6 : decode cX6_downAt 6 = .ok (.getfield 38, 3) := by decide +kernel
theorem dX6_downAt_9 : decode cX6_downAt 9 = .ok (.if_icmp .ge 9, 3) := by decide +kernel
theorem dX6_downAt_12 : decode cX6_downAt 12 = .ok (.iload_n 1, 1) := by decide +kernel
theorem dX6_downAt_13 : decode cX6_downAt 13 = .ok (.bipush 24, 2) := by decide +kernel
theorem dX6_downAt_15 : decode cX6_downAt 15 = .ok (.if_icmp .lt 7, 3) := by decide +kernel
theorem dX6_downAt_18 : decode cX6_downAt 18 = .ok (.iconst 1, 1) := by decide +kernel
theorem dX6_downAt_19 : decode cX6_downAt 19 = .ok (.goto 9, 3) := by decide +kernel
theorem dX6_downAt_22 : decode cX6_downAt 22 = .ok (.aload_n 0, 1) := by decide +kernel
theorem dX6_downAt_23 : decode cX6_downAt 23 = .ok (.getfield 28, 3) := by decide +kernel
theorem dX6_downAt_26 : decode cX6_downAt 26 = .ok (.iload_n 1, 1) := by decide +kernel
theorem dX6_downAt_27 : decode cX6_downAt 27 = .ok (.iaload, 1) := by decide +kernel
theorem dX6_downAt_28 : decode cX6_downAt 28 = .ok (.ireturn, 1) := by decide +kernel
theorem dX9_init_0 : decode cX9_init 0 = .ok (.aload_n 0, 1) := by decide +kernel
theorem dX9_init_1 : decode cX9_init 1 = .ok (.invokespecial 3, 3) := by decide +kernel
theorem dX9_init_4 : decode cX9_init 4 = .ok (.aload_n 0, 1) := by decide +kernel
theorem dX9_init_5 : decode cX9_init 5 = .ok (.bipush 7, 2) := by decide +kernel
theorem dX9_init_7 : decode cX9_init 7 = .ok (.newarray .int, 2) := by decide +kernel
theorem dX9_init_9 : decode cX9_init 9 = .ok (.putfield 9, 3) := by decide +kernel
theorem dX9_init_12 : decode cX9_init 12 = .ok (.aload_n 0, 1) := by decide +kernel
theorem dX9_init_13 : decode cX9_init 13 = .ok (.bipush 24, 2) := by decide +kernel
theorem dX9_init_15 : decode cX9_init 15 = .ok (.newarray .int, 2) := by decide +kernel
theorem dX9_init_17 : decode cX9_init 17 = .ok (.putfield 15, 3) := by decide +kernel
theorem dX9_init_20 : decode cX9_init 20 = .ok (.aload_n 0, 1) := by decide +kernel
theorem dX9_init_21 : decode cX9_init 21 = .ok (.new 18, 3) := by decide +kernel
theorem dX9_init_24 : decode cX9_init 24 = .ok (.dup, 1) := by decide +kernel
theorem dX9_init_25 : decode cX9_init 25 = .ok (.invokespecial 20, 3) := by decide +kernel
theorem dX9_init_28 : decode cX9_init 28 = .ok (.putfield 21, 3) := by decide +kernel
theorem dX9_init_31 : decode cX9_init 31 = .ok (.aload_n 0, 1) := by decide +kernel
theorem dX9_init_32 : decode cX9_init 32 = .ok (.iconst 1, 1) := by decide +kernel
theorem dX9_init_33 : decode cX9_init 33 = .ok (.putfield 25, 3) := by decide +kernel
theorem dX9_init_36 : decode cX9_init 36 = .ok (.return_, 1) := by decide +kernel
theorem dX9_setSign_0 : decode cX9_setSign 0 = .ok (.aload_n 0, 1) := by decide +kernel
theorem dX9_setSign_1 : decode cX9_setSign 1 = .ok (.iload_n 1, 1) := by decide +kernel
theorem dX9_setSign_2 : decode cX9_setSign 2 = .ok (.putfield 29, 3) := by decide +kernel
theorem dX9_setSign_5 : decode cX9_setSign 5 = .ok (.aload_n 0, 1) := by decide +kernel
theorem dX9_setSign_6 : decode cX9_setSign 6 = .ok (.iconst 4, 1) := by decide +kernel
theorem dX9_setSign_7 : decode cX9_setSign 7 = .ok (.putfield 33, 3) := by decide +kernel
theorem dX9_setSign_10 : decode cX9_setSign 10 = .ok (.iconst 3, 1) := by decide +kernel
theorem dX9_setSign_11 : decode cX9_setSign 11 = .ok (.istore_n 2, 1) := by decide +kernel
theorem dX9_setSign_12 : decode cX9_setSign 12 = .ok (.bipush 6, 2) := by decide +kernel
theorem dX9_setSign_14 : decode cX9_setSign 14 = .ok (.istore_n 3, 1) := by decide +kernel
theorem dX9_setSign_15 : decode cX9_setSign 15 = .ok (.iload_n 3, 1) := by decide +kernel
theorem dX9_setSign_16 : decode cX9_setSign 16 = .ok (.ifCond .lt 58, 3) := by decide +kernel
theorem dX9_setSign_19 : decode cX9_setSign 19 = .ok (.iload_n 3, 1) := by decide +kernel
theorem dX9_setSign_20 : decode cX9_setSign 20 = .ok (.bipush 6, 2) := by decide +kernel
theorem dX9_setSign_22 : decode cX9_setSign 22 = .ok (.if_icmp .ge 19, 3) := by decide +kernel
theorem dX9_setSign_25 : decode cX9_setSign 25 = .ok (.iload_n 2, 1) := by decide +kernel
theorem dX9_setSign_26 : decode cX9_setSign 26 = .ok (.aload_n 0, 1) := by decide +kernel
theorem dX9_setSign_27 : decode cX9_setSign 27 = .ok (.iload_n 3, 1) := by decide +kernel
theorem dX9_setSign_28 : decode cX9_setSign 28 = .ok (.invokevirtual 36, 3) := by decide +kernel
theorem dX9_setSign_31 : decode cX9_setSign 31 = .ok (.ifCond .eq 7, 3) := by decide +kernel
theorem dX9_setSign_34 : decode cX9_setSign 34 = .ok (.iconst 3, 1) := by decide +kernel
theorem dX9_setSign_35 : decode cX9_setSign 35 = .ok (.goto 4, 3) := by decide +kernel
theorem dX9_setSign_38 : decode cX9_setSign 38 = .ok (.iconst 2, 1) := by decide +kernel
theorem dX9_setSign_39 : decode cX9_setSign 39 = .ok (.imul, 1) := by decide +kernel
theorem dX9_setSign_40 : decode cX9_setSign 40 = .ok (.istore_n 2, 1) := by decide +kernel
theorem dX9_setSign_41 : decode cX9_setSign 41 = .ok (.aload_n 0, 1) := by decide +kernel
theorem dX9_setSign_42 : decode cX9_setSign 42 = .ok (.getfield 9, 3) := by decide +kernel
theorem dX9_setSign_45 : decode cX9_setSign 45 = .ok (.iload_n 3, 1) := by decide +kernel
theorem dX9_setSign_46 : decode cX9_setSign 46 = .ok (.iload_n 2, 1) := by decide +kernel
theorem dX9_setSign_47 : decode cX9_setSign 47 = .ok (.iastore, 1) := by decide +kernel
theorem dX9_setSign_48 : decode cX9_setSign 48 = .ok (.aload_n 0, 1) := by decide +kernel
theorem dX9_setSign_49 : decode cX9_setSign 49 = .ok (.aload_n 0, 1) := by decide +kernel
theorem dX9_setSign_50 : decode cX9_setSign 50 = .ok (.iload_n 3, 1) := by decide +kernel
theorem dX9_setSign_51 : decode cX9_setSign 51 = .ok (.invokevirtual 36, 3) := by decide +kernel
theorem dX9_setSign_54 : decode cX9_setSign 54 = .ok (.ifCond .eq 7, 3) := by decide +kernel
theorem dX9_setSign_57 : decode cX9_setSign 57 = .ok (.iload_n 3, 1) := by decide +kernel
theorem dX9_setSign_58 : decode cX9_setSign 58 = .ok (.goto 7, 3) := by decide +kernel
theorem dX9_setSign_61 : decode cX9_setSign 61 = .ok (.aload_n 0, 1) := by decide +kernel
theorem dX9_setSign_62 : decode cX9_setSign 62 = .ok (.getfield 33, 3) := by decide +kernel
theorem dX9_setSign_65 : decode cX9_setSign 65 = .ok (.putfield 33, 3) := by decide +kernel
theorem dX9_setSign_68 : decode cX9_setSign 68 = .ok (.iinc 3 (-1), 3) := by decide +kernel
theorem dX9_setSign_71 : decode cX9_setSign 71 = .ok (.goto (-56), 3) := by decide +kernel
theorem dX9_setSign_74 : decode cX9_setSign 74 = .ok (.return_, 1) := by decide +kernel
theorem dX9_isPerfect_0 : decode cX9_isPerfect 0 = .ok (.iload_n 1, 1) := by decide +kernel
theorem dX9_isPerfect_1 : decode cX9_isPerfect 1 = .ok (.ifCond .lt 24, 3) := by decide +kernel
theorem dX9_isPerfect_4 : decode cX9_isPerfect 4 = .ok (.iload_n 1, 1) := by decide +kernel
theorem dX9_isPerfect_5 : decode cX9_isPerfect 5 = .ok (.iconst 4, 1) := by decide +kernel
theorem dX9_isPerfect_6 : decode cX9_isPerfect 6 = .ok (.if_icmp .ge 19, 3) := by decide +kernel
theorem dX9_isPerfect_9 : decode cX9_isPerfect 9 = .ok (.aload_n 0, 1) := by decide +kernel
theorem dX9_isPerfect_10 : decode cX9_isPerfect 10 = .ok (.getfield 29, 3) := by decide +kernel
theorem dX9_isPerfect_13 : decode cX9_isPerfect 13 = .ok (.iload_n 1, 1) := by decide +kernel
theorem dX9_isPerfect_14 : decode cX9_isPerfect 14 = .ok (.ishr, 1) := by decide +kernel
theorem dX9_isPerfect_15 : decode cX9_isPerfect 15 = .ok (.iconst 1, 1) := by decide +kernel
theorem dX9_isPerfect_16 : decode cX9_isPerfect 16 = .ok (.iand, 1) := by decide +kernel
theorem dX9_isPerfect_17 : decode cX9_isPerfect 17 = .ok (.iconst 1, 1) := by decide +kernel
theorem dX9_isPerfect_18 : decode cX9_isPerfect 18 = .ok (.if_icmp .ne 7, 3) := by decide +kernel
theorem dX9_isPerfect_21 : decode cX9_isPerfect 21 = .ok (.iconst 1, 1) := by decide +kernel
theorem dX9_isPerfect_22 : decode cX9_isPerfect 22 = .ok (.goto 4, 3) := by decide +kernel
theorem dX9_isPerfect_25 : decode cX9_isPerfect 25 = .ok (.iconst 0, 1) := by decide +kernel
theorem dX9_isPerfect_26 : decode cX9_isPerfect 26 = .ok (.ireturn, 1) := by decide +kernel
theorem dX9_fullOf_0 : decode cX9_fullOf 0 = .ok (.iload_n 1, 1) := by decide +kernel
theorem dX9_fullOf_1 : decode cX9_fullOf 1 = .ok (.invokestatic 40, 3) := by decide +kernel
theorem dX9_fullOf_4 : decode cX9_fullOf 4 = .ok (.ifCond .eq 12, 3) := by decide +kernel
theorem dX9_fullOf_7 : decode cX9_fullOf 7 = .ok (.aload_n 0, 1) := by decide +kernel
theorem dX9_fullOf_8 : decode cX9_fullOf 8 = .ok (.getfield 9, 3) := by decide +kernel
theorem dX9_fullOf_11 : decode cX9_fullOf 11 = .ok (.iload_n 1, 1) := by decide +kernel
theorem dX9_fullOf_12 : decode cX9_fullOf 12 = .ok (.iaload, 1) := by decide +kernel
theorem dX9_fullOf_13 : decode cX9_fullOf 13 = .ok (.goto 4, 3) := by decide +kernel
theorem dX9_fullOf_16 : decode cX9_fullOf 16 = .ok (.iconst 0, 1) := by decide +kernel
theorem dX9_fullOf_17 : decode cX9_fullOf 17 = .ok (.ireturn, 1) := by decide +kernel
theorem dX9_append_0 : decode cX9_append 0 = .ok (.aload_n 0, 1) := by decide +kernel
theorem dX9_append_1 : decode cX9_append 1 = .ok (.getfield 21, 3) := by decide +kernel
theorem dX9_append_4 : decode cX9_append 4 = .ok (.iconst 1, 1) := by decide +kernel
theorem dX9_append_5 : decode cX9_append 5 = .ok (.invokevirtual 43, 3) := by decide +kernel
theorem dX9_append_8 : decode cX9_append 8 = .ok (.ifCond .ne 6, 3) := by decide +kernel
theorem dX9_append_11 : decode cX9_append 11 = .ok (.bipush (-3), 2) := by decide +kernel
theorem dX9_append_13 : decode cX9_append 13 = .ok (.ireturn, 1) := by decide +kernel
theorem dX9_append_14 : decode cX9_append 14 = .ok (.aload_n 0, 1) := by decide +kernel
theorem dX9_append_15 : decode cX9_append 15 = .ok (.getfield 21, 3) := by decide +kernel
theorem dX9_append_18 : decode cX9_append 18 = .ok (.iload_n 1, 1) := by decide +kernel
theorem dX9_append_19 : decode cX9_append 19 = .ok (.iload_n 2, 1) := by decide +kernel
theorem dX9_append_20 : decode cX9_append 20 = .ok (.iload_n 3, 1) := by decide +kernel
theorem dX9_append_21 : decode cX9_append 21 = .ok (.iload 4, 2) := by decide +kernel
theorem dX9_append_23 : decode cX9_append 23 = .ok (.invokevirtual 46, 3) := by decide +kernel
theorem dX9_append_26 : decode cX9_append 26 = .ok (.aload_n 0, 1) := by decide +kernel
theorem dX9_append_27 : decode cX9_append 27 = .ok (.invokevirtual 50, 3) := by decide +kernel
theorem dX9_append_30 : decode cX9_append 30 = .ok (.aload_n 0, 1) := by decide +kernel
theorem dX9_append_31 : decode cX9_append 31 = .ok (.getfield 21, 3) := by decide +kernel
theorem dX9_append_34 : decode cX9_append 34 = .ok (.getfield 53, 3) := by decide +kernel
theorem dX9_append_37 : decode cX9_append 37 = .ok (.iconst 1, 1) := by decide +kernel
theorem dX9_append_38 : decode cX9_append 38 = .ok (.isub, 1) := by decide +kernel
theorem dX9_append_39 : decode cX9_append 39 = .ok (.ireturn, 1) := by decide +kernel
theorem dX9_removeLast_0 : decode cX9_removeLast 0 = .ok (.aload_n 0, 1) := by decide +kernel
theorem dX9_removeLast_1 : decode cX9_removeLast 1 = .ok (.getfield 21, 3) := by decide +kernel
theorem dX9_removeLast_4 : decode cX9_removeLast 4 = .ok (.getfield 53, 3) := by decide +kernel
theorem dX9_removeLast_7 : decode cX9_removeLast 7 = .ok (.ifCond .le 20, 3) := by decide +kernel
theorem dX9_removeLast_10 : decode cX9_removeLast 10 = .ok (.aload_n 0, 1) := by decide +kernel
theorem dX9_removeLast_11 : decode cX9_removeLast 11 = .ok (.getfield 21, 3) := by decide +kernel
theorem dX9_removeLast_14 : decode cX9_removeLast 14 = .ok (.dup, 1) := by decide +kernel
theorem dX9_removeLast_15 : decode cX9_removeLast 15 = .ok (.getfield 53, 3) := by decide +kernel
theorem dX9_removeLast_18 : decode cX9_removeLast 18 = .ok (.iconst 1, 1) := by decide +kernel
theorem dX9_removeLast_19 : decode cX9_removeLast 19 = .ok (.isub, 1) := by decide +kernel
theorem dX9_removeLast_20 : decode cX9_removeLast 20 = .ok (.putfield 53, 3) := by decide +kernel
theorem dX9_removeLast_23 : decode cX9_removeLast 23 = .ok (.aload_n 0, 1) := by decide +kernel
theorem dX9_removeLast_24 : decode cX9_removeLast 24 = .ok (.invokevirtual 50, 3) := by decide +kernel
theorem dX9_removeLast_27 : decode cX9_removeLast 27 = .ok (.return_, 1) := by decide +kernel
theorem dX9_change_0 : decode cX9_change 0 = .ok (.aload_n 0, 1) := by decide +kernel
theorem dX9_change_1 : decode cX9_change 1 = .ok (.iconst 1, 1) := by decide +kernel
theorem dX9_change_2 : decode cX9_change 2 = .ok (.putfield 25, 3) := by decide +kernel
theorem dX9_change_5 : decode cX9_change 5 = .ok (.aload_n 0, 1) := by decide +kernel
theorem dX9_change_6 : decode cX9_change 6 = .ok (.iconst 0, 1) := by decide +kernel
theorem dX9_change_7 : decode cX9_change 7 = .ok (.putfield 56, 3) := by decide +kernel
theorem dX9_change_10 : decode cX9_change 10 = .ok (.return_, 1) := by decide +kernel
theorem dX9_know_0 : decode cX9_know 0 = .ok (.aload_n 0, 1) := by decide +kernel
theorem dX9_know_1 : decode cX9_know 1 = .ok (.iload_n 1, 1) := by decide +kernel
theorem dX9_know_2 : decode cX9_know 2 = .ok (.putfield 59, 3) := by decide +kernel
theorem dX9_know_5 : decode cX9_know 5 = .ok (.aload_n 0, 1) := by decide +kernel
theorem dX9_know_6 : decode cX9_know 6 = .ok (.iload_n 2, 1) := by decide +kernel
theorem dX9_know_7 : decode cX9_know 7 = .ok (.putfield 62, 3) := by decide +kernel
theorem dX9_know_10 : decode cX9_know 10 = .ok (.aload_n 0, 1) := by decide +kernel
theorem dX9_know_11 : decode cX9_know 11 = .ok (.iconst 0, 1) := by decide +kernel
theorem dX9_know_12 : decode cX9_know 12 = .ok (.putfield 25, 3) := by decide +kernel
theorem dX9_know_15 : decode cX9_know 15 = .ok (.return_, 1) := by decide +kernel
theorem dX9_isMany_0 : decode cX9_isMany 0 = .ok (.aload_n 0, 1) := by decide +kernel
theorem dX9_isMany_1 : decode cX9_isMany 1 = .ok (.getfield 59, 3) := by decide +kernel
theorem dX9_isMany_4 : decode cX9_isMany 4 = .ok (.sipush 1000, 3) := by decide +kernel
theorem dX9_isMany_7 : decode cX9_isMany 7 = .ok (.if_icmp .le 7, 3) := by decide +kernel
theorem dX9_isMany_10 : decode cX9_isMany 10 = .ok (.iconst 1, 1) := by decide +kernel
theorem dX9_isMany_11 : decode cX9_isMany 11 = .ok (.goto 4, 3) := by decide +kernel
theorem dX9_isMany_14 : decode cX9_isMany 14 = .ok (.iconst 0, 1) := by decide +kernel
theorem dX9_isMany_15 : decode cX9_isMany 15 = .ok (.ireturn, 1) := by decide +kernel
theorem dX9_holdPicked_0 : decode cX9_holdPicked 0 = .ok (.aload_n 0, 1) := by decide +kernel
theorem dX9_holdPicked_1 : decode cX9_holdPicked 1 = .ok (.iload_n 1, 1) := by decide +kernel
theorem dX9_holdPicked_2 : decode cX9_holdPicked 2 = .ok (.putfield 56, 3) := by decide +kernel
theorem dX9_holdPicked_5 : decode cX9_holdPicked 5 = .ok (.iconst 0, 1) := by decide +kernel
theorem dX9_holdPicked_6 : decode cX9_holdPicked 6 = .ok (.istore_n 3, 1) := by decide +kernel
theorem dX9_holdPicked_7 : decode cX9_holdPicked 7 = .ok (.iload_n 3, 1) := by decide +kernel
theorem dX9_holdPicked_8 : decode cX9_holdPicked 8 = .ok (.bipush 24, 2) := by decide +kernel
theorem dX9_holdPicked_10 : decode cX9_holdPicked 10 = .ok (.if_icmp .ge 20, 3) := by decide +kernel
theorem dX9_holdPicked_13 : decode cX9_holdPicked 13 = .ok (.aload_n 0, 1) := by decide +kernel
theorem dX9_holdPicked_14 : decode cX9_holdPicked 14 = .ok (.getfield 15, 3) := by decide +kernel
theorem dX9_holdPicked_17 : decode cX9_holdPicked 17 = .ok (.iload_n 3, 1) := by decide +kernel
theorem dX9_holdPicked_18 : decode cX9_holdPicked 18 = .ok (.aload_n 2, 1) := by decide +kernel
theorem dX9_holdPicked_19 : decode cX9_holdPicked 19 = .ok (.iload_n 3, 1) := by decide +kernel
theorem dX9_holdPicked_20 : decode cX9_holdPicked 20 = .ok (.invokevirtual 65, 3) := by decide +kernel
theorem dX9_holdPicked_23 : decode cX9_holdPicked 23 = .ok (.iastore, 1) := by decide +kernel
theorem dX9_holdPicked_24 : decode cX9_holdPicked 24 = .ok (.iinc 3 1, 3) := by decide +kernel
theorem dX9_holdPicked_27 : decode cX9_holdPicked 27 = .ok (.goto (-20), 3) := by decide +kernel
theorem dX9_holdPicked_30 : decode cX9_holdPicked 30 = .ok (.return_, 1) := by decide +kernel
theorem dX9_ticksAt_0 : decode cX9_ticksAt 0 = .ok (.iload_n 1, 1) := by decide +kernel
theorem dX9_ticksAt_1 : decode cX9_ticksAt 1 = .ok (.ifCond .lt 9, 3) := by decide +kernel
theorem dX9_ticksAt_4 : decode cX9_ticksAt 4 = .ok (.iload_n 1, 1) := by decide +kernel
theorem dX9_ticksAt_5 : decode cX9_ticksAt 5 = .ok (.bipush 24, 2) := by decide +kernel
theorem dX9_ticksAt_7 : decode cX9_ticksAt 7 = .ok (.if_icmp .lt 7, 3) := by decide +kernel
theorem dX9_ticksAt_10 : decode cX9_ticksAt 10 = .ok (.iconst 0, 1) := by decide +kernel
theorem dX9_ticksAt_11 : decode cX9_ticksAt 11 = .ok (.goto 9, 3) := by decide +kernel
theorem dX9_ticksAt_14 : decode cX9_ticksAt 14 = .ok (.aload_n 0, 1) := by decide +kernel
theorem dX9_ticksAt_15 : decode cX9_ticksAt 15 = .ok (.getfield 15, 3) := by decide +kernel
theorem dX9_ticksAt_18 : decode cX9_ticksAt 18 = .ok (.iload_n 1, 1) := by decide +kernel
theorem dX9_ticksAt_19 : decode cX9_ticksAt 19 = .ok (.iaload, 1) := by decide +kernel
theorem dX9_ticksAt_20 : decode cX9_ticksAt 20 = .ok (.ireturn, 1) := by decide +kernel

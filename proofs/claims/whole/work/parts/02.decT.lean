/-! decode rows of ConicKinds$Table (wip/gen_names.py) -/
theorem d_T_init_0 : decode b_T_init 0 = .ok (.aload_n 0, 1) := by decide +kernel
theorem d_T_init_1 : decode b_T_init 1 = .ok (.invokespecial 3, 3) := by decide +kernel
theorem d_T_init_4 : decode b_T_init 4 = .ok (.aload_n 0, 1) := by decide +kernel
theorem d_T_init_5 : decode b_T_init 5 = .ok (.iconst 0, 1) := by decide +kernel
theorem d_T_init_6 : decode b_T_init 6 = .ok (.putfield 9, 3) := by decide +kernel
theorem d_T_init_9 : decode b_T_init 9 = .ok (.aload_n 0, 1) := by decide +kernel
theorem d_T_init_10 : decode b_T_init 10 = .ok (.bipush 16, 2) := by decide +kernel
theorem d_T_init_12 : decode b_T_init 12 = .ok (.newarray .long, 2) := by decide +kernel
theorem d_T_init_14 : decode b_T_init 14 = .ok (.putfield 15, 3) := by decide +kernel
theorem d_T_init_17 : decode b_T_init 17 = .ok (.aload_n 0, 1) := by decide +kernel
theorem d_T_init_18 : decode b_T_init 18 = .ok (.bipush 16, 2) := by decide +kernel
theorem d_T_init_20 : decode b_T_init 20 = .ok (.newarray .long, 2) := by decide +kernel
theorem d_T_init_22 : decode b_T_init 22 = .ok (.putfield 19, 3) := by decide +kernel
theorem d_T_init_25 : decode b_T_init 25 = .ok (.aload_n 0, 1) := by decide +kernel
theorem d_T_init_26 : decode b_T_init 26 = .ok (.bipush 16, 2) := by decide +kernel
theorem d_T_init_28 : decode b_T_init 28 = .ok (.newarray .long, 2) := by decide +kernel
theorem d_T_init_30 : decode b_T_init 30 = .ok (.putfield 22, 3) := by decide +kernel
theorem d_T_init_33 : decode b_T_init 33 = .ok (.aload_n 0, 1) := by decide +kernel
theorem d_T_init_34 : decode b_T_init 34 = .ok (.iconst 5, 1) := by decide +kernel
theorem d_T_init_35 : decode b_T_init 35 = .ok (.newarray .long, 2) := by decide +kernel
theorem d_T_init_37 : decode b_T_init 37 = .ok (.putfield 25, 3) := by decide +kernel
theorem d_T_init_40 : decode b_T_init 40 = .ok (.return_, 1) := by decide +kernel
theorem d_T_load_0 : decode b_T_load 0 = .ok (.aload_n 0, 1) := by decide +kernel
theorem d_T_load_1 : decode b_T_load 1 = .ok (.iload_n 3, 1) := by decide +kernel
theorem d_T_load_2 : decode b_T_load 2 = .ok (.iload_n 2, 1) := by decide +kernel
theorem d_T_load_3 : decode b_T_load 3 = .ok (.isub, 1) := by decide +kernel
theorem d_T_load_4 : decode b_T_load 4 = .ok (.iconst 1, 1) := by decide +kernel
theorem d_T_load_5 : decode b_T_load 5 = .ok (.iadd, 1) := by decide +kernel
theorem d_T_load_6 : decode b_T_load 6 = .ok (.putfield 9, 3) := by decide +kernel
theorem d_T_load_9 : decode b_T_load 9 = .ok (.iconst 0, 1) := by decide +kernel
theorem d_T_load_10 : decode b_T_load 10 = .ok (.istore 4, 2) := by decide +kernel
theorem d_T_load_12 : decode b_T_load 12 = .ok (.iload 4, 2) := by decide +kernel
theorem d_T_load_14 : decode b_T_load 14 = .ok (.aload_n 0, 1) := by decide +kernel
theorem d_T_load_15 : decode b_T_load 15 = .ok (.getfield 9, 3) := by decide +kernel
theorem d_T_load_18 : decode b_T_load 18 = .ok (.if_icmp .ge 52, 3) := by decide +kernel
theorem d_T_load_21 : decode b_T_load 21 = .ok (.iconst 0, 1) := by decide +kernel
theorem d_T_load_22 : decode b_T_load 22 = .ok (.istore 5, 2) := by decide +kernel
theorem d_T_load_24 : decode b_T_load 24 = .ok (.iload 5, 2) := by decide +kernel
theorem d_T_load_26 : decode b_T_load 26 = .ok (.aload_n 0, 1) := by decide +kernel
theorem d_T_load_27 : decode b_T_load 27 = .ok (.getfield 9, 3) := by decide +kernel
theorem d_T_load_30 : decode b_T_load 30 = .ok (.if_icmp .ge 34, 3) := by decide +kernel
theorem d_T_load_33 : decode b_T_load 33 = .ok (.aload_n 0, 1) := by decide +kernel
theorem d_T_load_34 : decode b_T_load 34 = .ok (.getfield 15, 3) := by decide +kernel
theorem d_T_load_37 : decode b_T_load 37 = .ok (.iload 4, 2) := by decide +kernel
theorem d_T_load_39 : decode b_T_load 39 = .ok (.iload 5, 2) := by decide +kernel
theorem d_T_load_41 : decode b_T_load 41 = .ok (.invokestatic 28, 3) := by decide +kernel
theorem d_T_load_44 : decode b_T_load 44 = .ok (.aload_n 1, 1) := by decide +kernel
theorem d_T_load_45 : decode b_T_load 45 = .ok (.iload_n 2, 1) := by decide +kernel
theorem d_T_load_46 : decode b_T_load 46 = .ok (.iload 4, 2) := by decide +kernel
theorem d_T_load_48 : decode b_T_load 48 = .ok (.iadd, 1) := by decide +kernel
theorem d_T_load_49 : decode b_T_load 49 = .ok (.iload_n 2, 1) := by decide +kernel
theorem d_T_load_50 : decode b_T_load 50 = .ok (.iload 5, 2) := by decide +kernel
theorem d_T_load_52 : decode b_T_load 52 = .ok (.iadd, 1) := by decide +kernel
theorem d_T_load_53 : decode b_T_load 53 = .ok (.invokestatic 28, 3) := by decide +kernel
theorem d_T_load_56 : decode b_T_load 56 = .ok (.laload, 1) := by decide +kernel
theorem d_T_load_57 : decode b_T_load 57 = .ok (.lastore, 1) := by decide +kernel
theorem d_T_load_58 : decode b_T_load 58 = .ok (.iinc 5 1, 3) := by decide +kernel
theorem d_T_load_61 : decode b_T_load 61 = .ok (.goto (-37), 3) := by decide +kernel
theorem d_T_load_64 : decode b_T_load 64 = .ok (.iinc 4 1, 3) := by decide +kernel
theorem d_T_load_67 : decode b_T_load 67 = .ok (.goto (-55), 3) := by decide +kernel
theorem d_T_load_70 : decode b_T_load 70 = .ok (.aload_n 0, 1) := by decide +kernel
theorem d_T_load_71 : decode b_T_load 71 = .ok (.invokevirtual 32, 3) := by decide +kernel
theorem d_T_load_74 : decode b_T_load 74 = .ok (.return_, 1) := by decide +kernel
theorem d_T_expand_0 : decode b_T_expand 0 = .ok (.aload_n 0, 1) := by decide +kernel
theorem d_T_expand_1 : decode b_T_expand 1 = .ok (.getfield 22, 3) := by decide +kernel
theorem d_T_expand_4 : decode b_T_expand 4 = .ok (.lconst 0, 1) := by decide +kernel
theorem d_T_expand_5 : decode b_T_expand 5 = .ok (.invokestatic 35, 3) := by decide +kernel
theorem d_T_expand_8 : decode b_T_expand 8 = .ok (.aload_n 0, 1) := by decide +kernel
theorem d_T_expand_9 : decode b_T_expand 9 = .ok (.getfield 25, 3) := by decide +kernel
theorem d_T_expand_12 : decode b_T_expand 12 = .ok (.aload_n 0, 1) := by decide +kernel
theorem d_T_expand_13 : decode b_T_expand 13 = .ok (.getfield 9, 3) := by decide +kernel
theorem d_T_expand_16 : decode b_T_expand 16 = .ok (.lconst 1, 1) := by decide +kernel
theorem d_T_expand_17 : decode b_T_expand 17 = .ok (.lastore, 1) := by decide +kernel
theorem d_T_expand_18 : decode b_T_expand 18 = .ok (.iconst 1, 1) := by decide +kernel
theorem d_T_expand_19 : decode b_T_expand 19 = .ok (.istore_n 1, 1) := by decide +kernel
theorem d_T_expand_20 : decode b_T_expand 20 = .ok (.iload_n 1, 1) := by decide +kernel
theorem d_T_expand_21 : decode b_T_expand 21 = .ok (.aload_n 0, 1) := by decide +kernel
theorem d_T_expand_22 : decode b_T_expand 22 = .ok (.getfield 9, 3) := by decide +kernel
theorem d_T_expand_25 : decode b_T_expand 25 = .ok (.if_icmp .gt 89, 3) := by decide +kernel
theorem d_T_expand_28 : decode b_T_expand 28 = .ok (.aload_n 0, 1) := by decide +kernel
theorem d_T_expand_29 : decode b_T_expand 29 = .ok (.getfield 22, 3) := by decide +kernel
theorem d_T_expand_32 : decode b_T_expand 32 = .ok (.iconst 0, 1) := by decide +kernel
theorem d_T_expand_33 : decode b_T_expand 33 = .ok (.aload_n 0, 1) := by decide +kernel
theorem d_T_expand_34 : decode b_T_expand 34 = .ok (.getfield 19, 3) := by decide +kernel
theorem d_T_expand_37 : decode b_T_expand 37 = .ok (.iconst 0, 1) := by decide +kernel
theorem d_T_expand_38 : decode b_T_expand 38 = .ok (.bipush 16, 2) := by decide +kernel
theorem d_T_expand_40 : decode b_T_expand 40 = .ok (.invokestatic 41, 3) := by decide +kernel
theorem d_T_expand_43 : decode b_T_expand 43 = .ok (.iconst 0, 1) := by decide +kernel
theorem d_T_expand_44 : decode b_T_expand 44 = .ok (.istore_n 2, 1) := by decide +kernel
theorem d_T_expand_45 : decode b_T_expand 45 = .ok (.iload_n 2, 1) := by decide +kernel
theorem d_T_expand_46 : decode b_T_expand 46 = .ok (.aload_n 0, 1) := by decide +kernel
theorem d_T_expand_47 : decode b_T_expand 47 = .ok (.getfield 9, 3) := by decide +kernel
theorem d_T_expand_50 : decode b_T_expand 50 = .ok (.if_icmp .ge 35, 3) := by decide +kernel
theorem d_T_expand_53 : decode b_T_expand 53 = .ok (.aload_n 0, 1) := by decide +kernel
theorem d_T_expand_54 : decode b_T_expand 54 = .ok (.getfield 19, 3) := by decide +kernel
theorem d_T_expand_57 : decode b_T_expand 57 = .ok (.iload_n 2, 1) := by decide +kernel
theorem d_T_expand_58 : decode b_T_expand 58 = .ok (.iload_n 2, 1) := by decide +kernel
theorem d_T_expand_59 : decode b_T_expand 59 = .ok (.invokestatic 28, 3) := by decide +kernel
theorem d_T_expand_62 : decode b_T_expand 62 = .ok (.dup2, 1) := by decide +kernel
theorem d_T_expand_63 : decode b_T_expand 63 = .ok (.laload, 1) := by decide +kernel
theorem d_T_expand_64 : decode b_T_expand 64 = .ok (.aload_n 0, 1) := by decide +kernel
theorem d_T_expand_65 : decode b_T_expand 65 = .ok (.getfield 25, 3) := by decide +kernel
theorem d_T_expand_68 : decode b_T_expand 68 = .ok (.aload_n 0, 1) := by decide +kernel
theorem d_T_expand_69 : decode b_T_expand 69 = .ok (.getfield 9, 3) := by decide +kernel
theorem d_T_expand_72 : decode b_T_expand 72 = .ok (.iload_n 1, 1) := by decide +kernel
theorem d_T_expand_73 : decode b_T_expand 73 = .ok (.isub, 1) := by decide +kernel
theorem d_T_expand_74 : decode b_T_expand 74 = .ok (.iconst 1, 1) := by decide +kernel
theorem d_T_expand_75 : decode b_T_expand 75 = .ok (.iadd, 1) := by decide +kernel
theorem d_T_expand_76 : decode b_T_expand 76 = .ok (.laload, 1) := by decide +kernel
theorem d_T_expand_77 : decode b_T_expand 77 = .ok (.ladd, 1) := by decide +kernel
theorem d_T_expand_78 : decode b_T_expand 78 = .ok (.lastore, 1) := by decide +kernel
theorem d_T_expand_79 : decode b_T_expand 79 = .ok (.iinc 2 1, 3) := by decide +kernel
theorem d_T_expand_82 : decode b_T_expand 82 = .ok (.goto (-37), 3) := by decide +kernel
theorem d_T_expand_85 : decode b_T_expand 85 = .ok (.aload_n 0, 1) := by decide +kernel
theorem d_T_expand_86 : decode b_T_expand 86 = .ok (.invokevirtual 47, 3) := by decide +kernel
theorem d_T_expand_89 : decode b_T_expand 89 = .ok (.aload_n 0, 1) := by decide +kernel
theorem d_T_expand_90 : decode b_T_expand 90 = .ok (.getfield 25, 3) := by decide +kernel
theorem d_T_expand_93 : decode b_T_expand 93 = .ok (.aload_n 0, 1) := by decide +kernel
theorem d_T_expand_94 : decode b_T_expand 94 = .ok (.getfield 9, 3) := by decide +kernel
theorem d_T_expand_97 : decode b_T_expand 97 = .ok (.iload_n 1, 1) := by decide +kernel
theorem d_T_expand_98 : decode b_T_expand 98 = .ok (.isub, 1) := by decide +kernel
theorem d_T_expand_99 : decode b_T_expand 99 = .ok (.aload_n 0, 1) := by decide +kernel
theorem d_T_expand_100 : decode b_T_expand 100 = .ok (.invokevirtual 50, 3) := by decide +kernel
theorem d_T_expand_103 : decode b_T_expand 103 = .ok (.lneg, 1) := by decide +kernel
theorem d_T_expand_104 : decode b_T_expand 104 = .ok (.iload_n 1, 1) := by decide +kernel
theorem d_T_expand_105 : decode b_T_expand 105 = .ok (.i2l, 1) := by decide +kernel
theorem d_T_expand_106 : decode b_T_expand 106 = .ok (.ldiv, 1) := by decide +kernel
theorem d_T_expand_107 : decode b_T_expand 107 = .ok (.lastore, 1) := by decide +kernel
theorem d_T_expand_108 : decode b_T_expand 108 = .ok (.iinc 1 1, 3) := by decide +kernel
theorem d_T_expand_111 : decode b_T_expand 111 = .ok (.goto (-91), 3) := by decide +kernel
theorem d_T_expand_114 : decode b_T_expand 114 = .ok (.return_, 1) := by decide +kernel
theorem d_T_multiply_0 : decode b_T_multiply 0 = .ok (.iconst 0, 1) := by decide +kernel
theorem d_T_multiply_1 : decode b_T_multiply 1 = .ok (.istore_n 1, 1) := by decide +kernel
theorem d_T_multiply_2 : decode b_T_multiply 2 = .ok (.iload_n 1, 1) := by decide +kernel
theorem d_T_multiply_3 : decode b_T_multiply 3 = .ok (.aload_n 0, 1) := by decide +kernel
theorem d_T_multiply_4 : decode b_T_multiply 4 = .ok (.getfield 9, 3) := by decide +kernel
theorem d_T_multiply_7 : decode b_T_multiply 7 = .ok (.if_icmp .ge 82, 3) := by decide +kernel
theorem d_T_multiply_10 : decode b_T_multiply 10 = .ok (.iconst 0, 1) := by decide +kernel
theorem d_T_multiply_11 : decode b_T_multiply 11 = .ok (.istore_n 2, 1) := by decide +kernel
theorem d_T_multiply_12 : decode b_T_multiply 12 = .ok (.iload_n 2, 1) := by decide +kernel
theorem d_T_multiply_13 : decode b_T_multiply 13 = .ok (.aload_n 0, 1) := by decide +kernel
theorem d_T_multiply_14 : decode b_T_multiply 14 = .ok (.getfield 9, 3) := by decide +kernel
theorem d_T_multiply_17 : decode b_T_multiply 17 = .ok (.if_icmp .ge 66, 3) := by decide +kernel
theorem d_T_multiply_20 : decode b_T_multiply 20 = .ok (.lconst 0, 1) := by decide +kernel
theorem d_T_multiply_21 : decode b_T_multiply 21 = .ok (.lstore_n 3, 1) := by decide +kernel
theorem d_T_multiply_22 : decode b_T_multiply 22 = .ok (.iconst 0, 1) := by decide +kernel
theorem d_T_multiply_23 : decode b_T_multiply 23 = .ok (.istore 5, 2) := by decide +kernel
theorem d_T_multiply_25 : decode b_T_multiply 25 = .ok (.iload 5, 2) := by decide +kernel
theorem d_T_multiply_27 : decode b_T_multiply 27 = .ok (.aload_n 0, 1) := by decide +kernel
theorem d_T_multiply_28 : decode b_T_multiply 28 = .ok (.getfield 9, 3) := by decide +kernel
theorem d_T_multiply_31 : decode b_T_multiply 31 = .ok (.if_icmp .ge 35, 3) := by decide +kernel
theorem d_T_multiply_34 : decode b_T_multiply 34 = .ok (.lload_n 3, 1) := by decide +kernel
theorem d_T_multiply_35 : decode b_T_multiply 35 = .ok (.aload_n 0, 1) := by decide +kernel
theorem d_T_multiply_36 : decode b_T_multiply 36 = .ok (.getfield 15, 3) := by decide +kernel
theorem d_T_multiply_39 : decode b_T_multiply 39 = .ok (.iload_n 1, 1) := by decide +kernel
theorem d_T_multiply_40 : decode b_T_multiply 40 = .ok (.iload 5, 2) := by decide +kernel
theorem d_T_multiply_42 : decode b_T_multiply 42 = .ok (.invokestatic 28, 3) := by decide +kernel
theorem d_T_multiply_45 : decode b_T_multiply 45 = .ok (.laload, 1) := by decide +kernel
theorem d_T_multiply_46 : decode b_T_multiply 46 = .ok (.aload_n 0, 1) := by decide +kernel
theorem d_T_multiply_47 : decode b_T_multiply 47 = .ok (.getfield 19, 3) := by decide +kernel
theorem d_T_multiply_50 : decode b_T_multiply 50 = .ok (.iload 5, 2) := by decide +kernel
theorem d_T_multiply_52 : decode b_T_multiply 52 = .ok (.iload_n 2, 1) := by decide +kernel
theorem d_T_multiply_53 : decode b_T_multiply 53 = .ok (.invokestatic 28, 3) := by decide +kernel
theorem d_T_multiply_56 : decode b_T_multiply 56 = .ok (.laload, 1) := by decide +kernel
theorem d_T_multiply_57 : decode b_T_multiply 57 = .ok (.lmul, 1) := by decide +kernel
theorem d_T_multiply_58 : decode b_T_multiply 58 = .ok (.ladd, 1) := by decide +kernel
theorem d_T_multiply_59 : decode b_T_multiply 59 = .ok (.lstore_n 3, 1) := by decide +kernel
theorem d_T_multiply_60 : decode b_T_multiply 60 = .ok (.iinc 5 1, 3) := by decide +kernel
theorem d_T_multiply_63 : decode b_T_multiply 63 = .ok (.goto (-38), 3) := by decide +kernel
theorem d_T_multiply_66 : decode b_T_multiply 66 = .ok (.aload_n 0, 1) := by decide +kernel
theorem d_T_multiply_67 : decode b_T_multiply 67 = .ok (.getfield 22, 3) := by decide +kernel
theorem d_T_multiply_70 : decode b_T_multiply 70 = .ok (.iload_n 1, 1) := by decide +kernel
theorem d_T_multiply_71 : decode b_T_multiply 71 = .ok (.iload_n 2, 1) := by decide +kernel
theorem d_T_multiply_72 : decode b_T_multiply 72 = .ok (.invokestatic 28, 3) := by decide +kernel
theorem d_T_multiply_75 : decode b_T_multiply 75 = .ok (.lload_n 3, 1) := by decide +kernel
theorem d_T_multiply_76 : decode b_T_multiply 76 = .ok (.lastore, 1) := by decide +kernel
theorem d_T_multiply_77 : decode b_T_multiply 77 = .ok (.iinc 2 1, 3) := by decide +kernel
theorem d_T_multiply_80 : decode b_T_multiply 80 = .ok (.goto (-68), 3) := by decide +kernel
theorem d_T_multiply_83 : decode b_T_multiply 83 = .ok (.iinc 1 1, 3) := by decide +kernel
theorem d_T_multiply_86 : decode b_T_multiply 86 = .ok (.goto (-84), 3) := by decide +kernel
theorem d_T_multiply_89 : decode b_T_multiply 89 = .ok (.return_, 1) := by decide +kernel
theorem d_T_diagonal_0 : decode b_T_diagonal 0 = .ok (.lconst 0, 1) := by decide +kernel
theorem d_T_diagonal_1 : decode b_T_diagonal 1 = .ok (.lstore_n 1, 1) := by decide +kernel
theorem d_T_diagonal_2 : decode b_T_diagonal 2 = .ok (.iconst 0, 1) := by decide +kernel
theorem d_T_diagonal_3 : decode b_T_diagonal 3 = .ok (.istore_n 3, 1) := by decide +kernel
theorem d_T_diagonal_4 : decode b_T_diagonal 4 = .ok (.iload_n 3, 1) := by decide +kernel
theorem d_T_diagonal_5 : decode b_T_diagonal 5 = .ok (.aload_n 0, 1) := by decide +kernel
theorem d_T_diagonal_6 : decode b_T_diagonal 6 = .ok (.getfield 9, 3) := by decide +kernel
theorem d_T_diagonal_9 : decode b_T_diagonal 9 = .ok (.if_icmp .ge 22, 3) := by decide +kernel
theorem d_T_diagonal_12 : decode b_T_diagonal 12 = .ok (.lload_n 1, 1) := by decide +kernel
theorem d_T_diagonal_13 : decode b_T_diagonal 13 = .ok (.aload_n 0, 1) := by decide +kernel
theorem d_T_diagonal_14 : decode b_T_diagonal 14 = .ok (.getfield 22, 3) := by decide +kernel
theorem d_T_diagonal_17 : decode b_T_diagonal 17 = .ok (.iload_n 3, 1) := by decide +kernel
theorem d_T_diagonal_18 : decode b_T_diagonal 18 = .ok (.iload_n 3, 1) := by decide +kernel
theorem d_T_diagonal_19 : decode b_T_diagonal 19 = .ok (.invokestatic 28, 3) := by decide +kernel
theorem d_T_diagonal_22 : decode b_T_diagonal 22 = .ok (.laload, 1) := by decide +kernel
theorem d_T_diagonal_23 : decode b_T_diagonal 23 = .ok (.ladd, 1) := by decide +kernel
theorem d_T_diagonal_24 : decode b_T_diagonal 24 = .ok (.lstore_n 1, 1) := by decide +kernel
theorem d_T_diagonal_25 : decode b_T_diagonal 25 = .ok (.iinc 3 1, 3) := by decide +kernel
theorem d_T_diagonal_28 : decode b_T_diagonal 28 = .ok (.goto (-24), 3) := by decide +kernel
theorem d_T_diagonal_31 : decode b_T_diagonal 31 = .ok (.lload_n 1, 1) := by decide +kernel
theorem d_T_diagonal_32 : decode b_T_diagonal 32 = .ok (.lreturn, 1) := by decide +kernel
theorem d_T_countAbove_0 : decode b_T_countAbove 0 = .ok (.iconst 0, 1) := by decide +kernel
theorem d_T_countAbove_1 : decode b_T_countAbove 1 = .ok (.istore_n 1, 1) := by decide +kernel
theorem d_T_countAbove_2 : decode b_T_countAbove 2 = .ok (.lconst 1, 1) := by decide +kernel
theorem d_T_countAbove_3 : decode b_T_countAbove 3 = .ok (.lstore_n 2, 1) := by decide +kernel
theorem d_T_countAbove_4 : decode b_T_countAbove 4 = .ok (.aload_n 0, 1) := by decide +kernel
theorem d_T_countAbove_5 : decode b_T_countAbove 5 = .ok (.getfield 9, 3) := by decide +kernel
theorem d_T_countAbove_8 : decode b_T_countAbove 8 = .ok (.iconst 1, 1) := by decide +kernel
theorem d_T_countAbove_9 : decode b_T_countAbove 9 = .ok (.isub, 1) := by decide +kernel
theorem d_T_countAbove_10 : decode b_T_countAbove 10 = .ok (.istore 4, 2) := by decide +kernel
theorem d_T_countAbove_12 : decode b_T_countAbove 12 = .ok (.iload 4, 2) := by decide +kernel
theorem d_T_countAbove_14 : decode b_T_countAbove 14 = .ok (.ifCond .lt 62, 3) := by decide +kernel
theorem d_T_countAbove_17 : decode b_T_countAbove 17 = .ok (.aload_n 0, 1) := by decide +kernel
theorem d_T_countAbove_18 : decode b_T_countAbove 18 = .ok (.getfield 25, 3) := by decide +kernel
theorem d_T_countAbove_21 : decode b_T_countAbove 21 = .ok (.iload 4, 2) := by decide +kernel
theorem d_T_countAbove_23 : decode b_T_countAbove 23 = .ok (.laload, 1) := by decide +kernel
theorem d_T_countAbove_24 : decode b_T_countAbove 24 = .ok (.lstore 5, 2) := by decide +kernel
theorem d_T_countAbove_26 : decode b_T_countAbove 26 = .ok (.lload 5, 2) := by decide +kernel
theorem d_T_countAbove_28 : decode b_T_countAbove 28 = .ok (.lconst 0, 1) := by decide +kernel
theorem d_T_countAbove_29 : decode b_T_countAbove 29 = .ok (.lcmp, 1) := by decide +kernel
theorem d_T_countAbove_30 : decode b_T_countAbove 30 = .ok (.ifCond .eq 40, 3) := by decide +kernel
theorem d_T_countAbove_33 : decode b_T_countAbove 33 = .ok (.iload_n 1, 1) := by decide +kernel
theorem d_T_countAbove_34 : decode b_T_countAbove 34 = .ok (.lload 5, 2) := by decide +kernel
theorem d_T_countAbove_36 : decode b_T_countAbove 36 = .ok (.lconst 0, 1) := by decide +kernel
theorem d_T_countAbove_37 : decode b_T_countAbove 37 = .ok (.lcmp, 1) := by decide +kernel
theorem d_T_countAbove_38 : decode b_T_countAbove 38 = .ok (.ifCond .ge 7, 3) := by decide +kernel
theorem d_T_countAbove_41 : decode b_T_countAbove 41 = .ok (.iconst 1, 1) := by decide +kernel
theorem d_T_countAbove_42 : decode b_T_countAbove 42 = .ok (.goto 4, 3) := by decide +kernel
theorem d_T_countAbove_45 : decode b_T_countAbove 45 = .ok (.iconst 0, 1) := by decide +kernel
theorem d_T_countAbove_46 : decode b_T_countAbove 46 = .ok (.lload_n 2, 1) := by decide +kernel
theorem d_T_countAbove_47 : decode b_T_countAbove 47 = .ok (.lconst 0, 1) := by decide +kernel
theorem d_T_countAbove_48 : decode b_T_countAbove 48 = .ok (.lcmp, 1) := by decide +kernel
theorem d_T_countAbove_49 : decode b_T_countAbove 49 = .ok (.ifCond .ge 7, 3) := by decide +kernel
theorem d_T_countAbove_52 : decode b_T_countAbove 52 = .ok (.iconst 1, 1) := by decide +kernel
theorem d_T_countAbove_53 : decode b_T_countAbove 53 = .ok (.goto 4, 3) := by decide +kernel
theorem d_T_countAbove_56 : decode b_T_countAbove 56 = .ok (.iconst 0, 1) := by decide +kernel
theorem d_T_countAbove_57 : decode b_T_countAbove 57 = .ok (.if_icmp .eq 7, 3) := by decide +kernel
theorem d_T_countAbove_60 : decode b_T_countAbove 60 = .ok (.iconst 1, 1) := by decide +kernel
theorem d_T_countAbove_61 : decode b_T_countAbove 61 = .ok (.goto 4, 3) := by decide +kernel
theorem d_T_countAbove_64 : decode b_T_countAbove 64 = .ok (.iconst 0, 1) := by decide +kernel
theorem d_T_countAbove_65 : decode b_T_countAbove 65 = .ok (.iadd, 1) := by decide +kernel
theorem d_T_countAbove_66 : decode b_T_countAbove 66 = .ok (.istore_n 1, 1) := by decide +kernel
theorem d_T_countAbove_67 : decode b_T_countAbove 67 = .ok (.lload 5, 2) := by decide +kernel
theorem d_T_countAbove_69 : decode b_T_countAbove 69 = .ok (.lstore_n 2, 1) := by decide +kernel
theorem d_T_countAbove_70 : decode b_T_countAbove 70 = .ok (.iinc 4 (-1), 3) := by decide +kernel
theorem d_T_countAbove_73 : decode b_T_countAbove 73 = .ok (.goto (-61), 3) := by decide +kernel
theorem d_T_countAbove_76 : decode b_T_countAbove 76 = .ok (.iload_n 1, 1) := by decide +kernel
theorem d_T_countAbove_77 : decode b_T_countAbove 77 = .ok (.ireturn, 1) := by decide +kernel
theorem d_T_countBelow_0 : decode b_T_countBelow 0 = .ok (.aload_n 0, 1) := by decide +kernel
theorem d_T_countBelow_1 : decode b_T_countBelow 1 = .ok (.invokevirtual 54, 3) := by decide +kernel
theorem d_T_countBelow_4 : decode b_T_countBelow 4 = .ok (.aload_n 0, 1) := by decide +kernel
theorem d_T_countBelow_5 : decode b_T_countBelow 5 = .ok (.invokevirtual 58, 3) := by decide +kernel
theorem d_T_countBelow_8 : decode b_T_countBelow 8 = .ok (.isub, 1) := by decide +kernel
theorem d_T_countBelow_9 : decode b_T_countBelow 9 = .ok (.ireturn, 1) := by decide +kernel
theorem d_T_rank_0 : decode b_T_rank 0 = .ok (.iconst 0, 1) := by decide +kernel
theorem d_T_rank_1 : decode b_T_rank 1 = .ok (.istore_n 1, 1) := by decide +kernel
theorem d_T_rank_2 : decode b_T_rank 2 = .ok (.iload_n 1, 1) := by decide +kernel
theorem d_T_rank_3 : decode b_T_rank 3 = .ok (.aload_n 0, 1) := by decide +kernel
theorem d_T_rank_4 : decode b_T_rank 4 = .ok (.getfield 9, 3) := by decide +kernel
theorem d_T_rank_7 : decode b_T_rank 7 = .ok (.if_icmp .ge 20, 3) := by decide +kernel
theorem d_T_rank_10 : decode b_T_rank 10 = .ok (.aload_n 0, 1) := by decide +kernel
theorem d_T_rank_11 : decode b_T_rank 11 = .ok (.getfield 25, 3) := by decide +kernel
theorem d_T_rank_14 : decode b_T_rank 14 = .ok (.iload_n 1, 1) := by decide +kernel
theorem d_T_rank_15 : decode b_T_rank 15 = .ok (.laload, 1) := by decide +kernel
theorem d_T_rank_16 : decode b_T_rank 16 = .ok (.lconst 0, 1) := by decide +kernel
theorem d_T_rank_17 : decode b_T_rank 17 = .ok (.lcmp, 1) := by decide +kernel
theorem d_T_rank_18 : decode b_T_rank 18 = .ok (.ifCond .ne 9, 3) := by decide +kernel
theorem d_T_rank_21 : decode b_T_rank 21 = .ok (.iinc 1 1, 3) := by decide +kernel
theorem d_T_rank_24 : decode b_T_rank 24 = .ok (.goto (-22), 3) := by decide +kernel
theorem d_T_rank_27 : decode b_T_rank 27 = .ok (.aload_n 0, 1) := by decide +kernel
theorem d_T_rank_28 : decode b_T_rank 28 = .ok (.getfield 9, 3) := by decide +kernel
theorem d_T_rank_31 : decode b_T_rank 31 = .ok (.iload_n 1, 1) := by decide +kernel
theorem d_T_rank_32 : decode b_T_rank 32 = .ok (.isub, 1) := by decide +kernel
theorem d_T_rank_33 : decode b_T_rank 33 = .ok (.ireturn, 1) := by decide +kernel
theorem d_T_sumOfValues_0 : decode b_T_sumOfValues 0 = .ok (.aload_n 0, 1) := by decide +kernel
theorem d_T_sumOfValues_1 : decode b_T_sumOfValues 1 = .ok (.getfield 9, 3) := by decide +kernel
theorem d_T_sumOfValues_4 : decode b_T_sumOfValues 4 = .ok (.iconst 1, 1) := by decide +kernel
theorem d_T_sumOfValues_5 : decode b_T_sumOfValues 5 = .ok (.if_icmp .ge 7, 3) := by decide +kernel
theorem d_T_sumOfValues_8 : decode b_T_sumOfValues 8 = .ok (.lconst 0, 1) := by decide +kernel
theorem d_T_sumOfValues_9 : decode b_T_sumOfValues 9 = .ok (.goto 15, 3) := by decide +kernel
theorem d_T_sumOfValues_12 : decode b_T_sumOfValues 12 = .ok (.aload_n 0, 1) := by decide +kernel
theorem d_T_sumOfValues_13 : decode b_T_sumOfValues 13 = .ok (.getfield 25, 3) := by decide +kernel
theorem d_T_sumOfValues_16 : decode b_T_sumOfValues 16 = .ok (.aload_n 0, 1) := by decide +kernel
theorem d_T_sumOfValues_17 : decode b_T_sumOfValues 17 = .ok (.getfield 9, 3) := by decide +kernel
theorem d_T_sumOfValues_20 : decode b_T_sumOfValues 20 = .ok (.iconst 1, 1) := by decide +kernel
theorem d_T_sumOfValues_21 : decode b_T_sumOfValues 21 = .ok (.isub, 1) := by decide +kernel
theorem d_T_sumOfValues_22 : decode b_T_sumOfValues 22 = .ok (.laload, 1) := by decide +kernel
theorem d_T_sumOfValues_23 : decode b_T_sumOfValues 23 = .ok (.lneg, 1) := by decide +kernel
theorem d_T_sumOfValues_24 : decode b_T_sumOfValues 24 = .ok (.lreturn, 1) := by decide +kernel
theorem d_T_sumOfPairs_0 : decode b_T_sumOfPairs 0 = .ok (.aload_n 0, 1) := by decide +kernel
theorem d_T_sumOfPairs_1 : decode b_T_sumOfPairs 1 = .ok (.getfield 9, 3) := by decide +kernel
theorem d_T_sumOfPairs_4 : decode b_T_sumOfPairs 4 = .ok (.iconst 2, 1) := by decide +kernel
theorem d_T_sumOfPairs_5 : decode b_T_sumOfPairs 5 = .ok (.if_icmp .ge 7, 3) := by decide +kernel
theorem d_T_sumOfPairs_8 : decode b_T_sumOfPairs 8 = .ok (.lconst 0, 1) := by decide +kernel
theorem d_T_sumOfPairs_9 : decode b_T_sumOfPairs 9 = .ok (.goto 14, 3) := by decide +kernel
theorem d_T_sumOfPairs_12 : decode b_T_sumOfPairs 12 = .ok (.aload_n 0, 1) := by decide +kernel
theorem d_T_sumOfPairs_13 : decode b_T_sumOfPairs 13 = .ok (.getfield 25, 3) := by decide +kernel
theorem d_T_sumOfPairs_16 : decode b_T_sumOfPairs 16 = .ok (.aload_n 0, 1) := by decide +kernel
theorem d_T_sumOfPairs_17 : decode b_T_sumOfPairs 17 = .ok (.getfield 9, 3) := by decide +kernel
theorem d_T_sumOfPairs_20 : decode b_T_sumOfPairs 20 = .ok (.iconst 2, 1) := by decide +kernel
theorem d_T_sumOfPairs_21 : decode b_T_sumOfPairs 21 = .ok (.isub, 1) := by decide +kernel
theorem d_T_sumOfPairs_22 : decode b_T_sumOfPairs 22 = .ok (.laload, 1) := by decide +kernel
theorem d_T_sumOfPairs_23 : decode b_T_sumOfPairs 23 = .ok (.lreturn, 1) := by decide +kernel
theorem d_T_productOfValues_0 : decode b_T_productOfValues 0 = .ok (.aload_n 0, 1) := by decide +kernel
theorem d_T_productOfValues_1 : decode b_T_productOfValues 1 = .ok (.getfield 9, 3) := by decide +kernel
theorem d_T_productOfValues_4 : decode b_T_productOfValues 4 = .ok (.iconst 2, 1) := by decide +kernel
theorem d_T_productOfValues_5 : decode b_T_productOfValues 5 = .ok (.irem, 1) := by decide +kernel
theorem d_T_productOfValues_6 : decode b_T_productOfValues 6 = .ok (.ifCond .ne 12, 3) := by decide +kernel
theorem d_T_productOfValues_9 : decode b_T_productOfValues 9 = .ok (.aload_n 0, 1) := by decide +kernel
theorem d_T_productOfValues_10 : decode b_T_productOfValues 10 = .ok (.getfield 25, 3) := by decide +kernel
theorem d_T_productOfValues_13 : decode b_T_productOfValues 13 = .ok (.iconst 0, 1) := by decide +kernel
theorem d_T_productOfValues_14 : decode b_T_productOfValues 14 = .ok (.laload, 1) := by decide +kernel
theorem d_T_productOfValues_15 : decode b_T_productOfValues 15 = .ok (.goto 10, 3) := by decide +kernel
theorem d_T_productOfValues_18 : decode b_T_productOfValues 18 = .ok (.aload_n 0, 1) := by decide +kernel
theorem d_T_productOfValues_19 : decode b_T_productOfValues 19 = .ok (.getfield 25, 3) := by decide +kernel
theorem d_T_productOfValues_22 : decode b_T_productOfValues 22 = .ok (.iconst 0, 1) := by decide +kernel
theorem d_T_productOfValues_23 : decode b_T_productOfValues 23 = .ok (.laload, 1) := by decide +kernel
theorem d_T_productOfValues_24 : decode b_T_productOfValues 24 = .ok (.lneg, 1) := by decide +kernel
theorem d_T_productOfValues_25 : decode b_T_productOfValues 25 = .ok (.lreturn, 1) := by decide +kernel
theorem d_T_adjugate_0 : decode b_T_adjugate 0 = .ok (.aload_n 0, 1) := by decide +kernel
theorem d_T_adjugate_1 : decode b_T_adjugate 1 = .ok (.getfield 9, 3) := by decide +kernel
theorem d_T_adjugate_4 : decode b_T_adjugate 4 = .ok (.iconst 2, 1) := by decide +kernel
theorem d_T_adjugate_5 : decode b_T_adjugate 5 = .ok (.irem, 1) := by decide +kernel
theorem d_T_adjugate_6 : decode b_T_adjugate 6 = .ok (.ifCond .ne 17, 3) := by decide +kernel
theorem d_T_adjugate_9 : decode b_T_adjugate 9 = .ok (.aload_n 0, 1) := by decide +kernel
theorem d_T_adjugate_10 : decode b_T_adjugate 10 = .ok (.getfield 19, 3) := by decide +kernel
theorem d_T_adjugate_13 : decode b_T_adjugate 13 = .ok (.iload_n 1, 1) := by decide +kernel
theorem d_T_adjugate_14 : decode b_T_adjugate 14 = .ok (.iload_n 2, 1) := by decide +kernel
theorem d_T_adjugate_15 : decode b_T_adjugate 15 = .ok (.invokestatic 28, 3) := by decide +kernel
theorem d_T_adjugate_18 : decode b_T_adjugate 18 = .ok (.laload, 1) := by decide +kernel
theorem d_T_adjugate_19 : decode b_T_adjugate 19 = .ok (.lneg, 1) := by decide +kernel
theorem d_T_adjugate_20 : decode b_T_adjugate 20 = .ok (.goto 13, 3) := by decide +kernel
theorem d_T_adjugate_23 : decode b_T_adjugate 23 = .ok (.aload_n 0, 1) := by decide +kernel
theorem d_T_adjugate_24 : decode b_T_adjugate 24 = .ok (.getfield 19, 3) := by decide +kernel
theorem d_T_adjugate_27 : decode b_T_adjugate 27 = .ok (.iload_n 1, 1) := by decide +kernel
theorem d_T_adjugate_28 : decode b_T_adjugate 28 = .ok (.iload_n 2, 1) := by decide +kernel
theorem d_T_adjugate_29 : decode b_T_adjugate 29 = .ok (.invokestatic 28, 3) := by decide +kernel
theorem d_T_adjugate_32 : decode b_T_adjugate 32 = .ok (.laload, 1) := by decide +kernel
theorem d_T_adjugate_33 : decode b_T_adjugate 33 = .ok (.lreturn, 1) := by decide +kernel
theorem d_T_countUnlike_0 : decode b_T_countUnlike 0 = .ok (.aload_n 0, 1) := by decide +kernel
theorem d_T_countUnlike_1 : decode b_T_countUnlike 1 = .ok (.invokevirtual 61, 3) := by decide +kernel
theorem d_T_countUnlike_4 : decode b_T_countUnlike 4 = .ok (.lstore_n 1, 1) := by decide +kernel
theorem d_T_countUnlike_5 : decode b_T_countUnlike 5 = .ok (.aload_n 0, 1) := by decide +kernel
theorem d_T_countUnlike_6 : decode b_T_countUnlike 6 = .ok (.invokevirtual 64, 3) := by decide +kernel
theorem d_T_countUnlike_9 : decode b_T_countUnlike 9 = .ok (.lstore_n 3, 1) := by decide +kernel
theorem d_T_countUnlike_10 : decode b_T_countUnlike 10 = .ok (.aload_n 0, 1) := by decide +kernel
theorem d_T_countUnlike_11 : decode b_T_countUnlike 11 = .ok (.getfield 9, 3) := by decide +kernel
theorem d_T_countUnlike_14 : decode b_T_countUnlike 14 = .ok (.iconst 2, 1) := by decide +kernel
theorem d_T_countUnlike_15 : decode b_T_countUnlike 15 = .ok (.if_icmp .ne 21, 3) := by decide +kernel
theorem d_T_countUnlike_18 : decode b_T_countUnlike 18 = .ok (.lload_n 1, 1) := by decide +kernel
theorem d_T_countUnlike_19 : decode b_T_countUnlike 19 = .ok (.lload_n 1, 1) := by decide +kernel
theorem d_T_countUnlike_20 : decode b_T_countUnlike 20 = .ok (.lmul, 1) := by decide +kernel
theorem d_T_countUnlike_21 : decode b_T_countUnlike 21 = .ok (.ldc2_w 67, 3) := by decide +kernel
theorem d_T_countUnlike_24 : decode b_T_countUnlike 24 = .ok (.lload_n 3, 1) := by decide +kernel
theorem d_T_countUnlike_25 : decode b_T_countUnlike 25 = .ok (.lmul, 1) := by decide +kernel
theorem d_T_countUnlike_26 : decode b_T_countUnlike 26 = .ok (.lcmp, 1) := by decide +kernel
theorem d_T_countUnlike_27 : decode b_T_countUnlike 27 = .ok (.ifCond .ne 7, 3) := by decide +kernel
theorem d_T_countUnlike_30 : decode b_T_countUnlike 30 = .ok (.iconst 1, 1) := by decide +kernel
theorem d_T_countUnlike_31 : decode b_T_countUnlike 31 = .ok (.goto 4, 3) := by decide +kernel
theorem d_T_countUnlike_34 : decode b_T_countUnlike 34 = .ok (.iconst 2, 1) := by decide +kernel
theorem d_T_countUnlike_35 : decode b_T_countUnlike 35 = .ok (.ireturn, 1) := by decide +kernel
theorem d_T_countUnlike_36 : decode b_T_countUnlike 36 = .ok (.lload_n 1, 1) := by decide +kernel
theorem d_T_countUnlike_37 : decode b_T_countUnlike 37 = .ok (.lload_n 1, 1) := by decide +kernel
theorem d_T_countUnlike_38 : decode b_T_countUnlike 38 = .ok (.lmul, 1) := by decide +kernel
theorem d_T_countUnlike_39 : decode b_T_countUnlike 39 = .ok (.ldc2_w 69, 3) := by decide +kernel
theorem d_T_countUnlike_42 : decode b_T_countUnlike 42 = .ok (.lload_n 3, 1) := by decide +kernel
theorem d_T_countUnlike_43 : decode b_T_countUnlike 43 = .ok (.lmul, 1) := by decide +kernel
theorem d_T_countUnlike_44 : decode b_T_countUnlike 44 = .ok (.lcmp, 1) := by decide +kernel
theorem d_T_countUnlike_45 : decode b_T_countUnlike 45 = .ok (.ifCond .ne 5, 3) := by decide +kernel
theorem d_T_countUnlike_48 : decode b_T_countUnlike 48 = .ok (.iconst 1, 1) := by decide +kernel
theorem d_T_countUnlike_49 : decode b_T_countUnlike 49 = .ok (.ireturn, 1) := by decide +kernel
theorem d_T_countUnlike_50 : decode b_T_countUnlike 50 = .ok (.lload_n 1, 1) := by decide +kernel
theorem d_T_countUnlike_51 : decode b_T_countUnlike 51 = .ok (.lload_n 3, 1) := by decide +kernel
theorem d_T_countUnlike_52 : decode b_T_countUnlike 52 = .ok (.aload_n 0, 1) := by decide +kernel
theorem d_T_countUnlike_53 : decode b_T_countUnlike 53 = .ok (.invokevirtual 71, 3) := by decide +kernel
theorem d_T_countUnlike_56 : decode b_T_countUnlike 56 = .ok (.invokestatic 74, 3) := by decide +kernel
theorem d_T_countUnlike_59 : decode b_T_countUnlike 59 = .ok (.lconst 0, 1) := by decide +kernel
theorem d_T_countUnlike_60 : decode b_T_countUnlike 60 = .ok (.lcmp, 1) := by decide +kernel
theorem d_T_countUnlike_61 : decode b_T_countUnlike 61 = .ok (.ifCond .ne 7, 3) := by decide +kernel
theorem d_T_countUnlike_64 : decode b_T_countUnlike 64 = .ok (.iconst 2, 1) := by decide +kernel
theorem d_T_countUnlike_65 : decode b_T_countUnlike 65 = .ok (.goto 4, 3) := by decide +kernel
theorem d_T_countUnlike_68 : decode b_T_countUnlike 68 = .ok (.iconst 3, 1) := by decide +kernel
theorem d_T_countUnlike_69 : decode b_T_countUnlike 69 = .ok (.ireturn, 1) := by decide +kernel
theorem d_T_discriminant_0 : decode b_T_discriminant 0 = .ok (.lload_n 0, 1) := by decide +kernel
theorem d_T_discriminant_1 : decode b_T_discriminant 1 = .ok (.lload_n 0, 1) := by decide +kernel
theorem d_T_discriminant_2 : decode b_T_discriminant 2 = .ok (.lmul, 1) := by decide +kernel
theorem d_T_discriminant_3 : decode b_T_discriminant 3 = .ok (.lload_n 2, 1) := by decide +kernel
theorem d_T_discriminant_4 : decode b_T_discriminant 4 = .ok (.lmul, 1) := by decide +kernel
theorem d_T_discriminant_5 : decode b_T_discriminant 5 = .ok (.lload_n 2, 1) := by decide +kernel
theorem d_T_discriminant_6 : decode b_T_discriminant 6 = .ok (.lmul, 1) := by decide +kernel
theorem d_T_discriminant_7 : decode b_T_discriminant 7 = .ok (.ldc2_w 67, 3) := by decide +kernel
theorem d_T_discriminant_10 : decode b_T_discriminant 10 = .ok (.lload_n 2, 1) := by decide +kernel
theorem d_T_discriminant_11 : decode b_T_discriminant 11 = .ok (.lmul, 1) := by decide +kernel
theorem d_T_discriminant_12 : decode b_T_discriminant 12 = .ok (.lload_n 2, 1) := by decide +kernel
theorem d_T_discriminant_13 : decode b_T_discriminant 13 = .ok (.lmul, 1) := by decide +kernel
theorem d_T_discriminant_14 : decode b_T_discriminant 14 = .ok (.lload_n 2, 1) := by decide +kernel
theorem d_T_discriminant_15 : decode b_T_discriminant 15 = .ok (.lmul, 1) := by decide +kernel
theorem d_T_discriminant_16 : decode b_T_discriminant 16 = .ok (.lsub, 1) := by decide +kernel
theorem d_T_discriminant_17 : decode b_T_discriminant 17 = .ok (.ldc2_w 67, 3) := by decide +kernel
theorem d_T_discriminant_20 : decode b_T_discriminant 20 = .ok (.lload_n 0, 1) := by decide +kernel
theorem d_T_discriminant_21 : decode b_T_discriminant 21 = .ok (.lmul, 1) := by decide +kernel
theorem d_T_discriminant_22 : decode b_T_discriminant 22 = .ok (.lload_n 0, 1) := by decide +kernel
theorem d_T_discriminant_23 : decode b_T_discriminant 23 = .ok (.lmul, 1) := by decide +kernel
theorem d_T_discriminant_24 : decode b_T_discriminant 24 = .ok (.lload_n 0, 1) := by decide +kernel
theorem d_T_discriminant_25 : decode b_T_discriminant 25 = .ok (.lmul, 1) := by decide +kernel
theorem d_T_discriminant_26 : decode b_T_discriminant 26 = .ok (.lload 4, 2) := by decide +kernel
theorem d_T_discriminant_28 : decode b_T_discriminant 28 = .ok (.lmul, 1) := by decide +kernel
theorem d_T_discriminant_29 : decode b_T_discriminant 29 = .ok (.lsub, 1) := by decide +kernel
theorem d_T_discriminant_30 : decode b_T_discriminant 30 = .ok (.ldc2_w 78, 3) := by decide +kernel
theorem d_T_discriminant_33 : decode b_T_discriminant 33 = .ok (.lload_n 0, 1) := by decide +kernel
theorem d_T_discriminant_34 : decode b_T_discriminant 34 = .ok (.lmul, 1) := by decide +kernel
theorem d_T_discriminant_35 : decode b_T_discriminant 35 = .ok (.lload_n 2, 1) := by decide +kernel
theorem d_T_discriminant_36 : decode b_T_discriminant 36 = .ok (.lmul, 1) := by decide +kernel
theorem d_T_discriminant_37 : decode b_T_discriminant 37 = .ok (.lload 4, 2) := by decide +kernel
theorem d_T_discriminant_39 : decode b_T_discriminant 39 = .ok (.lmul, 1) := by decide +kernel
theorem d_T_discriminant_40 : decode b_T_discriminant 40 = .ok (.ladd, 1) := by decide +kernel
theorem d_T_discriminant_41 : decode b_T_discriminant 41 = .ok (.ldc2_w 80, 3) := by decide +kernel
theorem d_T_discriminant_44 : decode b_T_discriminant 44 = .ok (.lload 4, 2) := by decide +kernel
theorem d_T_discriminant_46 : decode b_T_discriminant 46 = .ok (.lmul, 1) := by decide +kernel
theorem d_T_discriminant_47 : decode b_T_discriminant 47 = .ok (.lload 4, 2) := by decide +kernel
theorem d_T_discriminant_49 : decode b_T_discriminant 49 = .ok (.lmul, 1) := by decide +kernel
theorem d_T_discriminant_50 : decode b_T_discriminant 50 = .ok (.lsub, 1) := by decide +kernel
theorem d_T_discriminant_51 : decode b_T_discriminant 51 = .ok (.lreturn, 1) := by decide +kernel

/-! decode rows of ConicKinds (wip/gen_names.py) -/
theorem d_K_init_0 : decode b_K_init 0 = .ok (.aload_n 0, 1) := by decide +kernel
theorem d_K_init_1 : decode b_K_init 1 = .ok (.invokespecial 1, 3) := by decide +kernel
theorem d_K_init_4 : decode b_K_init 4 = .ok (.aload_n 0, 1) := by decide +kernel
theorem d_K_init_5 : decode b_K_init 5 = .ok (.iconst 2, 1) := by decide +kernel
theorem d_K_init_6 : decode b_K_init 6 = .ok (.putfield 7, 3) := by decide +kernel
theorem d_K_init_9 : decode b_K_init 9 = .ok (.aload_n 0, 1) := by decide +kernel
theorem d_K_init_10 : decode b_K_init 10 = .ok (.iconst 0, 1) := by decide +kernel
theorem d_K_init_11 : decode b_K_init 11 = .ok (.putfield 13, 3) := by decide +kernel
theorem d_K_init_14 : decode b_K_init 14 = .ok (.aload_n 0, 1) := by decide +kernel
theorem d_K_init_15 : decode b_K_init 15 = .ok (.bipush 16, 2) := by decide +kernel
theorem d_K_init_17 : decode b_K_init 17 = .ok (.newarray .long, 2) := by decide +kernel
theorem d_K_init_19 : decode b_K_init 19 = .ok (.putfield 17, 3) := by decide +kernel
theorem d_K_init_22 : decode b_K_init 22 = .ok (.aload_n 0, 1) := by decide +kernel
theorem d_K_init_23 : decode b_K_init 23 = .ok (.bipush 16, 2) := by decide +kernel
theorem d_K_init_25 : decode b_K_init 25 = .ok (.newarray .long, 2) := by decide +kernel
theorem d_K_init_27 : decode b_K_init 27 = .ok (.putfield 21, 3) := by decide +kernel
theorem d_K_init_30 : decode b_K_init 30 = .ok (.aload_n 0, 1) := by decide +kernel
theorem d_K_init_31 : decode b_K_init 31 = .ok (.new 24, 3) := by decide +kernel
theorem d_K_init_34 : decode b_K_init 34 = .ok (.dup, 1) := by decide +kernel
theorem d_K_init_35 : decode b_K_init 35 = .ok (.invokespecial 26, 3) := by decide +kernel
theorem d_K_init_38 : decode b_K_init 38 = .ok (.putfield 27, 3) := by decide +kernel
theorem d_K_init_41 : decode b_K_init 41 = .ok (.aload_n 0, 1) := by decide +kernel
theorem d_K_init_42 : decode b_K_init 42 = .ok (.bipush 16, 2) := by decide +kernel
theorem d_K_init_44 : decode b_K_init 44 = .ok (.newarray .long, 2) := by decide +kernel
theorem d_K_init_46 : decode b_K_init 46 = .ok (.putfield 31, 3) := by decide +kernel
theorem d_K_init_49 : decode b_K_init 49 = .ok (.aload_n 0, 1) := by decide +kernel
theorem d_K_init_50 : decode b_K_init 50 = .ok (.iconst 4, 1) := by decide +kernel
theorem d_K_init_51 : decode b_K_init 51 = .ok (.newarray .long, 2) := by decide +kernel
theorem d_K_init_53 : decode b_K_init 53 = .ok (.putfield 34, 3) := by decide +kernel
theorem d_K_init_56 : decode b_K_init 56 = .ok (.aload_n 0, 1) := by decide +kernel
theorem d_K_init_57 : decode b_K_init 57 = .ok (.iconst 4, 1) := by decide +kernel
theorem d_K_init_58 : decode b_K_init 58 = .ok (.newarray .long, 2) := by decide +kernel
theorem d_K_init_60 : decode b_K_init 60 = .ok (.putfield 37, 3) := by decide +kernel
theorem d_K_init_63 : decode b_K_init 63 = .ok (.return_, 1) := by decide +kernel
theorem d_K_dimension_0 : decode b_K_dimension 0 = .ok (.iload_n 1, 1) := by decide +kernel
theorem d_K_dimension_1 : decode b_K_dimension 1 = .ok (.iconst 2, 1) := by decide +kernel
theorem d_K_dimension_2 : decode b_K_dimension 2 = .ok (.if_icmp .eq 11, 3) := by decide +kernel
theorem d_K_dimension_5 : decode b_K_dimension 5 = .ok (.iload_n 1, 1) := by decide +kernel
theorem d_K_dimension_6 : decode b_K_dimension 6 = .ok (.iconst 3, 1) := by decide +kernel
theorem d_K_dimension_7 : decode b_K_dimension 7 = .ok (.if_icmp .eq 6, 3) := by decide +kernel
theorem d_K_dimension_10 : decode b_K_dimension 10 = .ok (.bipush (-2), 2) := by decide +kernel
theorem d_K_dimension_12 : decode b_K_dimension 12 = .ok (.ireturn, 1) := by decide +kernel
theorem d_K_dimension_13 : decode b_K_dimension 13 = .ok (.aload_n 0, 1) := by decide +kernel
theorem d_K_dimension_14 : decode b_K_dimension 14 = .ok (.getfield 7, 3) := by decide +kernel
theorem d_K_dimension_17 : decode b_K_dimension 17 = .ok (.istore_n 2, 1) := by decide +kernel
theorem d_K_dimension_18 : decode b_K_dimension 18 = .ok (.aload_n 0, 1) := by decide +kernel
theorem d_K_dimension_19 : decode b_K_dimension 19 = .ok (.iload_n 1, 1) := by decide +kernel
theorem d_K_dimension_20 : decode b_K_dimension 20 = .ok (.putfield 7, 3) := by decide +kernel
theorem d_K_dimension_23 : decode b_K_dimension 23 = .ok (.aload_n 0, 1) := by decide +kernel
theorem d_K_dimension_24 : decode b_K_dimension 24 = .ok (.iconst 0, 1) := by decide +kernel
theorem d_K_dimension_25 : decode b_K_dimension 25 = .ok (.putfield 13, 3) := by decide +kernel
theorem d_K_dimension_28 : decode b_K_dimension 28 = .ok (.aload_n 0, 1) := by decide +kernel
theorem d_K_dimension_29 : decode b_K_dimension 29 = .ok (.getfield 17, 3) := by decide +kernel
theorem d_K_dimension_32 : decode b_K_dimension 32 = .ok (.lconst 0, 1) := by decide +kernel
theorem d_K_dimension_33 : decode b_K_dimension 33 = .ok (.invokestatic 40, 3) := by decide +kernel
theorem d_K_dimension_36 : decode b_K_dimension 36 = .ok (.iload_n 2, 1) := by decide +kernel
theorem d_K_dimension_37 : decode b_K_dimension 37 = .ok (.ireturn, 1) := by decide +kernel
theorem d_K_put_0 : decode b_K_put 0 = .ok (.aload_n 0, 1) := by decide +kernel
theorem d_K_put_1 : decode b_K_put 1 = .ok (.iload_n 1, 1) := by decide +kernel
theorem d_K_put_2 : decode b_K_put 2 = .ok (.invokevirtual 46, 3) := by decide +kernel
theorem d_K_put_5 : decode b_K_put 5 = .ok (.ifCond .ne 21, 3) := by decide +kernel
theorem d_K_put_8 : decode b_K_put 8 = .ok (.aload_n 0, 1) := by decide +kernel
theorem d_K_put_9 : decode b_K_put 9 = .ok (.iload_n 2, 1) := by decide +kernel
theorem d_K_put_10 : decode b_K_put 10 = .ok (.invokevirtual 46, 3) := by decide +kernel
theorem d_K_put_13 : decode b_K_put 13 = .ok (.ifCond .ne 13, 3) := by decide +kernel
theorem d_K_put_16 : decode b_K_put 16 = .ok (.iload_n 3, 1) := by decide +kernel
theorem d_K_put_17 : decode b_K_put 17 = .ok (.i2l, 1) := by decide +kernel
theorem d_K_put_18 : decode b_K_put 18 = .ok (.bipush 20, 2) := by decide +kernel
theorem d_K_put_20 : decode b_K_put 20 = .ok (.invokestatic 50, 3) := by decide +kernel
theorem d_K_put_23 : decode b_K_put 23 = .ok (.ifCond .eq 7, 3) := by decide +kernel
theorem d_K_put_26 : decode b_K_put 26 = .ok (.ldc2_w 54, 3) := by decide +kernel
theorem d_K_put_29 : decode b_K_put 29 = .ok (.lreturn, 1) := by decide +kernel
theorem d_K_put_30 : decode b_K_put 30 = .ok (.aload_n 0, 1) := by decide +kernel
theorem d_K_put_31 : decode b_K_put 31 = .ok (.getfield 17, 3) := by decide +kernel
theorem d_K_put_34 : decode b_K_put 34 = .ok (.iload_n 1, 1) := by decide +kernel
theorem d_K_put_35 : decode b_K_put 35 = .ok (.iload_n 2, 1) := by decide +kernel
theorem d_K_put_36 : decode b_K_put 36 = .ok (.invokestatic 56, 3) := by decide +kernel
theorem d_K_put_39 : decode b_K_put 39 = .ok (.laload, 1) := by decide +kernel
theorem d_K_put_40 : decode b_K_put 40 = .ok (.lstore 4, 2) := by decide +kernel
theorem d_K_put_42 : decode b_K_put 42 = .ok (.aload_n 0, 1) := by decide +kernel
theorem d_K_put_43 : decode b_K_put 43 = .ok (.getfield 17, 3) := by decide +kernel
theorem d_K_put_46 : decode b_K_put 46 = .ok (.iload_n 1, 1) := by decide +kernel
theorem d_K_put_47 : decode b_K_put 47 = .ok (.iload_n 2, 1) := by decide +kernel
theorem d_K_put_48 : decode b_K_put 48 = .ok (.invokestatic 56, 3) := by decide +kernel
theorem d_K_put_51 : decode b_K_put 51 = .ok (.iload_n 3, 1) := by decide +kernel
theorem d_K_put_52 : decode b_K_put 52 = .ok (.i2l, 1) := by decide +kernel
theorem d_K_put_53 : decode b_K_put 53 = .ok (.lastore, 1) := by decide +kernel
theorem d_K_put_54 : decode b_K_put 54 = .ok (.aload_n 0, 1) := by decide +kernel
theorem d_K_put_55 : decode b_K_put 55 = .ok (.getfield 17, 3) := by decide +kernel
theorem d_K_put_58 : decode b_K_put 58 = .ok (.iload_n 2, 1) := by decide +kernel
theorem d_K_put_59 : decode b_K_put 59 = .ok (.iload_n 1, 1) := by decide +kernel
theorem d_K_put_60 : decode b_K_put 60 = .ok (.invokestatic 56, 3) := by decide +kernel
theorem d_K_put_63 : decode b_K_put 63 = .ok (.iload_n 3, 1) := by decide +kernel
theorem d_K_put_64 : decode b_K_put 64 = .ok (.i2l, 1) := by decide +kernel
theorem d_K_put_65 : decode b_K_put 65 = .ok (.lastore, 1) := by decide +kernel
theorem d_K_put_66 : decode b_K_put 66 = .ok (.lload 4, 2) := by decide +kernel
theorem d_K_put_68 : decode b_K_put 68 = .ok (.lreturn, 1) := by decide +kernel
theorem d_K_isNoPlace_0 : decode b_K_isNoPlace 0 = .ok (.iload_n 1, 1) := by decide +kernel
theorem d_K_isNoPlace_1 : decode b_K_isNoPlace 1 = .ok (.ifCond .lt 11, 3) := by decide +kernel
theorem d_K_isNoPlace_4 : decode b_K_isNoPlace 4 = .ok (.iload_n 1, 1) := by decide +kernel
theorem d_K_isNoPlace_5 : decode b_K_isNoPlace 5 = .ok (.aload_n 0, 1) := by decide +kernel
theorem d_K_isNoPlace_6 : decode b_K_isNoPlace 6 = .ok (.getfield 7, 3) := by decide +kernel
theorem d_K_isNoPlace_9 : decode b_K_isNoPlace 9 = .ok (.if_icmp .le 7, 3) := by decide +kernel
theorem d_K_isNoPlace_12 : decode b_K_isNoPlace 12 = .ok (.iconst 1, 1) := by decide +kernel
theorem d_K_isNoPlace_13 : decode b_K_isNoPlace 13 = .ok (.goto 4, 3) := by decide +kernel
theorem d_K_isNoPlace_16 : decode b_K_isNoPlace 16 = .ok (.iconst 0, 1) := by decide +kernel
theorem d_K_isNoPlace_17 : decode b_K_isNoPlace 17 = .ok (.ireturn, 1) := by decide +kernel
theorem d_K_isBeyond_0 : decode b_K_isBeyond 0 = .ok (.lload_n 0, 1) := by decide +kernel
theorem d_K_isBeyond_1 : decode b_K_isBeyond 1 = .ok (.iload_n 2, 1) := by decide +kernel
theorem d_K_isBeyond_2 : decode b_K_isBeyond 2 = .ok (.ineg, 1) := by decide +kernel
theorem d_K_isBeyond_3 : decode b_K_isBeyond 3 = .ok (.i2l, 1) := by decide +kernel
theorem d_K_isBeyond_4 : decode b_K_isBeyond 4 = .ok (.lcmp, 1) := by decide +kernel
theorem d_K_isBeyond_5 : decode b_K_isBeyond 5 = .ok (.ifCond .lt 10, 3) := by decide +kernel
theorem d_K_isBeyond_8 : decode b_K_isBeyond 8 = .ok (.lload_n 0, 1) := by decide +kernel
theorem d_K_isBeyond_9 : decode b_K_isBeyond 9 = .ok (.iload_n 2, 1) := by decide +kernel
theorem d_K_isBeyond_10 : decode b_K_isBeyond 10 = .ok (.i2l, 1) := by decide +kernel
theorem d_K_isBeyond_11 : decode b_K_isBeyond 11 = .ok (.lcmp, 1) := by decide +kernel
theorem d_K_isBeyond_12 : decode b_K_isBeyond 12 = .ok (.ifCond .le 7, 3) := by decide +kernel
theorem d_K_isBeyond_15 : decode b_K_isBeyond 15 = .ok (.iconst 1, 1) := by decide +kernel
theorem d_K_isBeyond_16 : decode b_K_isBeyond 16 = .ok (.goto 4, 3) := by decide +kernel
theorem d_K_isBeyond_19 : decode b_K_isBeyond 19 = .ok (.iconst 0, 1) := by decide +kernel
theorem d_K_isBeyond_20 : decode b_K_isBeyond 20 = .ok (.ireturn, 1) := by decide +kernel
theorem d_K_place_0 : decode b_K_place 0 = .ok (.iconst 4, 1) := by decide +kernel
theorem d_K_place_1 : decode b_K_place 1 = .ok (.iload_n 0, 1) := by decide +kernel
theorem d_K_place_2 : decode b_K_place 2 = .ok (.imul, 1) := by decide +kernel
theorem d_K_place_3 : decode b_K_place 3 = .ok (.iload_n 1, 1) := by decide +kernel
theorem d_K_place_4 : decode b_K_place 4 = .ok (.iadd, 1) := by decide +kernel
theorem d_K_place_5 : decode b_K_place 5 = .ok (.ireturn, 1) := by decide +kernel
theorem d_K_kind_0 : decode b_K_kind 0 = .ok (.aload_n 0, 1) := by decide +kernel
theorem d_K_kind_1 : decode b_K_kind 1 = .ok (.aload_n 0, 1) := by decide +kernel
theorem d_K_kind_2 : decode b_K_kind 2 = .ok (.getfield 17, 3) := by decide +kernel
theorem d_K_kind_5 : decode b_K_kind 5 = .ok (.aload_n 0, 1) := by decide +kernel
theorem d_K_kind_6 : decode b_K_kind 6 = .ok (.getfield 7, 3) := by decide +kernel
theorem d_K_kind_9 : decode b_K_kind 9 = .ok (.invokevirtual 60, 3) := by decide +kernel
theorem d_K_kind_12 : decode b_K_kind 12 = .ok (.ireturn, 1) := by decide +kernel
theorem d_K_kindOf_0 : decode b_K_kindOf 0 = .ok (.aload_n 0, 1) := by decide +kernel
theorem d_K_kindOf_1 : decode b_K_kindOf 1 = .ok (.getfield 27, 3) := by decide +kernel
theorem d_K_kindOf_4 : decode b_K_kindOf 4 = .ok (.aload_n 1, 1) := by decide +kernel
theorem d_K_kindOf_5 : decode b_K_kindOf 5 = .ok (.iconst 1, 1) := by decide +kernel
theorem d_K_kindOf_6 : decode b_K_kindOf 6 = .ok (.iload_n 2, 1) := by decide +kernel
theorem d_K_kindOf_7 : decode b_K_kindOf 7 = .ok (.invokevirtual 64, 3) := by decide +kernel
theorem d_K_kindOf_10 : decode b_K_kindOf 10 = .ok (.aload_n 0, 1) := by decide +kernel
theorem d_K_kindOf_11 : decode b_K_kindOf 11 = .ok (.getfield 27, 3) := by decide +kernel
theorem d_K_kindOf_14 : decode b_K_kindOf 14 = .ok (.invokevirtual 68, 3) := by decide +kernel
theorem d_K_kindOf_17 : decode b_K_kindOf 17 = .ok (.istore_n 3, 1) := by decide +kernel
theorem d_K_kindOf_18 : decode b_K_kindOf 18 = .ok (.aload_n 0, 1) := by decide +kernel
theorem d_K_kindOf_19 : decode b_K_kindOf 19 = .ok (.getfield 27, 3) := by decide +kernel
theorem d_K_kindOf_22 : decode b_K_kindOf 22 = .ok (.invokevirtual 72, 3) := by decide +kernel
theorem d_K_kindOf_25 : decode b_K_kindOf 25 = .ok (.istore 4, 2) := by decide +kernel
theorem d_K_kindOf_27 : decode b_K_kindOf 27 = .ok (.aload_n 0, 1) := by decide +kernel
theorem d_K_kindOf_28 : decode b_K_kindOf 28 = .ok (.getfield 27, 3) := by decide +kernel
theorem d_K_kindOf_31 : decode b_K_kindOf 31 = .ok (.aload_n 1, 1) := by decide +kernel
theorem d_K_kindOf_32 : decode b_K_kindOf 32 = .ok (.iconst 0, 1) := by decide +kernel
theorem d_K_kindOf_33 : decode b_K_kindOf 33 = .ok (.iload_n 2, 1) := by decide +kernel
theorem d_K_kindOf_34 : decode b_K_kindOf 34 = .ok (.invokevirtual 64, 3) := by decide +kernel
theorem d_K_kindOf_37 : decode b_K_kindOf 37 = .ok (.aload_n 0, 1) := by decide +kernel
theorem d_K_kindOf_38 : decode b_K_kindOf 38 = .ok (.getfield 27, 3) := by decide +kernel
theorem d_K_kindOf_41 : decode b_K_kindOf 41 = .ok (.invokevirtual 68, 3) := by decide +kernel
theorem d_K_kindOf_44 : decode b_K_kindOf 44 = .ok (.istore 5, 2) := by decide +kernel
theorem d_K_kindOf_46 : decode b_K_kindOf 46 = .ok (.aload_n 0, 1) := by decide +kernel
theorem d_K_kindOf_47 : decode b_K_kindOf 47 = .ok (.getfield 27, 3) := by decide +kernel
theorem d_K_kindOf_50 : decode b_K_kindOf 50 = .ok (.invokevirtual 72, 3) := by decide +kernel
theorem d_K_kindOf_53 : decode b_K_kindOf 53 = .ok (.istore 6, 2) := by decide +kernel
theorem d_K_kindOf_55 : decode b_K_kindOf 55 = .ok (.iload 4, 2) := by decide +kernel
theorem d_K_kindOf_57 : decode b_K_kindOf 57 = .ok (.iload_n 3, 1) := by decide +kernel
theorem d_K_kindOf_58 : decode b_K_kindOf 58 = .ok (.if_icmp .gt 16, 3) := by decide +kernel
theorem d_K_kindOf_61 : decode b_K_kindOf 61 = .ok (.iload 4, 2) := by decide +kernel
theorem d_K_kindOf_63 : decode b_K_kindOf 63 = .ok (.iload_n 3, 1) := by decide +kernel
theorem d_K_kindOf_64 : decode b_K_kindOf 64 = .ok (.if_icmp .ne 14, 3) := by decide +kernel
theorem d_K_kindOf_67 : decode b_K_kindOf 67 = .ok (.iload 6, 2) := by decide +kernel
theorem d_K_kindOf_69 : decode b_K_kindOf 69 = .ok (.iload 5, 2) := by decide +kernel
theorem d_K_kindOf_71 : decode b_K_kindOf 71 = .ok (.if_icmp .le 7, 3) := by decide +kernel
theorem d_K_kindOf_74 : decode b_K_kindOf 74 = .ok (.iconst 1, 1) := by decide +kernel
theorem d_K_kindOf_75 : decode b_K_kindOf 75 = .ok (.goto 4, 3) := by decide +kernel
theorem d_K_kindOf_78 : decode b_K_kindOf 78 = .ok (.iconst 0, 1) := by decide +kernel
theorem d_K_kindOf_79 : decode b_K_kindOf 79 = .ok (.istore 7, 2) := by decide +kernel
theorem d_K_kindOf_81 : decode b_K_kindOf 81 = .ok (.iload 7, 2) := by decide +kernel
theorem d_K_kindOf_83 : decode b_K_kindOf 83 = .ok (.ifCond .eq 16, 3) := by decide +kernel
theorem d_K_kindOf_86 : decode b_K_kindOf 86 = .ok (.iload 4, 2) := by decide +kernel
theorem d_K_kindOf_88 : decode b_K_kindOf 88 = .ok (.iload_n 3, 1) := by decide +kernel
theorem d_K_kindOf_89 : decode b_K_kindOf 89 = .ok (.iload 6, 2) := by decide +kernel
theorem d_K_kindOf_91 : decode b_K_kindOf 91 = .ok (.iload 5, 2) := by decide +kernel
theorem d_K_kindOf_93 : decode b_K_kindOf 93 = .ok (.invokestatic 168, 3) := by decide +kernel
theorem d_K_kindOf_96 : decode b_K_kindOf 96 = .ok (.goto 13, 3) := by decide +kernel
theorem d_K_kindOf_99 : decode b_K_kindOf 99 = .ok (.iload_n 3, 1) := by decide +kernel
theorem d_K_kindOf_100 : decode b_K_kindOf 100 = .ok (.iload 4, 2) := by decide +kernel
theorem d_K_kindOf_102 : decode b_K_kindOf 102 = .ok (.iload 5, 2) := by decide +kernel
theorem d_K_kindOf_104 : decode b_K_kindOf 104 = .ok (.iload 6, 2) := by decide +kernel
theorem d_K_kindOf_106 : decode b_K_kindOf 106 = .ok (.invokestatic 168, 3) := by decide +kernel
theorem d_K_kindOf_109 : decode b_K_kindOf 109 = .ok (.istore 8, 2) := by decide +kernel
theorem d_K_kindOf_111 : decode b_K_kindOf 111 = .ok (.iload_n 2, 1) := by decide +kernel
theorem d_K_kindOf_112 : decode b_K_kindOf 112 = .ok (.iconst 2, 1) := by decide +kernel
theorem d_K_kindOf_113 : decode b_K_kindOf 113 = .ok (.if_icmp .ne 11, 3) := by decide +kernel
theorem d_K_kindOf_116 : decode b_K_kindOf 116 = .ok (.iload 8, 2) := by decide +kernel
theorem d_K_kindOf_118 : decode b_K_kindOf 118 = .ok (.invokestatic 172, 3) := by decide +kernel
theorem d_K_kindOf_121 : decode b_K_kindOf 121 = .ok (.goto 8, 3) := by decide +kernel
theorem d_K_kindOf_124 : decode b_K_kindOf 124 = .ok (.iload 8, 2) := by decide +kernel
theorem d_K_kindOf_126 : decode b_K_kindOf 126 = .ok (.invokestatic 175, 3) := by decide +kernel
theorem d_K_kindOf_129 : decode b_K_kindOf 129 = .ok (.ireturn, 1) := by decide +kernel
theorem d_K_codeOf_0 : decode b_K_codeOf 0 = .ok (.sipush 1000, 3) := by decide +kernel
theorem d_K_codeOf_3 : decode b_K_codeOf 3 = .ok (.iload_n 0, 1) := by decide +kernel
theorem d_K_codeOf_4 : decode b_K_codeOf 4 = .ok (.imul, 1) := by decide +kernel
theorem d_K_codeOf_5 : decode b_K_codeOf 5 = .ok (.bipush 100, 2) := by decide +kernel
theorem d_K_codeOf_7 : decode b_K_codeOf 7 = .ok (.iload_n 1, 1) := by decide +kernel
theorem d_K_codeOf_8 : decode b_K_codeOf 8 = .ok (.imul, 1) := by decide +kernel
theorem d_K_codeOf_9 : decode b_K_codeOf 9 = .ok (.iadd, 1) := by decide +kernel
theorem d_K_codeOf_10 : decode b_K_codeOf 10 = .ok (.bipush 10, 2) := by decide +kernel
theorem d_K_codeOf_12 : decode b_K_codeOf 12 = .ok (.iload_n 2, 1) := by decide +kernel
theorem d_K_codeOf_13 : decode b_K_codeOf 13 = .ok (.imul, 1) := by decide +kernel
theorem d_K_codeOf_14 : decode b_K_codeOf 14 = .ok (.iadd, 1) := by decide +kernel
theorem d_K_codeOf_15 : decode b_K_codeOf 15 = .ok (.iload_n 3, 1) := by decide +kernel
theorem d_K_codeOf_16 : decode b_K_codeOf 16 = .ok (.iadd, 1) := by decide +kernel
theorem d_K_codeOf_17 : decode b_K_codeOf 17 = .ok (.ireturn, 1) := by decide +kernel
theorem d_K_kindInPlane_0 : decode b_K_kindInPlane 0 = .ok (.iload_n 0, 1) := by decide +kernel
theorem d_K_kindInPlane_1 : decode b_K_kindInPlane 1 = .ok (.lookupswitch 124 #[(10, 122), (11, 119), (1010, 116), (1011, 111), (1020, 114), (1021, 109), (1111, 107), (1121, 105), (2020, 101), (2021, 103), (2030, 99)], 99) := by decide +kernel
theorem d_K_kindInPlane_100 : decode b_K_kindInPlane 100 = .ok (.iconst 0, 1) := by decide +kernel
theorem d_K_kindInPlane_101 : decode b_K_kindInPlane 101 = .ok (.ireturn, 1) := by decide +kernel
theorem d_K_kindInPlane_102 : decode b_K_kindInPlane 102 = .ok (.iconst 1, 1) := by decide +kernel
theorem d_K_kindInPlane_103 : decode b_K_kindInPlane 103 = .ok (.ireturn, 1) := by decide +kernel
theorem d_K_kindInPlane_104 : decode b_K_kindInPlane 104 = .ok (.iconst 2, 1) := by decide +kernel
theorem d_K_kindInPlane_105 : decode b_K_kindInPlane 105 = .ok (.ireturn, 1) := by decide +kernel
theorem d_K_kindInPlane_106 : decode b_K_kindInPlane 106 = .ok (.iconst 3, 1) := by decide +kernel
theorem d_K_kindInPlane_107 : decode b_K_kindInPlane 107 = .ok (.ireturn, 1) := by decide +kernel
theorem d_K_kindInPlane_108 : decode b_K_kindInPlane 108 = .ok (.iconst 5, 1) := by decide +kernel
theorem d_K_kindInPlane_109 : decode b_K_kindInPlane 109 = .ok (.ireturn, 1) := by decide +kernel
theorem d_K_kindInPlane_110 : decode b_K_kindInPlane 110 = .ok (.iconst 4, 1) := by decide +kernel
theorem d_K_kindInPlane_111 : decode b_K_kindInPlane 111 = .ok (.ireturn, 1) := by decide +kernel
theorem d_K_kindInPlane_112 : decode b_K_kindInPlane 112 = .ok (.bipush 6, 2) := by decide +kernel
theorem d_K_kindInPlane_114 : decode b_K_kindInPlane 114 = .ok (.ireturn, 1) := by decide +kernel
theorem d_K_kindInPlane_115 : decode b_K_kindInPlane 115 = .ok (.iconst 0, 1) := by decide +kernel
theorem d_K_kindInPlane_116 : decode b_K_kindInPlane 116 = .ok (.ireturn, 1) := by decide +kernel
theorem d_K_kindInPlane_117 : decode b_K_kindInPlane 117 = .ok (.bipush 9, 2) := by decide +kernel
theorem d_K_kindInPlane_119 : decode b_K_kindInPlane 119 = .ok (.ireturn, 1) := by decide +kernel
theorem d_K_kindInPlane_120 : decode b_K_kindInPlane 120 = .ok (.bipush 7, 2) := by decide +kernel
theorem d_K_kindInPlane_122 : decode b_K_kindInPlane 122 = .ok (.ireturn, 1) := by decide +kernel
theorem d_K_kindInPlane_123 : decode b_K_kindInPlane 123 = .ok (.iconst 0, 1) := by decide +kernel
theorem d_K_kindInPlane_124 : decode b_K_kindInPlane 124 = .ok (.ireturn, 1) := by decide +kernel
theorem d_K_kindInPlane_125 : decode b_K_kindInPlane 125 = .ok (.bipush 8, 2) := by decide +kernel
theorem d_K_kindInPlane_127 : decode b_K_kindInPlane 127 = .ok (.ireturn, 1) := by decide +kernel
theorem d_K_kindInSpace_0 : decode b_K_kindInSpace 0 = .ok (.iload_n 0, 1) := by decide +kernel
theorem d_K_kindInSpace_1 : decode b_K_kindInSpace 1 = .ok (.lookupswitch 220 #[(10, 217), (11, 214), (1010, 211), (1011, 205), (1020, 208), (1021, 202), (1111, 199), (1121, 196), (1122, 193), (2020, 190), (2021, 184), (2030, 187), (2031, 181), (2121, 178), (2122, 172), (2131, 175), (3030, 166), (3031, 169), (3040, 163)], 163) := by decide +kernel
theorem d_K_kindInSpace_164 : decode b_K_kindInSpace 164 = .ok (.bipush 10, 2) := by decide +kernel
theorem d_K_kindInSpace_166 : decode b_K_kindInSpace 166 = .ok (.ireturn, 1) := by decide +kernel
theorem d_K_kindInSpace_167 : decode b_K_kindInSpace 167 = .ok (.bipush 11, 2) := by decide +kernel
theorem d_K_kindInSpace_169 : decode b_K_kindInSpace 169 = .ok (.ireturn, 1) := by decide +kernel
theorem d_K_kindInSpace_170 : decode b_K_kindInSpace 170 = .ok (.bipush 12, 2) := by decide +kernel
theorem d_K_kindInSpace_172 : decode b_K_kindInSpace 172 = .ok (.ireturn, 1) := by decide +kernel
theorem d_K_kindInSpace_173 : decode b_K_kindInSpace 173 = .ok (.bipush 13, 2) := by decide +kernel
theorem d_K_kindInSpace_175 : decode b_K_kindInSpace 175 = .ok (.ireturn, 1) := by decide +kernel
theorem d_K_kindInSpace_176 : decode b_K_kindInSpace 176 = .ok (.bipush 14, 2) := by decide +kernel
theorem d_K_kindInSpace_178 : decode b_K_kindInSpace 178 = .ok (.ireturn, 1) := by decide +kernel
theorem d_K_kindInSpace_179 : decode b_K_kindInSpace 179 = .ok (.bipush 17, 2) := by decide +kernel
theorem d_K_kindInSpace_181 : decode b_K_kindInSpace 181 = .ok (.ireturn, 1) := by decide +kernel
theorem d_K_kindInSpace_182 : decode b_K_kindInSpace 182 = .ok (.bipush 15, 2) := by decide +kernel
theorem d_K_kindInSpace_184 : decode b_K_kindInSpace 184 = .ok (.ireturn, 1) := by decide +kernel
theorem d_K_kindInSpace_185 : decode b_K_kindInSpace 185 = .ok (.bipush 18, 2) := by decide +kernel
theorem d_K_kindInSpace_187 : decode b_K_kindInSpace 187 = .ok (.ireturn, 1) := by decide +kernel
theorem d_K_kindInSpace_188 : decode b_K_kindInSpace 188 = .ok (.bipush 10, 2) := by decide +kernel
theorem d_K_kindInSpace_190 : decode b_K_kindInSpace 190 = .ok (.ireturn, 1) := by decide +kernel
theorem d_K_kindInSpace_191 : decode b_K_kindInSpace 191 = .ok (.bipush 21, 2) := by decide +kernel
theorem d_K_kindInSpace_193 : decode b_K_kindInSpace 193 = .ok (.ireturn, 1) := by decide +kernel
theorem d_K_kindInSpace_194 : decode b_K_kindInSpace 194 = .ok (.bipush 16, 2) := by decide +kernel
theorem d_K_kindInSpace_196 : decode b_K_kindInSpace 196 = .ok (.ireturn, 1) := by decide +kernel
theorem d_K_kindInSpace_197 : decode b_K_kindInSpace 197 = .ok (.bipush 19, 2) := by decide +kernel
theorem d_K_kindInSpace_199 : decode b_K_kindInSpace 199 = .ok (.ireturn, 1) := by decide +kernel
theorem d_K_kindInSpace_200 : decode b_K_kindInSpace 200 = .ok (.bipush 22, 2) := by decide +kernel
theorem d_K_kindInSpace_202 : decode b_K_kindInSpace 202 = .ok (.ireturn, 1) := by decide +kernel
theorem d_K_kindInSpace_203 : decode b_K_kindInSpace 203 = .ok (.bipush 20, 2) := by decide +kernel
theorem d_K_kindInSpace_205 : decode b_K_kindInSpace 205 = .ok (.ireturn, 1) := by decide +kernel
theorem d_K_kindInSpace_206 : decode b_K_kindInSpace 206 = .ok (.bipush 23, 2) := by decide +kernel
theorem d_K_kindInSpace_208 : decode b_K_kindInSpace 208 = .ok (.ireturn, 1) := by decide +kernel
theorem d_K_kindInSpace_209 : decode b_K_kindInSpace 209 = .ok (.bipush 10, 2) := by decide +kernel
theorem d_K_kindInSpace_211 : decode b_K_kindInSpace 211 = .ok (.ireturn, 1) := by decide +kernel
theorem d_K_kindInSpace_212 : decode b_K_kindInSpace 212 = .ok (.bipush 25, 2) := by decide +kernel
theorem d_K_kindInSpace_214 : decode b_K_kindInSpace 214 = .ok (.ireturn, 1) := by decide +kernel
theorem d_K_kindInSpace_215 : decode b_K_kindInSpace 215 = .ok (.bipush 24, 2) := by decide +kernel
theorem d_K_kindInSpace_217 : decode b_K_kindInSpace 217 = .ok (.ireturn, 1) := by decide +kernel
theorem d_K_kindInSpace_218 : decode b_K_kindInSpace 218 = .ok (.bipush 10, 2) := by decide +kernel
theorem d_K_kindInSpace_220 : decode b_K_kindInSpace 220 = .ok (.ireturn, 1) := by decide +kernel
theorem d_K_kindInSpace_221 : decode b_K_kindInSpace 221 = .ok (.bipush 26, 2) := by decide +kernel
theorem d_K_kindInSpace_223 : decode b_K_kindInSpace 223 = .ok (.ireturn, 1) := by decide +kernel
theorem d_K_signs_0 : decode b_K_signs 0 = .ok (.iload_n 1, 1) := by decide +kernel
theorem d_K_signs_1 : decode b_K_signs 1 = .ok (.ifCond .lt 8, 3) := by decide +kernel
theorem d_K_signs_4 : decode b_K_signs 4 = .ok (.iload_n 1, 1) := by decide +kernel
theorem d_K_signs_5 : decode b_K_signs 5 = .ok (.iconst 3, 1) := by decide +kernel
theorem d_K_signs_6 : decode b_K_signs 6 = .ok (.if_icmp .le 6, 3) := by decide +kernel
theorem d_K_signs_9 : decode b_K_signs 9 = .ok (.bipush (-2), 2) := by decide +kernel
theorem d_K_signs_11 : decode b_K_signs 11 = .ok (.ireturn, 1) := by decide +kernel
theorem d_K_signs_12 : decode b_K_signs 12 = .ok (.aload_n 0, 1) := by decide +kernel
theorem d_K_signs_13 : decode b_K_signs 13 = .ok (.getfield 27, 3) := by decide +kernel
theorem d_K_signs_16 : decode b_K_signs 16 = .ok (.aload_n 0, 1) := by decide +kernel
theorem d_K_signs_17 : decode b_K_signs 17 = .ok (.getfield 17, 3) := by decide +kernel
theorem d_K_signs_20 : decode b_K_signs 20 = .ok (.iload_n 1, 1) := by decide +kernel
theorem d_K_signs_21 : decode b_K_signs 21 = .ok (.iconst 2, 1) := by decide +kernel
theorem d_K_signs_22 : decode b_K_signs 22 = .ok (.if_icmp .ge 7, 3) := by decide +kernel
theorem d_K_signs_25 : decode b_K_signs 25 = .ok (.iconst 1, 1) := by decide +kernel
theorem d_K_signs_26 : decode b_K_signs 26 = .ok (.goto 4, 3) := by decide +kernel
theorem d_K_signs_29 : decode b_K_signs 29 = .ok (.iconst 0, 1) := by decide +kernel
theorem d_K_signs_30 : decode b_K_signs 30 = .ok (.aload_n 0, 1) := by decide +kernel
theorem d_K_signs_31 : decode b_K_signs 31 = .ok (.getfield 7, 3) := by decide +kernel
theorem d_K_signs_34 : decode b_K_signs 34 = .ok (.invokevirtual 64, 3) := by decide +kernel
theorem d_K_signs_37 : decode b_K_signs 37 = .ok (.iload_n 1, 1) := by decide +kernel
theorem d_K_signs_38 : decode b_K_signs 38 = .ok (.iconst 2, 1) := by decide +kernel
theorem d_K_signs_39 : decode b_K_signs 39 = .ok (.irem, 1) := by decide +kernel
theorem d_K_signs_40 : decode b_K_signs 40 = .ok (.ifCond .ne 13, 3) := by decide +kernel
theorem d_K_signs_43 : decode b_K_signs 43 = .ok (.aload_n 0, 1) := by decide +kernel
theorem d_K_signs_44 : decode b_K_signs 44 = .ok (.getfield 27, 3) := by decide +kernel
theorem d_K_signs_47 : decode b_K_signs 47 = .ok (.invokevirtual 68, 3) := by decide +kernel
theorem d_K_signs_50 : decode b_K_signs 50 = .ok (.goto 10, 3) := by decide +kernel
theorem d_K_signs_53 : decode b_K_signs 53 = .ok (.aload_n 0, 1) := by decide +kernel
theorem d_K_signs_54 : decode b_K_signs 54 = .ok (.getfield 27, 3) := by decide +kernel
theorem d_K_signs_57 : decode b_K_signs 57 = .ok (.invokevirtual 72, 3) := by decide +kernel
theorem d_K_signs_60 : decode b_K_signs 60 = .ok (.ireturn, 1) := by decide +kernel
theorem d_K_determinant_0 : decode b_K_determinant 0 = .ok (.iload_n 1, 1) := by decide +kernel
theorem d_K_determinant_1 : decode b_K_determinant 1 = .ok (.ifCond .lt 8, 3) := by decide +kernel
theorem d_K_determinant_4 : decode b_K_determinant 4 = .ok (.iload_n 1, 1) := by decide +kernel
theorem d_K_determinant_5 : decode b_K_determinant 5 = .ok (.iconst 3, 1) := by decide +kernel
theorem d_K_determinant_6 : decode b_K_determinant 6 = .ok (.if_icmp .le 7, 3) := by decide +kernel
theorem d_K_determinant_9 : decode b_K_determinant 9 = .ok (.ldc2_w 54, 3) := by decide +kernel
theorem d_K_determinant_12 : decode b_K_determinant 12 = .ok (.lreturn, 1) := by decide +kernel
theorem d_K_determinant_13 : decode b_K_determinant 13 = .ok (.aload_n 0, 1) := by decide +kernel
theorem d_K_determinant_14 : decode b_K_determinant 14 = .ok (.getfield 27, 3) := by decide +kernel
theorem d_K_determinant_17 : decode b_K_determinant 17 = .ok (.aload_n 0, 1) := by decide +kernel
theorem d_K_determinant_18 : decode b_K_determinant 18 = .ok (.getfield 17, 3) := by decide +kernel
theorem d_K_determinant_21 : decode b_K_determinant 21 = .ok (.iload_n 1, 1) := by decide +kernel
theorem d_K_determinant_22 : decode b_K_determinant 22 = .ok (.iconst 1, 1) := by decide +kernel
theorem d_K_determinant_23 : decode b_K_determinant 23 = .ok (.if_icmp .ne 7, 3) := by decide +kernel
theorem d_K_determinant_26 : decode b_K_determinant 26 = .ok (.iconst 0, 1) := by decide +kernel
theorem d_K_determinant_27 : decode b_K_determinant 27 = .ok (.goto 4, 3) := by decide +kernel
theorem d_K_determinant_30 : decode b_K_determinant 30 = .ok (.iconst 1, 1) := by decide +kernel
theorem d_K_determinant_31 : decode b_K_determinant 31 = .ok (.aload_n 0, 1) := by decide +kernel
theorem d_K_determinant_32 : decode b_K_determinant 32 = .ok (.getfield 7, 3) := by decide +kernel
theorem d_K_determinant_35 : decode b_K_determinant 35 = .ok (.invokevirtual 64, 3) := by decide +kernel
theorem d_K_determinant_38 : decode b_K_determinant 38 = .ok (.iload_n 1, 1) := by decide +kernel
theorem d_K_determinant_39 : decode b_K_determinant 39 = .ok (.iconst 2, 1) := by decide +kernel
theorem d_K_determinant_40 : decode b_K_determinant 40 = .ok (.if_icmp .ne 11, 3) := by decide +kernel
theorem d_K_determinant_43 : decode b_K_determinant 43 = .ok (.aload_n 0, 1) := by decide +kernel
theorem d_K_determinant_44 : decode b_K_determinant 44 = .ok (.getfield 27, 3) := by decide +kernel
theorem d_K_determinant_47 : decode b_K_determinant 47 = .ok (.invokevirtual 75, 3) := by decide +kernel
theorem d_K_determinant_50 : decode b_K_determinant 50 = .ok (.lreturn, 1) := by decide +kernel
theorem d_K_determinant_51 : decode b_K_determinant 51 = .ok (.iload_n 1, 1) := by decide +kernel
theorem d_K_determinant_52 : decode b_K_determinant 52 = .ok (.iconst 3, 1) := by decide +kernel
theorem d_K_determinant_53 : decode b_K_determinant 53 = .ok (.if_icmp .ne 13, 3) := by decide +kernel
theorem d_K_determinant_56 : decode b_K_determinant 56 = .ok (.aload_n 0, 1) := by decide +kernel
theorem d_K_determinant_57 : decode b_K_determinant 57 = .ok (.getfield 27, 3) := by decide +kernel
theorem d_K_determinant_60 : decode b_K_determinant 60 = .ok (.invokevirtual 79, 3) := by decide +kernel
theorem d_K_determinant_63 : decode b_K_determinant 63 = .ok (.goto 10, 3) := by decide +kernel
theorem d_K_determinant_66 : decode b_K_determinant 66 = .ok (.aload_n 0, 1) := by decide +kernel
theorem d_K_determinant_67 : decode b_K_determinant 67 = .ok (.getfield 27, 3) := by decide +kernel
theorem d_K_determinant_70 : decode b_K_determinant 70 = .ok (.invokevirtual 82, 3) := by decide +kernel
theorem d_K_determinant_73 : decode b_K_determinant 73 = .ok (.lreturn, 1) := by decide +kernel
theorem d_K_middles_0 : decode b_K_middles 0 = .ok (.aload_n 0, 1) := by decide +kernel
theorem d_K_middles_1 : decode b_K_middles 1 = .ok (.getfield 27, 3) := by decide +kernel
theorem d_K_middles_4 : decode b_K_middles 4 = .ok (.aload_n 0, 1) := by decide +kernel
theorem d_K_middles_5 : decode b_K_middles 5 = .ok (.getfield 17, 3) := by decide +kernel
theorem d_K_middles_8 : decode b_K_middles 8 = .ok (.iconst 1, 1) := by decide +kernel
theorem d_K_middles_9 : decode b_K_middles 9 = .ok (.aload_n 0, 1) := by decide +kernel
theorem d_K_middles_10 : decode b_K_middles 10 = .ok (.getfield 7, 3) := by decide +kernel
theorem d_K_middles_13 : decode b_K_middles 13 = .ok (.invokevirtual 64, 3) := by decide +kernel
theorem d_K_middles_16 : decode b_K_middles 16 = .ok (.aload_n 0, 1) := by decide +kernel
theorem d_K_middles_17 : decode b_K_middles 17 = .ok (.getfield 27, 3) := by decide +kernel
theorem d_K_middles_20 : decode b_K_middles 20 = .ok (.invokevirtual 85, 3) := by decide +kernel
theorem d_K_middles_23 : decode b_K_middles 23 = .ok (.istore_n 1, 1) := by decide +kernel
theorem d_K_middles_24 : decode b_K_middles 24 = .ok (.aload_n 0, 1) := by decide +kernel
theorem d_K_middles_25 : decode b_K_middles 25 = .ok (.getfield 27, 3) := by decide +kernel
theorem d_K_middles_28 : decode b_K_middles 28 = .ok (.aload_n 0, 1) := by decide +kernel
theorem d_K_middles_29 : decode b_K_middles 29 = .ok (.getfield 17, 3) := by decide +kernel
theorem d_K_middles_32 : decode b_K_middles 32 = .ok (.iconst 0, 1) := by decide +kernel
theorem d_K_middles_33 : decode b_K_middles 33 = .ok (.aload_n 0, 1) := by decide +kernel
theorem d_K_middles_34 : decode b_K_middles 34 = .ok (.getfield 7, 3) := by decide +kernel
theorem d_K_middles_37 : decode b_K_middles 37 = .ok (.invokevirtual 64, 3) := by decide +kernel
theorem d_K_middles_40 : decode b_K_middles 40 = .ok (.aload_n 0, 1) := by decide +kernel
theorem d_K_middles_41 : decode b_K_middles 41 = .ok (.getfield 27, 3) := by decide +kernel
theorem d_K_middles_44 : decode b_K_middles 44 = .ok (.invokevirtual 85, 3) := by decide +kernel
theorem d_K_middles_47 : decode b_K_middles 47 = .ok (.iload_n 1, 1) := by decide +kernel
theorem d_K_middles_48 : decode b_K_middles 48 = .ok (.iconst 2, 1) := by decide +kernel
theorem d_K_middles_49 : decode b_K_middles 49 = .ok (.iadd, 1) := by decide +kernel
theorem d_K_middles_50 : decode b_K_middles 50 = .ok (.if_icmp .ne 8, 3) := by decide +kernel
theorem d_K_middles_53 : decode b_K_middles 53 = .ok (.bipush (-3), 2) := by decide +kernel
theorem d_K_middles_55 : decode b_K_middles 55 = .ok (.goto 9, 3) := by decide +kernel
theorem d_K_middles_58 : decode b_K_middles 58 = .ok (.aload_n 0, 1) := by decide +kernel
theorem d_K_middles_59 : decode b_K_middles 59 = .ok (.getfield 7, 3) := by decide +kernel
theorem d_K_middles_62 : decode b_K_middles 62 = .ok (.iload_n 1, 1) := by decide +kernel
theorem d_K_middles_63 : decode b_K_middles 63 = .ok (.isub, 1) := by decide +kernel
theorem d_K_middles_64 : decode b_K_middles 64 = .ok (.ireturn, 1) := by decide +kernel
theorem d_K_middle_0 : decode b_K_middle 0 = .ok (.iload_n 1, 1) := by decide +kernel
theorem d_K_middle_1 : decode b_K_middle 1 = .ok (.iconst 1, 1) := by decide +kernel
theorem d_K_middle_2 : decode b_K_middle 2 = .ok (.if_icmp .lt 18, 3) := by decide +kernel
theorem d_K_middle_5 : decode b_K_middle 5 = .ok (.iload_n 1, 1) := by decide +kernel
theorem d_K_middle_6 : decode b_K_middle 6 = .ok (.aload_n 0, 1) := by decide +kernel
theorem d_K_middle_7 : decode b_K_middle 7 = .ok (.getfield 7, 3) := by decide +kernel
theorem d_K_middle_10 : decode b_K_middle 10 = .ok (.if_icmp .gt 10, 3) := by decide +kernel
theorem d_K_middle_13 : decode b_K_middle 13 = .ok (.iload_n 2, 1) := by decide +kernel
theorem d_K_middle_14 : decode b_K_middle 14 = .ok (.invokestatic 88, 3) := by decide +kernel
theorem d_K_middle_17 : decode b_K_middle 17 = .ok (.ifCond .eq 7, 3) := by decide +kernel
theorem d_K_middle_20 : decode b_K_middle 20 = .ok (.ldc2_w 54, 3) := by decide +kernel
theorem d_K_middle_23 : decode b_K_middle 23 = .ok (.lreturn, 1) := by decide +kernel
theorem d_K_middle_24 : decode b_K_middle 24 = .ok (.aload_n 0, 1) := by decide +kernel
theorem d_K_middle_25 : decode b_K_middle 25 = .ok (.getfield 27, 3) := by decide +kernel
theorem d_K_middle_28 : decode b_K_middle 28 = .ok (.aload_n 0, 1) := by decide +kernel
theorem d_K_middle_29 : decode b_K_middle 29 = .ok (.getfield 17, 3) := by decide +kernel
theorem d_K_middle_32 : decode b_K_middle 32 = .ok (.iconst 1, 1) := by decide +kernel
theorem d_K_middle_33 : decode b_K_middle 33 = .ok (.aload_n 0, 1) := by decide +kernel
theorem d_K_middle_34 : decode b_K_middle 34 = .ok (.getfield 7, 3) := by decide +kernel
theorem d_K_middle_37 : decode b_K_middle 37 = .ok (.invokevirtual 64, 3) := by decide +kernel
theorem d_K_middle_40 : decode b_K_middle 40 = .ok (.lconst 0, 1) := by decide +kernel
theorem d_K_middle_41 : decode b_K_middle 41 = .ok (.lstore_n 3, 1) := by decide +kernel
theorem d_K_middle_42 : decode b_K_middle 42 = .ok (.iconst 1, 1) := by decide +kernel
theorem d_K_middle_43 : decode b_K_middle 43 = .ok (.istore 5, 2) := by decide +kernel
theorem d_K_middle_45 : decode b_K_middle 45 = .ok (.iload 5, 2) := by decide +kernel
theorem d_K_middle_47 : decode b_K_middle 47 = .ok (.aload_n 0, 1) := by decide +kernel
theorem d_K_middle_48 : decode b_K_middle 48 = .ok (.getfield 7, 3) := by decide +kernel
theorem d_K_middle_51 : decode b_K_middle 51 = .ok (.if_icmp .gt 38, 3) := by decide +kernel
theorem d_K_middle_54 : decode b_K_middle 54 = .ok (.lload_n 3, 1) := by decide +kernel
theorem d_K_middle_55 : decode b_K_middle 55 = .ok (.aload_n 0, 1) := by decide +kernel
theorem d_K_middle_56 : decode b_K_middle 56 = .ok (.getfield 27, 3) := by decide +kernel
theorem d_K_middle_59 : decode b_K_middle 59 = .ok (.iload_n 1, 1) := by decide +kernel
theorem d_K_middle_60 : decode b_K_middle 60 = .ok (.iconst 1, 1) := by decide +kernel
theorem d_K_middle_61 : decode b_K_middle 61 = .ok (.isub, 1) := by decide +kernel
theorem d_K_middle_62 : decode b_K_middle 62 = .ok (.iload 5, 2) := by decide +kernel
theorem d_K_middle_64 : decode b_K_middle 64 = .ok (.iconst 1, 1) := by decide +kernel
theorem d_K_middle_65 : decode b_K_middle 65 = .ok (.isub, 1) := by decide +kernel
theorem d_K_middle_66 : decode b_K_middle 66 = .ok (.invokevirtual 91, 3) := by decide +kernel
theorem d_K_middle_69 : decode b_K_middle 69 = .ok (.aload_n 0, 1) := by decide +kernel
theorem d_K_middle_70 : decode b_K_middle 70 = .ok (.getfield 17, 3) := by decide +kernel
theorem d_K_middle_73 : decode b_K_middle 73 = .ok (.iload 5, 2) := by decide +kernel
theorem d_K_middle_75 : decode b_K_middle 75 = .ok (.iconst 0, 1) := by decide +kernel
theorem d_K_middle_76 : decode b_K_middle 76 = .ok (.invokestatic 56, 3) := by decide +kernel
theorem d_K_middle_79 : decode b_K_middle 79 = .ok (.laload, 1) := by decide +kernel
theorem d_K_middle_80 : decode b_K_middle 80 = .ok (.lmul, 1) := by decide +kernel
theorem d_K_middle_81 : decode b_K_middle 81 = .ok (.lsub, 1) := by decide +kernel
theorem d_K_middle_82 : decode b_K_middle 82 = .ok (.lstore_n 3, 1) := by decide +kernel
theorem d_K_middle_83 : decode b_K_middle 83 = .ok (.iinc 5 1, 3) := by decide +kernel
theorem d_K_middle_86 : decode b_K_middle 86 = .ok (.goto (-41), 3) := by decide +kernel
theorem d_K_middle_89 : decode b_K_middle 89 = .ok (.lload_n 3, 1) := by decide +kernel
theorem d_K_middle_90 : decode b_K_middle 90 = .ok (.aload_n 0, 1) := by decide +kernel
theorem d_K_middle_91 : decode b_K_middle 91 = .ok (.getfield 27, 3) := by decide +kernel
theorem d_K_middle_94 : decode b_K_middle 94 = .ok (.invokevirtual 82, 3) := by decide +kernel
theorem d_K_middle_97 : decode b_K_middle 97 = .ok (.iload_n 2, 1) := by decide +kernel
theorem d_K_middle_98 : decode b_K_middle 98 = .ok (.invokestatic 95, 3) := by decide +kernel
theorem d_K_middle_101 : decode b_K_middle 101 = .ok (.lreturn, 1) := by decide +kernel
theorem d_K_isNoPart_0 : decode b_K_isNoPart 0 = .ok (.iload_n 0, 1) := by decide +kernel
theorem d_K_isNoPart_1 : decode b_K_isNoPart 1 = .ok (.ifCond .eq 12, 3) := by decide +kernel
theorem d_K_isNoPart_4 : decode b_K_isNoPart 4 = .ok (.iload_n 0, 1) := by decide +kernel
theorem d_K_isNoPart_5 : decode b_K_isNoPart 5 = .ok (.iconst 1, 1) := by decide +kernel
theorem d_K_isNoPart_6 : decode b_K_isNoPart 6 = .ok (.if_icmp .eq 7, 3) := by decide +kernel
theorem d_K_isNoPart_9 : decode b_K_isNoPart 9 = .ok (.iconst 1, 1) := by decide +kernel
theorem d_K_isNoPart_10 : decode b_K_isNoPart 10 = .ok (.goto 4, 3) := by decide +kernel
theorem d_K_isNoPart_13 : decode b_K_isNoPart 13 = .ok (.iconst 0, 1) := by decide +kernel
theorem d_K_isNoPart_14 : decode b_K_isNoPart 14 = .ok (.ireturn, 1) := by decide +kernel
theorem d_K_partOfFraction_0 : decode b_K_partOfFraction 0 = .ok (.lload_n 2, 1) := by decide +kernel
theorem d_K_partOfFraction_1 : decode b_K_partOfFraction 1 = .ok (.lconst 0, 1) := by decide +kernel
theorem d_K_partOfFraction_2 : decode b_K_partOfFraction 2 = .ok (.lcmp, 1) := by decide +kernel
theorem d_K_partOfFraction_3 : decode b_K_partOfFraction 3 = .ok (.ifCond .ne 7, 3) := by decide +kernel
theorem d_K_partOfFraction_6 : decode b_K_partOfFraction 6 = .ok (.ldc2_w 54, 3) := by decide +kernel
theorem d_K_partOfFraction_9 : decode b_K_partOfFraction 9 = .ok (.lreturn, 1) := by decide +kernel
theorem d_K_partOfFraction_10 : decode b_K_partOfFraction 10 = .ok (.lload_n 0, 1) := by decide +kernel
theorem d_K_partOfFraction_11 : decode b_K_partOfFraction 11 = .ok (.lload_n 2, 1) := by decide +kernel
theorem d_K_partOfFraction_12 : decode b_K_partOfFraction 12 = .ok (.invokestatic 164, 3) := by decide +kernel
theorem d_K_partOfFraction_15 : decode b_K_partOfFraction 15 = .ok (.lstore 5, 2) := by decide +kernel
theorem d_K_partOfFraction_17 : decode b_K_partOfFraction 17 = .ok (.lload 5, 2) := by decide +kernel
theorem d_K_partOfFraction_19 : decode b_K_partOfFraction 19 = .ok (.lconst 0, 1) := by decide +kernel
theorem d_K_partOfFraction_20 : decode b_K_partOfFraction 20 = .ok (.lcmp, 1) := by decide +kernel
theorem d_K_partOfFraction_21 : decode b_K_partOfFraction 21 = .ok (.ifCond .ne 7, 3) := by decide +kernel
theorem d_K_partOfFraction_24 : decode b_K_partOfFraction 24 = .ok (.ldc2_w 54, 3) := by decide +kernel
theorem d_K_partOfFraction_27 : decode b_K_partOfFraction 27 = .ok (.lreturn, 1) := by decide +kernel
theorem d_K_partOfFraction_28 : decode b_K_partOfFraction 28 = .ok (.lload_n 2, 1) := by decide +kernel
theorem d_K_partOfFraction_29 : decode b_K_partOfFraction 29 = .ok (.lconst 0, 1) := by decide +kernel
theorem d_K_partOfFraction_30 : decode b_K_partOfFraction 30 = .ok (.lcmp, 1) := by decide +kernel
theorem d_K_partOfFraction_31 : decode b_K_partOfFraction 31 = .ok (.ifCond .ge 9, 3) := by decide +kernel
theorem d_K_partOfFraction_34 : decode b_K_partOfFraction 34 = .ok (.lload 5, 2) := by decide +kernel
theorem d_K_partOfFraction_36 : decode b_K_partOfFraction 36 = .ok (.lneg, 1) := by decide +kernel
theorem d_K_partOfFraction_37 : decode b_K_partOfFraction 37 = .ok (.goto 5, 3) := by decide +kernel
theorem d_K_partOfFraction_40 : decode b_K_partOfFraction 40 = .ok (.lload 5, 2) := by decide +kernel
theorem d_K_partOfFraction_42 : decode b_K_partOfFraction 42 = .ok (.lstore 7, 2) := by decide +kernel
theorem d_K_partOfFraction_44 : decode b_K_partOfFraction 44 = .ok (.iload 4, 2) := by decide +kernel
theorem d_K_partOfFraction_46 : decode b_K_partOfFraction 46 = .ok (.ifCond .ne 7, 3) := by decide +kernel
theorem d_K_partOfFraction_49 : decode b_K_partOfFraction 49 = .ok (.lload_n 0, 1) := by decide +kernel
theorem d_K_partOfFraction_50 : decode b_K_partOfFraction 50 = .ok (.goto 4, 3) := by decide +kernel
theorem d_K_partOfFraction_53 : decode b_K_partOfFraction 53 = .ok (.lload_n 2, 1) := by decide +kernel
theorem d_K_partOfFraction_54 : decode b_K_partOfFraction 54 = .ok (.lload 7, 2) := by decide +kernel
theorem d_K_partOfFraction_56 : decode b_K_partOfFraction 56 = .ok (.ldiv, 1) := by decide +kernel
theorem d_K_partOfFraction_57 : decode b_K_partOfFraction 57 = .ok (.lreturn, 1) := by decide +kernel
theorem d_K_greatestDivisor_0 : decode b_K_greatestDivisor 0 = .ok (.lload_n 0, 1) := by decide +kernel
theorem d_K_greatestDivisor_1 : decode b_K_greatestDivisor 1 = .ok (.invokestatic 158, 3) := by decide +kernel
theorem d_K_greatestDivisor_4 : decode b_K_greatestDivisor 4 = .ok (.lstore 4, 2) := by decide +kernel
theorem d_K_greatestDivisor_6 : decode b_K_greatestDivisor 6 = .ok (.lload_n 2, 1) := by decide +kernel
theorem d_K_greatestDivisor_7 : decode b_K_greatestDivisor 7 = .ok (.invokestatic 158, 3) := by decide +kernel
theorem d_K_greatestDivisor_10 : decode b_K_greatestDivisor 10 = .ok (.lstore 6, 2) := by decide +kernel
theorem d_K_greatestDivisor_12 : decode b_K_greatestDivisor 12 = .ok (.iconst 0, 1) := by decide +kernel
theorem d_K_greatestDivisor_13 : decode b_K_greatestDivisor 13 = .ok (.istore 8, 2) := by decide +kernel
theorem d_K_greatestDivisor_15 : decode b_K_greatestDivisor 15 = .ok (.iload 8, 2) := by decide +kernel
theorem d_K_greatestDivisor_17 : decode b_K_greatestDivisor 17 = .ok (.bipush 100, 2) := by decide +kernel
theorem d_K_greatestDivisor_19 : decode b_K_greatestDivisor 19 = .ok (.if_icmp .ge 31, 3) := by decide +kernel
theorem d_K_greatestDivisor_22 : decode b_K_greatestDivisor 22 = .ok (.lload 6, 2) := by decide +kernel
theorem d_K_greatestDivisor_24 : decode b_K_greatestDivisor 24 = .ok (.lconst 0, 1) := by decide +kernel
theorem d_K_greatestDivisor_25 : decode b_K_greatestDivisor 25 = .ok (.lcmp, 1) := by decide +kernel
theorem d_K_greatestDivisor_26 : decode b_K_greatestDivisor 26 = .ok (.ifCond .eq 24, 3) := by decide +kernel
theorem d_K_greatestDivisor_29 : decode b_K_greatestDivisor 29 = .ok (.lload 4, 2) := by decide +kernel
theorem d_K_greatestDivisor_31 : decode b_K_greatestDivisor 31 = .ok (.lload 6, 2) := by decide +kernel
theorem d_K_greatestDivisor_33 : decode b_K_greatestDivisor 33 = .ok (.lrem, 1) := by decide +kernel
theorem d_K_greatestDivisor_34 : decode b_K_greatestDivisor 34 = .ok (.lstore 9, 2) := by decide +kernel
theorem d_K_greatestDivisor_36 : decode b_K_greatestDivisor 36 = .ok (.lload 6, 2) := by decide +kernel
theorem d_K_greatestDivisor_38 : decode b_K_greatestDivisor 38 = .ok (.lstore 4, 2) := by decide +kernel
theorem d_K_greatestDivisor_40 : decode b_K_greatestDivisor 40 = .ok (.lload 9, 2) := by decide +kernel
theorem d_K_greatestDivisor_42 : decode b_K_greatestDivisor 42 = .ok (.lstore 6, 2) := by decide +kernel
theorem d_K_greatestDivisor_44 : decode b_K_greatestDivisor 44 = .ok (.iinc 8 1, 3) := by decide +kernel
theorem d_K_greatestDivisor_47 : decode b_K_greatestDivisor 47 = .ok (.goto (-32), 3) := by decide +kernel
theorem d_K_greatestDivisor_50 : decode b_K_greatestDivisor 50 = .ok (.lload 4, 2) := by decide +kernel
theorem d_K_greatestDivisor_52 : decode b_K_greatestDivisor 52 = .ok (.lreturn, 1) := by decide +kernel
theorem d_K_below_0 : decode b_K_below 0 = .ok (.iload_n 1, 1) := by decide +kernel
theorem d_K_below_1 : decode b_K_below 1 = .ok (.i2l, 1) := by decide +kernel
theorem d_K_below_2 : decode b_K_below 2 = .ok (.sipush 2000, 3) := by decide +kernel
theorem d_K_below_5 : decode b_K_below 5 = .ok (.invokestatic 50, 3) := by decide +kernel
theorem d_K_below_8 : decode b_K_below 8 = .ok (.ifCond .ne 14, 3) := by decide +kernel
theorem d_K_below_11 : decode b_K_below 11 = .ok (.iload_n 2, 1) := by decide +kernel
theorem d_K_below_12 : decode b_K_below 12 = .ok (.iconst 1, 1) := by decide +kernel
theorem d_K_below_13 : decode b_K_below 13 = .ok (.if_icmp .lt 9, 3) := by decide +kernel
theorem d_K_below_16 : decode b_K_below 16 = .ok (.iload_n 2, 1) := by decide +kernel
theorem d_K_below_17 : decode b_K_below 17 = .ok (.bipush 100, 2) := by decide +kernel
theorem d_K_below_19 : decode b_K_below 19 = .ok (.if_icmp .le 6, 3) := by decide +kernel
theorem d_K_below_22 : decode b_K_below 22 = .ok (.bipush (-2), 2) := by decide +kernel
theorem d_K_below_24 : decode b_K_below 24 = .ok (.ireturn, 1) := by decide +kernel
theorem d_K_below_25 : decode b_K_below 25 = .ok (.iconst 1, 1) := by decide +kernel
theorem d_K_below_26 : decode b_K_below 26 = .ok (.istore_n 3, 1) := by decide +kernel
theorem d_K_below_27 : decode b_K_below 27 = .ok (.iload_n 3, 1) := by decide +kernel
theorem d_K_below_28 : decode b_K_below 28 = .ok (.aload_n 0, 1) := by decide +kernel
theorem d_K_below_29 : decode b_K_below 29 = .ok (.getfield 7, 3) := by decide +kernel
theorem d_K_below_32 : decode b_K_below 32 = .ok (.if_icmp .gt 65, 3) := by decide +kernel
theorem d_K_below_35 : decode b_K_below 35 = .ok (.iconst 1, 1) := by decide +kernel
theorem d_K_below_36 : decode b_K_below 36 = .ok (.istore 4, 2) := by decide +kernel
theorem d_K_below_38 : decode b_K_below 38 = .ok (.iload 4, 2) := by decide +kernel
theorem d_K_below_40 : decode b_K_below 40 = .ok (.aload_n 0, 1) := by decide +kernel
theorem d_K_below_41 : decode b_K_below 41 = .ok (.getfield 7, 3) := by decide +kernel
theorem d_K_below_44 : decode b_K_below 44 = .ok (.if_icmp .gt 47, 3) := by decide +kernel
theorem d_K_below_47 : decode b_K_below 47 = .ok (.aload_n 0, 1) := by decide +kernel
theorem d_K_below_48 : decode b_K_below 48 = .ok (.getfield 31, 3) := by decide +kernel
theorem d_K_below_51 : decode b_K_below 51 = .ok (.iload_n 3, 1) := by decide +kernel
theorem d_K_below_52 : decode b_K_below 52 = .ok (.iload 4, 2) := by decide +kernel
theorem d_K_below_54 : decode b_K_below 54 = .ok (.invokestatic 56, 3) := by decide +kernel
theorem d_K_below_57 : decode b_K_below 57 = .ok (.iload_n 2, 1) := by decide +kernel
theorem d_K_below_58 : decode b_K_below 58 = .ok (.i2l, 1) := by decide +kernel
theorem d_K_below_59 : decode b_K_below 59 = .ok (.aload_n 0, 1) := by decide +kernel
theorem d_K_below_60 : decode b_K_below 60 = .ok (.getfield 17, 3) := by decide +kernel
theorem d_K_below_63 : decode b_K_below 63 = .ok (.iload_n 3, 1) := by decide +kernel
theorem d_K_below_64 : decode b_K_below 64 = .ok (.iload 4, 2) := by decide +kernel
theorem d_K_below_66 : decode b_K_below 66 = .ok (.invokestatic 56, 3) := by decide +kernel
theorem d_K_below_69 : decode b_K_below 69 = .ok (.laload, 1) := by decide +kernel
theorem d_K_below_70 : decode b_K_below 70 = .ok (.lmul, 1) := by decide +kernel
theorem d_K_below_71 : decode b_K_below 71 = .ok (.iload_n 3, 1) := by decide +kernel
theorem d_K_below_72 : decode b_K_below 72 = .ok (.iload 4, 2) := by decide +kernel
theorem d_K_below_74 : decode b_K_below 74 = .ok (.if_icmp .ne 7, 3) := by decide +kernel
theorem d_K_below_77 : decode b_K_below 77 = .ok (.iload_n 1, 1) := by decide +kernel
theorem d_K_below_78 : decode b_K_below 78 = .ok (.goto 4, 3) := by decide +kernel
theorem d_K_below_81 : decode b_K_below 81 = .ok (.iconst 0, 1) := by decide +kernel
theorem d_K_below_82 : decode b_K_below 82 = .ok (.i2l, 1) := by decide +kernel
theorem d_K_below_83 : decode b_K_below 83 = .ok (.lsub, 1) := by decide +kernel
theorem d_K_below_84 : decode b_K_below 84 = .ok (.lastore, 1) := by decide +kernel
theorem d_K_below_85 : decode b_K_below 85 = .ok (.iinc 4 1, 3) := by decide +kernel
theorem d_K_below_88 : decode b_K_below 88 = .ok (.goto (-50), 3) := by decide +kernel
theorem d_K_below_91 : decode b_K_below 91 = .ok (.iinc 3 1, 3) := by decide +kernel
theorem d_K_below_94 : decode b_K_below 94 = .ok (.goto (-67), 3) := by decide +kernel
theorem d_K_below_97 : decode b_K_below 97 = .ok (.aload_n 0, 1) := by decide +kernel
theorem d_K_below_98 : decode b_K_below 98 = .ok (.getfield 27, 3) := by decide +kernel
theorem d_K_below_101 : decode b_K_below 101 = .ok (.aload_n 0, 1) := by decide +kernel
theorem d_K_below_102 : decode b_K_below 102 = .ok (.getfield 31, 3) := by decide +kernel
theorem d_K_below_105 : decode b_K_below 105 = .ok (.iconst 1, 1) := by decide +kernel
theorem d_K_below_106 : decode b_K_below 106 = .ok (.aload_n 0, 1) := by decide +kernel
theorem d_K_below_107 : decode b_K_below 107 = .ok (.getfield 7, 3) := by decide +kernel
theorem d_K_below_110 : decode b_K_below 110 = .ok (.invokevirtual 64, 3) := by decide +kernel
theorem d_K_below_113 : decode b_K_below 113 = .ok (.aload_n 0, 1) := by decide +kernel
theorem d_K_below_114 : decode b_K_below 114 = .ok (.getfield 27, 3) := by decide +kernel
theorem d_K_below_117 : decode b_K_below 117 = .ok (.invokevirtual 72, 3) := by decide +kernel
theorem d_K_below_120 : decode b_K_below 120 = .ok (.ireturn, 1) := by decide +kernel
theorem d_K_unlike_0 : decode b_K_unlike 0 = .ok (.aload_n 0, 1) := by decide +kernel
theorem d_K_unlike_1 : decode b_K_unlike 1 = .ok (.getfield 27, 3) := by decide +kernel
theorem d_K_unlike_4 : decode b_K_unlike 4 = .ok (.aload_n 0, 1) := by decide +kernel
theorem d_K_unlike_5 : decode b_K_unlike 5 = .ok (.getfield 17, 3) := by decide +kernel
theorem d_K_unlike_8 : decode b_K_unlike 8 = .ok (.iconst 1, 1) := by decide +kernel
theorem d_K_unlike_9 : decode b_K_unlike 9 = .ok (.aload_n 0, 1) := by decide +kernel
theorem d_K_unlike_10 : decode b_K_unlike 10 = .ok (.getfield 7, 3) := by decide +kernel
theorem d_K_unlike_13 : decode b_K_unlike 13 = .ok (.invokevirtual 64, 3) := by decide +kernel
theorem d_K_unlike_16 : decode b_K_unlike 16 = .ok (.aload_n 0, 1) := by decide +kernel
theorem d_K_unlike_17 : decode b_K_unlike 17 = .ok (.getfield 27, 3) := by decide +kernel
theorem d_K_unlike_20 : decode b_K_unlike 20 = .ok (.invokevirtual 106, 3) := by decide +kernel
theorem d_K_unlike_23 : decode b_K_unlike 23 = .ok (.ireturn, 1) := by decide +kernel
theorem d_K_at_0 : decode b_K_at 0 = .ok (.aload_n 0, 1) := by decide +kernel
theorem d_K_at_1 : decode b_K_at 1 = .ok (.iload_n 1, 1) := by decide +kernel
theorem d_K_at_2 : decode b_K_at 2 = .ok (.iload_n 2, 1) := by decide +kernel
theorem d_K_at_3 : decode b_K_at 3 = .ok (.iload_n 3, 1) := by decide +kernel
theorem d_K_at_4 : decode b_K_at 4 = .ok (.iload 4, 2) := by decide +kernel
theorem d_K_at_6 : decode b_K_at 6 = .ok (.invokevirtual 109, 3) := by decide +kernel
theorem d_K_at_9 : decode b_K_at 9 = .ok (.ifCond .ne 6, 3) := by decide +kernel
theorem d_K_at_12 : decode b_K_at 12 = .ok (.bipush (-2), 2) := by decide +kernel
theorem d_K_at_14 : decode b_K_at 14 = .ok (.ireturn, 1) := by decide +kernel
theorem d_K_at_15 : decode b_K_at 15 = .ok (.aload_n 0, 1) := by decide +kernel
theorem d_K_at_16 : decode b_K_at 16 = .ok (.aload_n 0, 1) := by decide +kernel
theorem d_K_at_17 : decode b_K_at 17 = .ok (.getfield 34, 3) := by decide +kernel
theorem d_K_at_20 : decode b_K_at 20 = .ok (.aload_n 0, 1) := by decide +kernel
theorem d_K_at_21 : decode b_K_at 21 = .ok (.getfield 34, 3) := by decide +kernel
theorem d_K_at_24 : decode b_K_at 24 = .ok (.invokevirtual 113, 3) := by decide +kernel
theorem d_K_at_27 : decode b_K_at 27 = .ok (.invokestatic 117, 3) := by decide +kernel
theorem d_K_at_30 : decode b_K_at 30 = .ok (.ireturn, 1) := by decide +kernel
theorem d_K_takePoint_0 : decode b_K_takePoint 0 = .ok (.iload 4, 2) := by decide +kernel
theorem d_K_takePoint_2 : decode b_K_takePoint 2 = .ok (.iconst 1, 1) := by decide +kernel
theorem d_K_takePoint_3 : decode b_K_takePoint 3 = .ok (.if_icmp .lt 10, 3) := by decide +kernel
theorem d_K_takePoint_6 : decode b_K_takePoint 6 = .ok (.iload 4, 2) := by decide +kernel
theorem d_K_takePoint_8 : decode b_K_takePoint 8 = .ok (.bipush 100, 2) := by decide +kernel
theorem d_K_takePoint_10 : decode b_K_takePoint 10 = .ok (.if_icmp .le 5, 3) := by decide +kernel
theorem d_K_takePoint_13 : decode b_K_takePoint 13 = .ok (.iconst 0, 1) := by decide +kernel
theorem d_K_takePoint_14 : decode b_K_takePoint 14 = .ok (.ireturn, 1) := by decide +kernel
theorem d_K_takePoint_15 : decode b_K_takePoint 15 = .ok (.aload_n 0, 1) := by decide +kernel
theorem d_K_takePoint_16 : decode b_K_takePoint 16 = .ok (.aload_n 0, 1) := by decide +kernel
theorem d_K_takePoint_17 : decode b_K_takePoint 17 = .ok (.getfield 34, 3) := by decide +kernel
theorem d_K_takePoint_20 : decode b_K_takePoint 20 = .ok (.iload 4, 2) := by decide +kernel
theorem d_K_takePoint_22 : decode b_K_takePoint 22 = .ok (.i2l, 1) := by decide +kernel
theorem d_K_takePoint_23 : decode b_K_takePoint 23 = .ok (.iload_n 1, 1) := by decide +kernel
theorem d_K_takePoint_24 : decode b_K_takePoint 24 = .ok (.i2l, 1) := by decide +kernel
theorem d_K_takePoint_25 : decode b_K_takePoint 25 = .ok (.iload_n 2, 1) := by decide +kernel
theorem d_K_takePoint_26 : decode b_K_takePoint 26 = .ok (.i2l, 1) := by decide +kernel
theorem d_K_takePoint_27 : decode b_K_takePoint 27 = .ok (.iload_n 3, 1) := by decide +kernel
theorem d_K_takePoint_28 : decode b_K_takePoint 28 = .ok (.i2l, 1) := by decide +kernel
theorem d_K_takePoint_29 : decode b_K_takePoint 29 = .ok (.invokevirtual 129, 3) := by decide +kernel
theorem d_K_takePoint_32 : decode b_K_takePoint 32 = .ok (.aload_n 0, 1) := by decide +kernel
theorem d_K_takePoint_33 : decode b_K_takePoint 33 = .ok (.getfield 34, 3) := by decide +kernel
theorem d_K_takePoint_36 : decode b_K_takePoint 36 = .ok (.sipush 1000, 3) := by decide +kernel
theorem d_K_takePoint_39 : decode b_K_takePoint 39 = .ok (.invokestatic 133, 3) := by decide +kernel
theorem d_K_takePoint_42 : decode b_K_takePoint 42 = .ok (.ifCond .ne 7, 3) := by decide +kernel
theorem d_K_takePoint_45 : decode b_K_takePoint 45 = .ok (.iconst 1, 1) := by decide +kernel
theorem d_K_takePoint_46 : decode b_K_takePoint 46 = .ok (.goto 4, 3) := by decide +kernel
theorem d_K_takePoint_49 : decode b_K_takePoint 49 = .ok (.iconst 0, 1) := by decide +kernel
theorem d_K_takePoint_50 : decode b_K_takePoint 50 = .ok (.ireturn, 1) := by decide +kernel
theorem d_K_setRow_0 : decode b_K_setRow 0 = .ok (.aload_n 1, 1) := by decide +kernel
theorem d_K_setRow_1 : decode b_K_setRow 1 = .ok (.iconst 0, 1) := by decide +kernel
theorem d_K_setRow_2 : decode b_K_setRow 2 = .ok (.lload_n 2, 1) := by decide +kernel
theorem d_K_setRow_3 : decode b_K_setRow 3 = .ok (.lastore, 1) := by decide +kernel
theorem d_K_setRow_4 : decode b_K_setRow 4 = .ok (.aload_n 1, 1) := by decide +kernel
theorem d_K_setRow_5 : decode b_K_setRow 5 = .ok (.iconst 1, 1) := by decide +kernel
theorem d_K_setRow_6 : decode b_K_setRow 6 = .ok (.lload 4, 2) := by decide +kernel
theorem d_K_setRow_8 : decode b_K_setRow 8 = .ok (.lastore, 1) := by decide +kernel
theorem d_K_setRow_9 : decode b_K_setRow 9 = .ok (.aload_n 1, 1) := by decide +kernel
theorem d_K_setRow_10 : decode b_K_setRow 10 = .ok (.iconst 2, 1) := by decide +kernel
theorem d_K_setRow_11 : decode b_K_setRow 11 = .ok (.lload 6, 2) := by decide +kernel
theorem d_K_setRow_13 : decode b_K_setRow 13 = .ok (.lastore, 1) := by decide +kernel
theorem d_K_setRow_14 : decode b_K_setRow 14 = .ok (.aload_n 1, 1) := by decide +kernel
theorem d_K_setRow_15 : decode b_K_setRow 15 = .ok (.iconst 3, 1) := by decide +kernel
theorem d_K_setRow_16 : decode b_K_setRow 16 = .ok (.aload_n 0, 1) := by decide +kernel
theorem d_K_setRow_17 : decode b_K_setRow 17 = .ok (.getfield 7, 3) := by decide +kernel
theorem d_K_setRow_20 : decode b_K_setRow 20 = .ok (.iconst 3, 1) := by decide +kernel
theorem d_K_setRow_21 : decode b_K_setRow 21 = .ok (.if_icmp .ne 8, 3) := by decide +kernel
theorem d_K_setRow_24 : decode b_K_setRow 24 = .ok (.lload 8, 2) := by decide +kernel
theorem d_K_setRow_26 : decode b_K_setRow 26 = .ok (.goto 4, 3) := by decide +kernel
theorem d_K_setRow_29 : decode b_K_setRow 29 = .ok (.lconst 0, 1) := by decide +kernel
theorem d_K_setRow_30 : decode b_K_setRow 30 = .ok (.lastore, 1) := by decide +kernel
theorem d_K_setRow_31 : decode b_K_setRow 31 = .ok (.return_, 1) := by decide +kernel
theorem d_K_isRowBeyond_0 : decode b_K_isRowBeyond 0 = .ok (.iconst 0, 1) := by decide +kernel
theorem d_K_isRowBeyond_1 : decode b_K_isRowBeyond 1 = .ok (.istore_n 2, 1) := by decide +kernel
theorem d_K_isRowBeyond_2 : decode b_K_isRowBeyond 2 = .ok (.iload_n 2, 1) := by decide +kernel
theorem d_K_isRowBeyond_3 : decode b_K_isRowBeyond 3 = .ok (.iconst 4, 1) := by decide +kernel
theorem d_K_isRowBeyond_4 : decode b_K_isRowBeyond 4 = .ok (.if_icmp .ge 21, 3) := by decide +kernel
theorem d_K_isRowBeyond_7 : decode b_K_isRowBeyond 7 = .ok (.aload_n 0, 1) := by decide +kernel
theorem d_K_isRowBeyond_8 : decode b_K_isRowBeyond 8 = .ok (.iload_n 2, 1) := by decide +kernel
theorem d_K_isRowBeyond_9 : decode b_K_isRowBeyond 9 = .ok (.laload, 1) := by decide +kernel
theorem d_K_isRowBeyond_10 : decode b_K_isRowBeyond 10 = .ok (.iload_n 1, 1) := by decide +kernel
theorem d_K_isRowBeyond_11 : decode b_K_isRowBeyond 11 = .ok (.invokestatic 50, 3) := by decide +kernel
theorem d_K_isRowBeyond_14 : decode b_K_isRowBeyond 14 = .ok (.ifCond .eq 5, 3) := by decide +kernel
theorem d_K_isRowBeyond_17 : decode b_K_isRowBeyond 17 = .ok (.iconst 1, 1) := by decide +kernel
theorem d_K_isRowBeyond_18 : decode b_K_isRowBeyond 18 = .ok (.ireturn, 1) := by decide +kernel
theorem d_K_isRowBeyond_19 : decode b_K_isRowBeyond 19 = .ok (.iinc 2 1, 3) := by decide +kernel
theorem d_K_isRowBeyond_22 : decode b_K_isRowBeyond 22 = .ok (.goto (-20), 3) := by decide +kernel
theorem d_K_isRowBeyond_25 : decode b_K_isRowBeyond 25 = .ok (.iconst 0, 1) := by decide +kernel
theorem d_K_isRowBeyond_26 : decode b_K_isRowBeyond 26 = .ok (.ireturn, 1) := by decide +kernel
theorem d_K_formOf_0 : decode b_K_formOf 0 = .ok (.lconst 0, 1) := by decide +kernel
theorem d_K_formOf_1 : decode b_K_formOf 1 = .ok (.lstore_n 3, 1) := by decide +kernel
theorem d_K_formOf_2 : decode b_K_formOf 2 = .ok (.iconst 0, 1) := by decide +kernel
theorem d_K_formOf_3 : decode b_K_formOf 3 = .ok (.istore 5, 2) := by decide +kernel
theorem d_K_formOf_5 : decode b_K_formOf 5 = .ok (.iload 5, 2) := by decide +kernel
theorem d_K_formOf_7 : decode b_K_formOf 7 = .ok (.aload_n 0, 1) := by decide +kernel
theorem d_K_formOf_8 : decode b_K_formOf 8 = .ok (.getfield 7, 3) := by decide +kernel
theorem d_K_formOf_11 : decode b_K_formOf 11 = .ok (.if_icmp .gt 24, 3) := by decide +kernel
theorem d_K_formOf_14 : decode b_K_formOf 14 = .ok (.lload_n 3, 1) := by decide +kernel
theorem d_K_formOf_15 : decode b_K_formOf 15 = .ok (.aload_n 1, 1) := by decide +kernel
theorem d_K_formOf_16 : decode b_K_formOf 16 = .ok (.iload 5, 2) := by decide +kernel
theorem d_K_formOf_18 : decode b_K_formOf 18 = .ok (.laload, 1) := by decide +kernel
theorem d_K_formOf_19 : decode b_K_formOf 19 = .ok (.aload_n 0, 1) := by decide +kernel
theorem d_K_formOf_20 : decode b_K_formOf 20 = .ok (.iload 5, 2) := by decide +kernel
theorem d_K_formOf_22 : decode b_K_formOf 22 = .ok (.aload_n 2, 1) := by decide +kernel
theorem d_K_formOf_23 : decode b_K_formOf 23 = .ok (.invokevirtual 121, 3) := by decide +kernel
theorem d_K_formOf_26 : decode b_K_formOf 26 = .ok (.lmul, 1) := by decide +kernel
theorem d_K_formOf_27 : decode b_K_formOf 27 = .ok (.ladd, 1) := by decide +kernel
theorem d_K_formOf_28 : decode b_K_formOf 28 = .ok (.lstore_n 3, 1) := by decide +kernel
theorem d_K_formOf_29 : decode b_K_formOf 29 = .ok (.iinc 5 1, 3) := by decide +kernel
theorem d_K_formOf_32 : decode b_K_formOf 32 = .ok (.goto (-27), 3) := by decide +kernel
theorem d_K_formOf_35 : decode b_K_formOf 35 = .ok (.lload_n 3, 1) := by decide +kernel
theorem d_K_formOf_36 : decode b_K_formOf 36 = .ok (.lreturn, 1) := by decide +kernel
theorem d_K_rowTimes_0 : decode b_K_rowTimes 0 = .ok (.lconst 0, 1) := by decide +kernel
theorem d_K_rowTimes_1 : decode b_K_rowTimes 1 = .ok (.lstore_n 3, 1) := by decide +kernel
theorem d_K_rowTimes_2 : decode b_K_rowTimes 2 = .ok (.iconst 0, 1) := by decide +kernel
theorem d_K_rowTimes_3 : decode b_K_rowTimes 3 = .ok (.istore 5, 2) := by decide +kernel
theorem d_K_rowTimes_5 : decode b_K_rowTimes 5 = .ok (.iload 5, 2) := by decide +kernel
theorem d_K_rowTimes_7 : decode b_K_rowTimes 7 = .ok (.aload_n 0, 1) := by decide +kernel
theorem d_K_rowTimes_8 : decode b_K_rowTimes 8 = .ok (.getfield 7, 3) := by decide +kernel
theorem d_K_rowTimes_11 : decode b_K_rowTimes 11 = .ok (.if_icmp .gt 28, 3) := by decide +kernel
theorem d_K_rowTimes_14 : decode b_K_rowTimes 14 = .ok (.lload_n 3, 1) := by decide +kernel
theorem d_K_rowTimes_15 : decode b_K_rowTimes 15 = .ok (.aload_n 0, 1) := by decide +kernel
theorem d_K_rowTimes_16 : decode b_K_rowTimes 16 = .ok (.getfield 17, 3) := by decide +kernel
theorem d_K_rowTimes_19 : decode b_K_rowTimes 19 = .ok (.iload_n 1, 1) := by decide +kernel
theorem d_K_rowTimes_20 : decode b_K_rowTimes 20 = .ok (.iload 5, 2) := by decide +kernel
theorem d_K_rowTimes_22 : decode b_K_rowTimes 22 = .ok (.invokestatic 56, 3) := by decide +kernel
theorem d_K_rowTimes_25 : decode b_K_rowTimes 25 = .ok (.laload, 1) := by decide +kernel
theorem d_K_rowTimes_26 : decode b_K_rowTimes 26 = .ok (.aload_n 2, 1) := by decide +kernel
theorem d_K_rowTimes_27 : decode b_K_rowTimes 27 = .ok (.iload 5, 2) := by decide +kernel
theorem d_K_rowTimes_29 : decode b_K_rowTimes 29 = .ok (.laload, 1) := by decide +kernel
theorem d_K_rowTimes_30 : decode b_K_rowTimes 30 = .ok (.lmul, 1) := by decide +kernel
theorem d_K_rowTimes_31 : decode b_K_rowTimes 31 = .ok (.ladd, 1) := by decide +kernel
theorem d_K_rowTimes_32 : decode b_K_rowTimes 32 = .ok (.lstore_n 3, 1) := by decide +kernel
theorem d_K_rowTimes_33 : decode b_K_rowTimes 33 = .ok (.iinc 5 1, 3) := by decide +kernel
theorem d_K_rowTimes_36 : decode b_K_rowTimes 36 = .ok (.goto (-31), 3) := by decide +kernel
theorem d_K_rowTimes_39 : decode b_K_rowTimes 39 = .ok (.lload_n 3, 1) := by decide +kernel
theorem d_K_rowTimes_40 : decode b_K_rowTimes 40 = .ok (.lreturn, 1) := by decide +kernel
theorem d_K_signCode_0 : decode b_K_signCode 0 = .ok (.lload_n 0, 1) := by decide +kernel
theorem d_K_signCode_1 : decode b_K_signCode 1 = .ok (.lconst 0, 1) := by decide +kernel
theorem d_K_signCode_2 : decode b_K_signCode 2 = .ok (.lcmp, 1) := by decide +kernel
theorem d_K_signCode_3 : decode b_K_signCode 3 = .ok (.ifCond .ne 5, 3) := by decide +kernel
theorem d_K_signCode_6 : decode b_K_signCode 6 = .ok (.iconst 1, 1) := by decide +kernel
theorem d_K_signCode_7 : decode b_K_signCode 7 = .ok (.ireturn, 1) := by decide +kernel
theorem d_K_signCode_8 : decode b_K_signCode 8 = .ok (.lload_n 0, 1) := by decide +kernel
theorem d_K_signCode_9 : decode b_K_signCode 9 = .ok (.lconst 0, 1) := by decide +kernel
theorem d_K_signCode_10 : decode b_K_signCode 10 = .ok (.lcmp, 1) := by decide +kernel
theorem d_K_signCode_11 : decode b_K_signCode 11 = .ok (.ifCond .le 7, 3) := by decide +kernel
theorem d_K_signCode_14 : decode b_K_signCode 14 = .ok (.iconst 2, 1) := by decide +kernel
theorem d_K_signCode_15 : decode b_K_signCode 15 = .ok (.goto 4, 3) := by decide +kernel
theorem d_K_signCode_18 : decode b_K_signCode 18 = .ok (.iconst 0, 1) := by decide +kernel
theorem d_K_signCode_19 : decode b_K_signCode 19 = .ok (.ireturn, 1) := by decide +kernel
theorem d_K_polar_0 : decode b_K_polar 0 = .ok (.aload_n 0, 1) := by decide +kernel
theorem d_K_polar_1 : decode b_K_polar 1 = .ok (.iload 5, 2) := by decide +kernel
theorem d_K_polar_3 : decode b_K_polar 3 = .ok (.invokevirtual 46, 3) := by decide +kernel
theorem d_K_polar_6 : decode b_K_polar 6 = .ok (.ifCond .ne 15, 3) := by decide +kernel
theorem d_K_polar_9 : decode b_K_polar 9 = .ok (.aload_n 0, 1) := by decide +kernel
theorem d_K_polar_10 : decode b_K_polar 10 = .ok (.iload_n 1, 1) := by decide +kernel
theorem d_K_polar_11 : decode b_K_polar 11 = .ok (.iload_n 2, 1) := by decide +kernel
theorem d_K_polar_12 : decode b_K_polar 12 = .ok (.iload_n 3, 1) := by decide +kernel
theorem d_K_polar_13 : decode b_K_polar 13 = .ok (.iload 4, 2) := by decide +kernel
theorem d_K_polar_15 : decode b_K_polar 15 = .ok (.invokevirtual 109, 3) := by decide +kernel
theorem d_K_polar_18 : decode b_K_polar 18 = .ok (.ifCond .ne 7, 3) := by decide +kernel
theorem d_K_polar_21 : decode b_K_polar 21 = .ok (.ldc2_w 54, 3) := by decide +kernel
theorem d_K_polar_24 : decode b_K_polar 24 = .ok (.lreturn, 1) := by decide +kernel
theorem d_K_polar_25 : decode b_K_polar 25 = .ok (.iconst 0, 1) := by decide +kernel
theorem d_K_polar_26 : decode b_K_polar 26 = .ok (.istore 6, 2) := by decide +kernel
theorem d_K_polar_28 : decode b_K_polar 28 = .ok (.iload 6, 2) := by decide +kernel
theorem d_K_polar_30 : decode b_K_polar 30 = .ok (.aload_n 0, 1) := by decide +kernel
theorem d_K_polar_31 : decode b_K_polar 31 = .ok (.getfield 7, 3) := by decide +kernel
theorem d_K_polar_34 : decode b_K_polar 34 = .ok (.if_icmp .gt 26, 3) := by decide +kernel
theorem d_K_polar_37 : decode b_K_polar 37 = .ok (.aload_n 0, 1) := by decide +kernel
theorem d_K_polar_38 : decode b_K_polar 38 = .ok (.getfield 37, 3) := by decide +kernel
theorem d_K_polar_41 : decode b_K_polar 41 = .ok (.iload 6, 2) := by decide +kernel
theorem d_K_polar_43 : decode b_K_polar 43 = .ok (.aload_n 0, 1) := by decide +kernel
theorem d_K_polar_44 : decode b_K_polar 44 = .ok (.iload 6, 2) := by decide +kernel
theorem d_K_polar_46 : decode b_K_polar 46 = .ok (.aload_n 0, 1) := by decide +kernel
theorem d_K_polar_47 : decode b_K_polar 47 = .ok (.getfield 34, 3) := by decide +kernel
theorem d_K_polar_50 : decode b_K_polar 50 = .ok (.invokevirtual 121, 3) := by decide +kernel
theorem d_K_polar_53 : decode b_K_polar 53 = .ok (.lastore, 1) := by decide +kernel
theorem d_K_polar_54 : decode b_K_polar 54 = .ok (.iinc 6 1, 3) := by decide +kernel
theorem d_K_polar_57 : decode b_K_polar 57 = .ok (.goto (-29), 3) := by decide +kernel
theorem d_K_polar_60 : decode b_K_polar 60 = .ok (.aload_n 0, 1) := by decide +kernel
theorem d_K_polar_61 : decode b_K_polar 61 = .ok (.getfield 37, 3) := by decide +kernel
theorem d_K_polar_64 : decode b_K_polar 64 = .ok (.aload_n 0, 1) := by decide +kernel
theorem d_K_polar_65 : decode b_K_polar 65 = .ok (.getfield 7, 3) := by decide +kernel
theorem d_K_polar_68 : decode b_K_polar 68 = .ok (.iconst 1, 1) := by decide +kernel
theorem d_K_polar_69 : decode b_K_polar 69 = .ok (.iadd, 1) := by decide +kernel
theorem d_K_polar_70 : decode b_K_polar 70 = .ok (.invokestatic 125, 3) := by decide +kernel
theorem d_K_polar_73 : decode b_K_polar 73 = .ok (.ifCond .eq 13, 3) := by decide +kernel
theorem d_K_polar_76 : decode b_K_polar 76 = .ok (.aload_n 0, 1) := by decide +kernel
theorem d_K_polar_77 : decode b_K_polar 77 = .ok (.getfield 37, 3) := by decide +kernel
theorem d_K_polar_80 : decode b_K_polar 80 = .ok (.iload 5, 2) := by decide +kernel
theorem d_K_polar_82 : decode b_K_polar 82 = .ok (.laload, 1) := by decide +kernel
theorem d_K_polar_83 : decode b_K_polar 83 = .ok (.goto 6, 3) := by decide +kernel
theorem d_K_polar_86 : decode b_K_polar 86 = .ok (.ldc2_w 54, 3) := by decide +kernel
theorem d_K_polar_89 : decode b_K_polar 89 = .ok (.lreturn, 1) := by decide +kernel
theorem d_K_clearDivisor_0 : decode b_K_clearDivisor 0 = .ok (.lconst 0, 1) := by decide +kernel
theorem d_K_clearDivisor_1 : decode b_K_clearDivisor 1 = .ok (.lstore_n 2, 1) := by decide +kernel
theorem d_K_clearDivisor_2 : decode b_K_clearDivisor 2 = .ok (.lconst 0, 1) := by decide +kernel
theorem d_K_clearDivisor_3 : decode b_K_clearDivisor 3 = .ok (.lstore 4, 2) := by decide +kernel
theorem d_K_clearDivisor_5 : decode b_K_clearDivisor 5 = .ok (.iconst 0, 1) := by decide +kernel
theorem d_K_clearDivisor_6 : decode b_K_clearDivisor 6 = .ok (.istore 6, 2) := by decide +kernel
theorem d_K_clearDivisor_8 : decode b_K_clearDivisor 8 = .ok (.iload 6, 2) := by decide +kernel
theorem d_K_clearDivisor_10 : decode b_K_clearDivisor 10 = .ok (.iload_n 1, 1) := by decide +kernel
theorem d_K_clearDivisor_11 : decode b_K_clearDivisor 11 = .ok (.if_icmp .ge 36, 3) := by decide +kernel
theorem d_K_clearDivisor_14 : decode b_K_clearDivisor 14 = .ok (.lload_n 2, 1) := by decide +kernel
theorem d_K_clearDivisor_15 : decode b_K_clearDivisor 15 = .ok (.aload_n 0, 1) := by decide +kernel
theorem d_K_clearDivisor_16 : decode b_K_clearDivisor 16 = .ok (.iload 6, 2) := by decide +kernel
theorem d_K_clearDivisor_18 : decode b_K_clearDivisor 18 = .ok (.laload, 1) := by decide +kernel
theorem d_K_clearDivisor_19 : decode b_K_clearDivisor 19 = .ok (.invokestatic 164, 3) := by decide +kernel
theorem d_K_clearDivisor_22 : decode b_K_clearDivisor 22 = .ok (.lstore_n 2, 1) := by decide +kernel
theorem d_K_clearDivisor_23 : decode b_K_clearDivisor 23 = .ok (.lload 4, 2) := by decide +kernel
theorem d_K_clearDivisor_25 : decode b_K_clearDivisor 25 = .ok (.lconst 0, 1) := by decide +kernel
theorem d_K_clearDivisor_26 : decode b_K_clearDivisor 26 = .ok (.lcmp, 1) := by decide +kernel
theorem d_K_clearDivisor_27 : decode b_K_clearDivisor 27 = .ok (.ifCond .ne 10, 3) := by decide +kernel
theorem d_K_clearDivisor_30 : decode b_K_clearDivisor 30 = .ok (.aload_n 0, 1) := by decide +kernel
theorem d_K_clearDivisor_31 : decode b_K_clearDivisor 31 = .ok (.iload 6, 2) := by decide +kernel
theorem d_K_clearDivisor_33 : decode b_K_clearDivisor 33 = .ok (.laload, 1) := by decide +kernel
theorem d_K_clearDivisor_34 : decode b_K_clearDivisor 34 = .ok (.goto 5, 3) := by decide +kernel
theorem d_K_clearDivisor_37 : decode b_K_clearDivisor 37 = .ok (.lload 4, 2) := by decide +kernel
theorem d_K_clearDivisor_39 : decode b_K_clearDivisor 39 = .ok (.lstore 4, 2) := by decide +kernel
theorem d_K_clearDivisor_41 : decode b_K_clearDivisor 41 = .ok (.iinc 6 1, 3) := by decide +kernel
theorem d_K_clearDivisor_44 : decode b_K_clearDivisor 44 = .ok (.goto (-36), 3) := by decide +kernel
theorem d_K_clearDivisor_47 : decode b_K_clearDivisor 47 = .ok (.lload_n 2, 1) := by decide +kernel
theorem d_K_clearDivisor_48 : decode b_K_clearDivisor 48 = .ok (.lconst 0, 1) := by decide +kernel
theorem d_K_clearDivisor_49 : decode b_K_clearDivisor 49 = .ok (.lcmp, 1) := by decide +kernel
theorem d_K_clearDivisor_50 : decode b_K_clearDivisor 50 = .ok (.ifCond .ne 5, 3) := by decide +kernel
theorem d_K_clearDivisor_53 : decode b_K_clearDivisor 53 = .ok (.iconst 0, 1) := by decide +kernel
theorem d_K_clearDivisor_54 : decode b_K_clearDivisor 54 = .ok (.ireturn, 1) := by decide +kernel
theorem d_K_clearDivisor_55 : decode b_K_clearDivisor 55 = .ok (.lload 4, 2) := by decide +kernel
theorem d_K_clearDivisor_57 : decode b_K_clearDivisor 57 = .ok (.lconst 0, 1) := by decide +kernel
theorem d_K_clearDivisor_58 : decode b_K_clearDivisor 58 = .ok (.lcmp, 1) := by decide +kernel
theorem d_K_clearDivisor_59 : decode b_K_clearDivisor 59 = .ok (.ifCond .ge 8, 3) := by decide +kernel
theorem d_K_clearDivisor_62 : decode b_K_clearDivisor 62 = .ok (.lload_n 2, 1) := by decide +kernel
theorem d_K_clearDivisor_63 : decode b_K_clearDivisor 63 = .ok (.lneg, 1) := by decide +kernel
theorem d_K_clearDivisor_64 : decode b_K_clearDivisor 64 = .ok (.goto 4, 3) := by decide +kernel
theorem d_K_clearDivisor_67 : decode b_K_clearDivisor 67 = .ok (.lload_n 2, 1) := by decide +kernel
theorem d_K_clearDivisor_68 : decode b_K_clearDivisor 68 = .ok (.lstore 6, 2) := by decide +kernel
theorem d_K_clearDivisor_70 : decode b_K_clearDivisor 70 = .ok (.iconst 0, 1) := by decide +kernel
theorem d_K_clearDivisor_71 : decode b_K_clearDivisor 71 = .ok (.istore 8, 2) := by decide +kernel
theorem d_K_clearDivisor_73 : decode b_K_clearDivisor 73 = .ok (.iload 8, 2) := by decide +kernel
theorem d_K_clearDivisor_75 : decode b_K_clearDivisor 75 = .ok (.iload_n 1, 1) := by decide +kernel
theorem d_K_clearDivisor_76 : decode b_K_clearDivisor 76 = .ok (.if_icmp .ge 18, 3) := by decide +kernel
theorem d_K_clearDivisor_79 : decode b_K_clearDivisor 79 = .ok (.aload_n 0, 1) := by decide +kernel
theorem d_K_clearDivisor_80 : decode b_K_clearDivisor 80 = .ok (.iload 8, 2) := by decide +kernel
theorem d_K_clearDivisor_82 : decode b_K_clearDivisor 82 = .ok (.dup2, 1) := by decide +kernel
theorem d_K_clearDivisor_83 : decode b_K_clearDivisor 83 = .ok (.laload, 1) := by decide +kernel
theorem d_K_clearDivisor_84 : decode b_K_clearDivisor 84 = .ok (.lload 6, 2) := by decide +kernel
theorem d_K_clearDivisor_86 : decode b_K_clearDivisor 86 = .ok (.ldiv, 1) := by decide +kernel
theorem d_K_clearDivisor_87 : decode b_K_clearDivisor 87 = .ok (.lastore, 1) := by decide +kernel
theorem d_K_clearDivisor_88 : decode b_K_clearDivisor 88 = .ok (.iinc 8 1, 3) := by decide +kernel
theorem d_K_clearDivisor_91 : decode b_K_clearDivisor 91 = .ok (.goto (-18), 3) := by decide +kernel
theorem d_K_clearDivisor_94 : decode b_K_clearDivisor 94 = .ok (.iconst 1, 1) := by decide +kernel
theorem d_K_clearDivisor_95 : decode b_K_clearDivisor 95 = .ok (.ireturn, 1) := by decide +kernel
theorem d_K_touches_0 : decode b_K_touches 0 = .ok (.aload_n 0, 1) := by decide +kernel
theorem d_K_touches_1 : decode b_K_touches 1 = .ok (.aload_n 0, 1) := by decide +kernel
theorem d_K_touches_2 : decode b_K_touches 2 = .ok (.getfield 34, 3) := by decide +kernel
theorem d_K_touches_5 : decode b_K_touches 5 = .ok (.iload_n 1, 1) := by decide +kernel
theorem d_K_touches_6 : decode b_K_touches 6 = .ok (.i2l, 1) := by decide +kernel
theorem d_K_touches_7 : decode b_K_touches 7 = .ok (.iload_n 2, 1) := by decide +kernel
theorem d_K_touches_8 : decode b_K_touches 8 = .ok (.i2l, 1) := by decide +kernel
theorem d_K_touches_9 : decode b_K_touches 9 = .ok (.iload_n 3, 1) := by decide +kernel
theorem d_K_touches_10 : decode b_K_touches 10 = .ok (.i2l, 1) := by decide +kernel
theorem d_K_touches_11 : decode b_K_touches 11 = .ok (.iload 4, 2) := by decide +kernel
theorem d_K_touches_13 : decode b_K_touches 13 = .ok (.i2l, 1) := by decide +kernel
theorem d_K_touches_14 : decode b_K_touches 14 = .ok (.invokevirtual 129, 3) := by decide +kernel
theorem d_K_touches_17 : decode b_K_touches 17 = .ok (.aload_n 0, 1) := by decide +kernel
theorem d_K_touches_18 : decode b_K_touches 18 = .ok (.getfield 34, 3) := by decide +kernel
theorem d_K_touches_21 : decode b_K_touches 21 = .ok (.bipush 20, 2) := by decide +kernel
theorem d_K_touches_23 : decode b_K_touches 23 = .ok (.invokestatic 133, 3) := by decide +kernel
theorem d_K_touches_26 : decode b_K_touches 26 = .ok (.ifCond .ne 18, 3) := by decide +kernel
theorem d_K_touches_29 : decode b_K_touches 29 = .ok (.aload_n 0, 1) := by decide +kernel
theorem d_K_touches_30 : decode b_K_touches 30 = .ok (.getfield 34, 3) := by decide +kernel
theorem d_K_touches_33 : decode b_K_touches 33 = .ok (.iconst 1, 1) := by decide +kernel
theorem d_K_touches_34 : decode b_K_touches 34 = .ok (.aload_n 0, 1) := by decide +kernel
theorem d_K_touches_35 : decode b_K_touches 35 = .ok (.getfield 7, 3) := by decide +kernel
theorem d_K_touches_38 : decode b_K_touches 38 = .ok (.invokestatic 136, 3) := by decide +kernel
theorem d_K_touches_41 : decode b_K_touches 41 = .ok (.ifCond .eq 6, 3) := by decide +kernel
theorem d_K_touches_44 : decode b_K_touches 44 = .ok (.bipush (-2), 2) := by decide +kernel
theorem d_K_touches_46 : decode b_K_touches 46 = .ok (.ireturn, 1) := by decide +kernel
theorem d_K_touches_47 : decode b_K_touches 47 = .ok (.aload_n 0, 1) := by decide +kernel
theorem d_K_touches_48 : decode b_K_touches 48 = .ok (.getfield 27, 3) := by decide +kernel
theorem d_K_touches_51 : decode b_K_touches 51 = .ok (.aload_n 0, 1) := by decide +kernel
theorem d_K_touches_52 : decode b_K_touches 52 = .ok (.getfield 17, 3) := by decide +kernel
theorem d_K_touches_55 : decode b_K_touches 55 = .ok (.iconst 0, 1) := by decide +kernel
theorem d_K_touches_56 : decode b_K_touches 56 = .ok (.aload_n 0, 1) := by decide +kernel
theorem d_K_touches_57 : decode b_K_touches 57 = .ok (.getfield 7, 3) := by decide +kernel
theorem d_K_touches_60 : decode b_K_touches 60 = .ok (.invokevirtual 64, 3) := by decide +kernel
theorem d_K_touches_63 : decode b_K_touches 63 = .ok (.aload_n 0, 1) := by decide +kernel
theorem d_K_touches_64 : decode b_K_touches 64 = .ok (.getfield 27, 3) := by decide +kernel
theorem d_K_touches_67 : decode b_K_touches 67 = .ok (.invokevirtual 82, 3) := by decide +kernel
theorem d_K_touches_70 : decode b_K_touches 70 = .ok (.lconst 0, 1) := by decide +kernel
theorem d_K_touches_71 : decode b_K_touches 71 = .ok (.lcmp, 1) := by decide +kernel
theorem d_K_touches_72 : decode b_K_touches 72 = .ok (.ifCond .ne 6, 3) := by decide +kernel
theorem d_K_touches_75 : decode b_K_touches 75 = .ok (.bipush (-3), 2) := by decide +kernel
theorem d_K_touches_77 : decode b_K_touches 77 = .ok (.ireturn, 1) := by decide +kernel
theorem d_K_touches_78 : decode b_K_touches 78 = .ok (.lconst 0, 1) := by decide +kernel
theorem d_K_touches_79 : decode b_K_touches 79 = .ok (.lstore 5, 2) := by decide +kernel
theorem d_K_touches_81 : decode b_K_touches 81 = .ok (.iconst 0, 1) := by decide +kernel
theorem d_K_touches_82 : decode b_K_touches 82 = .ok (.istore 7, 2) := by decide +kernel
theorem d_K_touches_84 : decode b_K_touches 84 = .ok (.iload 7, 2) := by decide +kernel
theorem d_K_touches_86 : decode b_K_touches 86 = .ok (.aload_n 0, 1) := by decide +kernel
theorem d_K_touches_87 : decode b_K_touches 87 = .ok (.getfield 7, 3) := by decide +kernel
theorem d_K_touches_90 : decode b_K_touches 90 = .ok (.if_icmp .gt 59, 3) := by decide +kernel
theorem d_K_touches_93 : decode b_K_touches 93 = .ok (.iconst 0, 1) := by decide +kernel
theorem d_K_touches_94 : decode b_K_touches 94 = .ok (.istore 8, 2) := by decide +kernel
theorem d_K_touches_96 : decode b_K_touches 96 = .ok (.iload 8, 2) := by decide +kernel
theorem d_K_touches_98 : decode b_K_touches 98 = .ok (.aload_n 0, 1) := by decide +kernel
theorem d_K_touches_99 : decode b_K_touches 99 = .ok (.getfield 7, 3) := by decide +kernel
theorem d_K_touches_102 : decode b_K_touches 102 = .ok (.if_icmp .gt 41, 3) := by decide +kernel
theorem d_K_touches_105 : decode b_K_touches 105 = .ok (.lload 5, 2) := by decide +kernel
theorem d_K_touches_107 : decode b_K_touches 107 = .ok (.aload_n 0, 1) := by decide +kernel
theorem d_K_touches_108 : decode b_K_touches 108 = .ok (.getfield 34, 3) := by decide +kernel
theorem d_K_touches_111 : decode b_K_touches 111 = .ok (.iload 7, 2) := by decide +kernel
theorem d_K_touches_113 : decode b_K_touches 113 = .ok (.laload, 1) := by decide +kernel
theorem d_K_touches_114 : decode b_K_touches 114 = .ok (.aload_n 0, 1) := by decide +kernel
theorem d_K_touches_115 : decode b_K_touches 115 = .ok (.getfield 27, 3) := by decide +kernel
theorem d_K_touches_118 : decode b_K_touches 118 = .ok (.iload 7, 2) := by decide +kernel
theorem d_K_touches_120 : decode b_K_touches 120 = .ok (.iload 8, 2) := by decide +kernel
theorem d_K_touches_122 : decode b_K_touches 122 = .ok (.invokevirtual 91, 3) := by decide +kernel
theorem d_K_touches_125 : decode b_K_touches 125 = .ok (.lmul, 1) := by decide +kernel
theorem d_K_touches_126 : decode b_K_touches 126 = .ok (.aload_n 0, 1) := by decide +kernel
theorem d_K_touches_127 : decode b_K_touches 127 = .ok (.getfield 34, 3) := by decide +kernel
theorem d_K_touches_130 : decode b_K_touches 130 = .ok (.iload 8, 2) := by decide +kernel
theorem d_K_touches_132 : decode b_K_touches 132 = .ok (.laload, 1) := by decide +kernel
theorem d_K_touches_133 : decode b_K_touches 133 = .ok (.lmul, 1) := by decide +kernel
theorem d_K_touches_134 : decode b_K_touches 134 = .ok (.ladd, 1) := by decide +kernel
theorem d_K_touches_135 : decode b_K_touches 135 = .ok (.lstore 5, 2) := by decide +kernel
theorem d_K_touches_137 : decode b_K_touches 137 = .ok (.iinc 8 1, 3) := by decide +kernel
theorem d_K_touches_140 : decode b_K_touches 140 = .ok (.goto (-44), 3) := by decide +kernel
theorem d_K_touches_143 : decode b_K_touches 143 = .ok (.iinc 7 1, 3) := by decide +kernel
theorem d_K_touches_146 : decode b_K_touches 146 = .ok (.goto (-62), 3) := by decide +kernel
theorem d_K_touches_149 : decode b_K_touches 149 = .ok (.lload 5, 2) := by decide +kernel
theorem d_K_touches_151 : decode b_K_touches 151 = .ok (.lconst 0, 1) := by decide +kernel
theorem d_K_touches_152 : decode b_K_touches 152 = .ok (.lcmp, 1) := by decide +kernel
theorem d_K_touches_153 : decode b_K_touches 153 = .ok (.ifCond .ne 7, 3) := by decide +kernel
theorem d_K_touches_156 : decode b_K_touches 156 = .ok (.iconst 1, 1) := by decide +kernel
theorem d_K_touches_157 : decode b_K_touches 157 = .ok (.goto 4, 3) := by decide +kernel
theorem d_K_touches_160 : decode b_K_touches 160 = .ok (.iconst 0, 1) := by decide +kernel
theorem d_K_touches_161 : decode b_K_touches 161 = .ok (.ireturn, 1) := by decide +kernel
theorem d_K_isAllZero_0 : decode b_K_isAllZero 0 = .ok (.iload_n 1, 1) := by decide +kernel
theorem d_K_isAllZero_1 : decode b_K_isAllZero 1 = .ok (.istore_n 3, 1) := by decide +kernel
theorem d_K_isAllZero_2 : decode b_K_isAllZero 2 = .ok (.iload_n 3, 1) := by decide +kernel
theorem d_K_isAllZero_3 : decode b_K_isAllZero 3 = .ok (.iload_n 2, 1) := by decide +kernel
theorem d_K_isAllZero_4 : decode b_K_isAllZero 4 = .ok (.if_icmp .gt 19, 3) := by decide +kernel
theorem d_K_isAllZero_7 : decode b_K_isAllZero 7 = .ok (.aload_n 0, 1) := by decide +kernel
theorem d_K_isAllZero_8 : decode b_K_isAllZero 8 = .ok (.iload_n 3, 1) := by decide +kernel
theorem d_K_isAllZero_9 : decode b_K_isAllZero 9 = .ok (.laload, 1) := by decide +kernel
theorem d_K_isAllZero_10 : decode b_K_isAllZero 10 = .ok (.lconst 0, 1) := by decide +kernel
theorem d_K_isAllZero_11 : decode b_K_isAllZero 11 = .ok (.lcmp, 1) := by decide +kernel
theorem d_K_isAllZero_12 : decode b_K_isAllZero 12 = .ok (.ifCond .eq 5, 3) := by decide +kernel
theorem d_K_isAllZero_15 : decode b_K_isAllZero 15 = .ok (.iconst 0, 1) := by decide +kernel
theorem d_K_isAllZero_16 : decode b_K_isAllZero 16 = .ok (.ireturn, 1) := by decide +kernel
theorem d_K_isAllZero_17 : decode b_K_isAllZero 17 = .ok (.iinc 3 1, 3) := by decide +kernel
theorem d_K_isAllZero_20 : decode b_K_isAllZero 20 = .ok (.goto (-18), 3) := by decide +kernel
theorem d_K_isAllZero_23 : decode b_K_isAllZero 23 = .ok (.iconst 1, 1) := by decide +kernel
theorem d_K_isAllZero_24 : decode b_K_isAllZero 24 = .ok (.ireturn, 1) := by decide +kernel
theorem d_K_section_0 : decode b_K_section 0 = .ok (.aload_n 0, 1) := by decide +kernel
theorem d_K_section_1 : decode b_K_section 1 = .ok (.getfield 7, 3) := by decide +kernel
theorem d_K_section_4 : decode b_K_section 4 = .ok (.iconst 2, 1) := by decide +kernel
theorem d_K_section_5 : decode b_K_section 5 = .ok (.if_icmp .ne 6, 3) := by decide +kernel
theorem d_K_section_8 : decode b_K_section 8 = .ok (.bipush (-3), 2) := by decide +kernel
theorem d_K_section_10 : decode b_K_section 10 = .ok (.ireturn, 1) := by decide +kernel
theorem d_K_section_11 : decode b_K_section 11 = .ok (.aload_n 0, 1) := by decide +kernel
theorem d_K_section_12 : decode b_K_section 12 = .ok (.aload_n 0, 1) := by decide +kernel
theorem d_K_section_13 : decode b_K_section 13 = .ok (.getfield 34, 3) := by decide +kernel
theorem d_K_section_16 : decode b_K_section 16 = .ok (.iload 4, 2) := by decide +kernel
theorem d_K_section_18 : decode b_K_section 18 = .ok (.i2l, 1) := by decide +kernel
theorem d_K_section_19 : decode b_K_section 19 = .ok (.iload_n 1, 1) := by decide +kernel
theorem d_K_section_20 : decode b_K_section 20 = .ok (.i2l, 1) := by decide +kernel
theorem d_K_section_21 : decode b_K_section 21 = .ok (.iload_n 2, 1) := by decide +kernel
theorem d_K_section_22 : decode b_K_section 22 = .ok (.i2l, 1) := by decide +kernel
theorem d_K_section_23 : decode b_K_section 23 = .ok (.iload_n 3, 1) := by decide +kernel
theorem d_K_section_24 : decode b_K_section 24 = .ok (.i2l, 1) := by decide +kernel
theorem d_K_section_25 : decode b_K_section 25 = .ok (.invokevirtual 129, 3) := by decide +kernel
theorem d_K_section_28 : decode b_K_section 28 = .ok (.aload_n 0, 1) := by decide +kernel
theorem d_K_section_29 : decode b_K_section 29 = .ok (.getfield 34, 3) := by decide +kernel
theorem d_K_section_32 : decode b_K_section 32 = .ok (.bipush 10, 2) := by decide +kernel
theorem d_K_section_34 : decode b_K_section 34 = .ok (.invokestatic 133, 3) := by decide +kernel
theorem d_K_section_37 : decode b_K_section 37 = .ok (.ifCond .ne 18, 3) := by decide +kernel
theorem d_K_section_40 : decode b_K_section 40 = .ok (.aload_n 0, 1) := by decide +kernel
theorem d_K_section_41 : decode b_K_section 41 = .ok (.getfield 34, 3) := by decide +kernel
theorem d_K_section_44 : decode b_K_section 44 = .ok (.iconst 1, 1) := by decide +kernel
theorem d_K_section_45 : decode b_K_section 45 = .ok (.aload_n 0, 1) := by decide +kernel
theorem d_K_section_46 : decode b_K_section 46 = .ok (.getfield 7, 3) := by decide +kernel
theorem d_K_section_49 : decode b_K_section 49 = .ok (.invokestatic 136, 3) := by decide +kernel
theorem d_K_section_52 : decode b_K_section 52 = .ok (.ifCond .eq 6, 3) := by decide +kernel
theorem d_K_section_55 : decode b_K_section 55 = .ok (.bipush (-2), 2) := by decide +kernel
theorem d_K_section_57 : decode b_K_section 57 = .ok (.ireturn, 1) := by decide +kernel
theorem d_K_section_58 : decode b_K_section 58 = .ok (.aload_n 0, 1) := by decide +kernel
theorem d_K_section_59 : decode b_K_section 59 = .ok (.getfield 34, 3) := by decide +kernel
theorem d_K_section_62 : decode b_K_section 62 = .ok (.iconst 0, 1) := by decide +kernel
theorem d_K_section_63 : decode b_K_section 63 = .ok (.aload_n 0, 1) := by decide +kernel
theorem d_K_section_64 : decode b_K_section 64 = .ok (.getfield 34, 3) := by decide +kernel
theorem d_K_section_67 : decode b_K_section 67 = .ok (.iconst 0, 1) := by decide +kernel
theorem d_K_section_68 : decode b_K_section 68 = .ok (.laload, 1) := by decide +kernel
theorem d_K_section_69 : decode b_K_section 69 = .ok (.lneg, 1) := by decide +kernel
theorem d_K_section_70 : decode b_K_section 70 = .ok (.lastore, 1) := by decide +kernel
theorem d_K_section_71 : decode b_K_section 71 = .ok (.aload_n 0, 1) := by decide +kernel
theorem d_K_section_72 : decode b_K_section 72 = .ok (.aload_n 0, 1) := by decide +kernel
theorem d_K_section_73 : decode b_K_section 73 = .ok (.getfield 31, 3) := by decide +kernel
theorem d_K_section_76 : decode b_K_section 76 = .ok (.iload_n 3, 1) := by decide +kernel
theorem d_K_section_77 : decode b_K_section 77 = .ok (.ifCond .eq 7, 3) := by decide +kernel
theorem d_K_section_80 : decode b_K_section 80 = .ok (.iconst 3, 1) := by decide +kernel
theorem d_K_section_81 : decode b_K_section 81 = .ok (.goto 12, 3) := by decide +kernel
theorem d_K_section_84 : decode b_K_section 84 = .ok (.iload_n 2, 1) := by decide +kernel
theorem d_K_section_85 : decode b_K_section 85 = .ok (.ifCond .eq 7, 3) := by decide +kernel
theorem d_K_section_88 : decode b_K_section 88 = .ok (.iconst 2, 1) := by decide +kernel
theorem d_K_section_89 : decode b_K_section 89 = .ok (.goto 4, 3) := by decide +kernel
theorem d_K_section_92 : decode b_K_section 92 = .ok (.iconst 1, 1) := by decide +kernel
theorem d_K_section_93 : decode b_K_section 93 = .ok (.invokevirtual 140, 3) := by decide +kernel
theorem d_K_section_96 : decode b_K_section 96 = .ok (.aload_n 0, 1) := by decide +kernel
theorem d_K_section_97 : decode b_K_section 97 = .ok (.aload_n 0, 1) := by decide +kernel
theorem d_K_section_98 : decode b_K_section 98 = .ok (.getfield 31, 3) := by decide +kernel
theorem d_K_section_101 : decode b_K_section 101 = .ok (.iconst 2, 1) := by decide +kernel
theorem d_K_section_102 : decode b_K_section 102 = .ok (.invokevirtual 60, 3) := by decide +kernel
theorem d_K_section_105 : decode b_K_section 105 = .ok (.ireturn, 1) := by decide +kernel
theorem d_K_cutInto_0 : decode b_K_cutInto 0 = .ok (.iconst 0, 1) := by decide +kernel
theorem d_K_cutInto_1 : decode b_K_cutInto 1 = .ok (.istore_n 3, 1) := by decide +kernel
theorem d_K_cutInto_2 : decode b_K_cutInto 2 = .ok (.iload_n 3, 1) := by decide +kernel
theorem d_K_cutInto_3 : decode b_K_cutInto 3 = .ok (.iconst 3, 1) := by decide +kernel
theorem d_K_cutInto_4 : decode b_K_cutInto 4 = .ok (.if_icmp .ge 64, 3) := by decide +kernel
theorem d_K_cutInto_7 : decode b_K_cutInto 7 = .ok (.iconst 0, 1) := by decide +kernel
theorem d_K_cutInto_8 : decode b_K_cutInto 8 = .ok (.istore 4, 2) := by decide +kernel
theorem d_K_cutInto_10 : decode b_K_cutInto 10 = .ok (.iload 4, 2) := by decide +kernel
theorem d_K_cutInto_12 : decode b_K_cutInto 12 = .ok (.iconst 3, 1) := by decide +kernel
theorem d_K_cutInto_13 : decode b_K_cutInto 13 = .ok (.if_icmp .ge 49, 3) := by decide +kernel
theorem d_K_cutInto_16 : decode b_K_cutInto 16 = .ok (.aload_n 1, 1) := by decide +kernel
theorem d_K_cutInto_17 : decode b_K_cutInto 17 = .ok (.iload_n 3, 1) := by decide +kernel
theorem d_K_cutInto_18 : decode b_K_cutInto 18 = .ok (.iload 4, 2) := by decide +kernel
theorem d_K_cutInto_20 : decode b_K_cutInto 20 = .ok (.invokestatic 56, 3) := by decide +kernel
theorem d_K_cutInto_23 : decode b_K_cutInto 23 = .ok (.aload_n 0, 1) := by decide +kernel
theorem d_K_cutInto_24 : decode b_K_cutInto 24 = .ok (.iload_n 3, 1) := by decide +kernel
theorem d_K_cutInto_25 : decode b_K_cutInto 25 = .ok (.iload_n 2, 1) := by decide +kernel
theorem d_K_cutInto_26 : decode b_K_cutInto 26 = .ok (.if_icmp .ge 7, 3) := by decide +kernel
theorem d_K_cutInto_29 : decode b_K_cutInto 29 = .ok (.iload_n 3, 1) := by decide +kernel
theorem d_K_cutInto_30 : decode b_K_cutInto 30 = .ok (.goto 6, 3) := by decide +kernel
theorem d_K_cutInto_33 : decode b_K_cutInto 33 = .ok (.iload_n 3, 1) := by decide +kernel
theorem d_K_cutInto_34 : decode b_K_cutInto 34 = .ok (.iconst 1, 1) := by decide +kernel
theorem d_K_cutInto_35 : decode b_K_cutInto 35 = .ok (.iadd, 1) := by decide +kernel
theorem d_K_cutInto_36 : decode b_K_cutInto 36 = .ok (.iload 4, 2) := by decide +kernel
theorem d_K_cutInto_38 : decode b_K_cutInto 38 = .ok (.iload_n 2, 1) := by decide +kernel
theorem d_K_cutInto_39 : decode b_K_cutInto 39 = .ok (.if_icmp .ge 8, 3) := by decide +kernel
theorem d_K_cutInto_42 : decode b_K_cutInto 42 = .ok (.iload 4, 2) := by decide +kernel
theorem d_K_cutInto_44 : decode b_K_cutInto 44 = .ok (.goto 7, 3) := by decide +kernel
theorem d_K_cutInto_47 : decode b_K_cutInto 47 = .ok (.iload 4, 2) := by decide +kernel
theorem d_K_cutInto_49 : decode b_K_cutInto 49 = .ok (.iconst 1, 1) := by decide +kernel
theorem d_K_cutInto_50 : decode b_K_cutInto 50 = .ok (.iadd, 1) := by decide +kernel
theorem d_K_cutInto_51 : decode b_K_cutInto 51 = .ok (.iload_n 2, 1) := by decide +kernel
theorem d_K_cutInto_52 : decode b_K_cutInto 52 = .ok (.invokevirtual 178, 3) := by decide +kernel
theorem d_K_cutInto_55 : decode b_K_cutInto 55 = .ok (.lastore, 1) := by decide +kernel
theorem d_K_cutInto_56 : decode b_K_cutInto 56 = .ok (.iinc 4 1, 3) := by decide +kernel
theorem d_K_cutInto_59 : decode b_K_cutInto 59 = .ok (.goto (-49), 3) := by decide +kernel
theorem d_K_cutInto_62 : decode b_K_cutInto 62 = .ok (.iinc 3 1, 3) := by decide +kernel
theorem d_K_cutInto_65 : decode b_K_cutInto 65 = .ok (.goto (-63), 3) := by decide +kernel
theorem d_K_cutInto_68 : decode b_K_cutInto 68 = .ok (.return_, 1) := by decide +kernel
theorem d_K_cutCell_0 : decode b_K_cutCell 0 = .ok (.aload_n 0, 1) := by decide +kernel
theorem d_K_cutCell_1 : decode b_K_cutCell 1 = .ok (.getfield 34, 3) := by decide +kernel
theorem d_K_cutCell_4 : decode b_K_cutCell 4 = .ok (.iload_n 3, 1) := by decide +kernel
theorem d_K_cutCell_5 : decode b_K_cutCell 5 = .ok (.laload, 1) := by decide +kernel
theorem d_K_cutCell_6 : decode b_K_cutCell 6 = .ok (.lstore 4, 2) := by decide +kernel
theorem d_K_cutCell_8 : decode b_K_cutCell 8 = .ok (.lload 4, 2) := by decide +kernel
theorem d_K_cutCell_10 : decode b_K_cutCell 10 = .ok (.lload 4, 2) := by decide +kernel
theorem d_K_cutCell_12 : decode b_K_cutCell 12 = .ok (.lmul, 1) := by decide +kernel
theorem d_K_cutCell_13 : decode b_K_cutCell 13 = .ok (.aload_n 0, 1) := by decide +kernel
theorem d_K_cutCell_14 : decode b_K_cutCell 14 = .ok (.getfield 17, 3) := by decide +kernel
theorem d_K_cutCell_17 : decode b_K_cutCell 17 = .ok (.iload_n 1, 1) := by decide +kernel
theorem d_K_cutCell_18 : decode b_K_cutCell 18 = .ok (.iload_n 2, 1) := by decide +kernel
theorem d_K_cutCell_19 : decode b_K_cutCell 19 = .ok (.invokestatic 56, 3) := by decide +kernel
theorem d_K_cutCell_22 : decode b_K_cutCell 22 = .ok (.laload, 1) := by decide +kernel
theorem d_K_cutCell_23 : decode b_K_cutCell 23 = .ok (.lmul, 1) := by decide +kernel
theorem d_K_cutCell_24 : decode b_K_cutCell 24 = .ok (.lload 4, 2) := by decide +kernel
theorem d_K_cutCell_26 : decode b_K_cutCell 26 = .ok (.aload_n 0, 1) := by decide +kernel
theorem d_K_cutCell_27 : decode b_K_cutCell 27 = .ok (.getfield 34, 3) := by decide +kernel
theorem d_K_cutCell_30 : decode b_K_cutCell 30 = .ok (.iload_n 1, 1) := by decide +kernel
theorem d_K_cutCell_31 : decode b_K_cutCell 31 = .ok (.laload, 1) := by decide +kernel
theorem d_K_cutCell_32 : decode b_K_cutCell 32 = .ok (.lmul, 1) := by decide +kernel
theorem d_K_cutCell_33 : decode b_K_cutCell 33 = .ok (.aload_n 0, 1) := by decide +kernel
theorem d_K_cutCell_34 : decode b_K_cutCell 34 = .ok (.getfield 17, 3) := by decide +kernel
theorem d_K_cutCell_37 : decode b_K_cutCell 37 = .ok (.iload_n 3, 1) := by decide +kernel
theorem d_K_cutCell_38 : decode b_K_cutCell 38 = .ok (.iload_n 2, 1) := by decide +kernel
theorem d_K_cutCell_39 : decode b_K_cutCell 39 = .ok (.invokestatic 56, 3) := by decide +kernel
theorem d_K_cutCell_42 : decode b_K_cutCell 42 = .ok (.laload, 1) := by decide +kernel
theorem d_K_cutCell_43 : decode b_K_cutCell 43 = .ok (.lmul, 1) := by decide +kernel
theorem d_K_cutCell_44 : decode b_K_cutCell 44 = .ok (.lsub, 1) := by decide +kernel
theorem d_K_cutCell_45 : decode b_K_cutCell 45 = .ok (.lload 4, 2) := by decide +kernel
theorem d_K_cutCell_47 : decode b_K_cutCell 47 = .ok (.aload_n 0, 1) := by decide +kernel
theorem d_K_cutCell_48 : decode b_K_cutCell 48 = .ok (.getfield 34, 3) := by decide +kernel
theorem d_K_cutCell_51 : decode b_K_cutCell 51 = .ok (.iload_n 2, 1) := by decide +kernel
theorem d_K_cutCell_52 : decode b_K_cutCell 52 = .ok (.laload, 1) := by decide +kernel
theorem d_K_cutCell_53 : decode b_K_cutCell 53 = .ok (.lmul, 1) := by decide +kernel
theorem d_K_cutCell_54 : decode b_K_cutCell 54 = .ok (.aload_n 0, 1) := by decide +kernel
theorem d_K_cutCell_55 : decode b_K_cutCell 55 = .ok (.getfield 17, 3) := by decide +kernel
theorem d_K_cutCell_58 : decode b_K_cutCell 58 = .ok (.iload_n 1, 1) := by decide +kernel
theorem d_K_cutCell_59 : decode b_K_cutCell 59 = .ok (.iload_n 3, 1) := by decide +kernel
theorem d_K_cutCell_60 : decode b_K_cutCell 60 = .ok (.invokestatic 56, 3) := by decide +kernel
theorem d_K_cutCell_63 : decode b_K_cutCell 63 = .ok (.laload, 1) := by decide +kernel
theorem d_K_cutCell_64 : decode b_K_cutCell 64 = .ok (.lmul, 1) := by decide +kernel
theorem d_K_cutCell_65 : decode b_K_cutCell 65 = .ok (.lsub, 1) := by decide +kernel
theorem d_K_cutCell_66 : decode b_K_cutCell 66 = .ok (.aload_n 0, 1) := by decide +kernel
theorem d_K_cutCell_67 : decode b_K_cutCell 67 = .ok (.getfield 34, 3) := by decide +kernel
theorem d_K_cutCell_70 : decode b_K_cutCell 70 = .ok (.iload_n 1, 1) := by decide +kernel
theorem d_K_cutCell_71 : decode b_K_cutCell 71 = .ok (.laload, 1) := by decide +kernel
theorem d_K_cutCell_72 : decode b_K_cutCell 72 = .ok (.aload_n 0, 1) := by decide +kernel
theorem d_K_cutCell_73 : decode b_K_cutCell 73 = .ok (.getfield 34, 3) := by decide +kernel
theorem d_K_cutCell_76 : decode b_K_cutCell 76 = .ok (.iload_n 2, 1) := by decide +kernel
theorem d_K_cutCell_77 : decode b_K_cutCell 77 = .ok (.laload, 1) := by decide +kernel
theorem d_K_cutCell_78 : decode b_K_cutCell 78 = .ok (.lmul, 1) := by decide +kernel
theorem d_K_cutCell_79 : decode b_K_cutCell 79 = .ok (.aload_n 0, 1) := by decide +kernel
theorem d_K_cutCell_80 : decode b_K_cutCell 80 = .ok (.getfield 17, 3) := by decide +kernel
theorem d_K_cutCell_83 : decode b_K_cutCell 83 = .ok (.iload_n 3, 1) := by decide +kernel
theorem d_K_cutCell_84 : decode b_K_cutCell 84 = .ok (.iload_n 3, 1) := by decide +kernel
theorem d_K_cutCell_85 : decode b_K_cutCell 85 = .ok (.invokestatic 56, 3) := by decide +kernel
theorem d_K_cutCell_88 : decode b_K_cutCell 88 = .ok (.laload, 1) := by decide +kernel
theorem d_K_cutCell_89 : decode b_K_cutCell 89 = .ok (.lmul, 1) := by decide +kernel
theorem d_K_cutCell_90 : decode b_K_cutCell 90 = .ok (.ladd, 1) := by decide +kernel
theorem d_K_cutCell_91 : decode b_K_cutCell 91 = .ok (.lreturn, 1) := by decide +kernel
theorem d_K_meets_0 : decode b_K_meets 0 = .ok (.aload_n 0, 1) := by decide +kernel
theorem d_K_meets_1 : decode b_K_meets 1 = .ok (.aload_n 0, 1) := by decide +kernel
theorem d_K_meets_2 : decode b_K_meets 2 = .ok (.getfield 34, 3) := by decide +kernel
theorem d_K_meets_5 : decode b_K_meets 5 = .ok (.lconst 1, 1) := by decide +kernel
theorem d_K_meets_6 : decode b_K_meets 6 = .ok (.iload_n 1, 1) := by decide +kernel
theorem d_K_meets_7 : decode b_K_meets 7 = .ok (.i2l, 1) := by decide +kernel
theorem d_K_meets_8 : decode b_K_meets 8 = .ok (.iload_n 2, 1) := by decide +kernel
theorem d_K_meets_9 : decode b_K_meets 9 = .ok (.i2l, 1) := by decide +kernel
theorem d_K_meets_10 : decode b_K_meets 10 = .ok (.iload_n 3, 1) := by decide +kernel
theorem d_K_meets_11 : decode b_K_meets 11 = .ok (.i2l, 1) := by decide +kernel
theorem d_K_meets_12 : decode b_K_meets 12 = .ok (.invokevirtual 129, 3) := by decide +kernel
theorem d_K_meets_15 : decode b_K_meets 15 = .ok (.aload_n 0, 1) := by decide +kernel
theorem d_K_meets_16 : decode b_K_meets 16 = .ok (.aload_n 0, 1) := by decide +kernel
theorem d_K_meets_17 : decode b_K_meets 17 = .ok (.getfield 37, 3) := by decide +kernel
theorem d_K_meets_20 : decode b_K_meets 20 = .ok (.lconst 0, 1) := by decide +kernel
theorem d_K_meets_21 : decode b_K_meets 21 = .ok (.iload 4, 2) := by decide +kernel
theorem d_K_meets_23 : decode b_K_meets 23 = .ok (.i2l, 1) := by decide +kernel
theorem d_K_meets_24 : decode b_K_meets 24 = .ok (.iload 5, 2) := by decide +kernel
theorem d_K_meets_26 : decode b_K_meets 26 = .ok (.i2l, 1) := by decide +kernel
theorem d_K_meets_27 : decode b_K_meets 27 = .ok (.iload 6, 2) := by decide +kernel
theorem d_K_meets_29 : decode b_K_meets 29 = .ok (.i2l, 1) := by decide +kernel
theorem d_K_meets_30 : decode b_K_meets 30 = .ok (.invokevirtual 129, 3) := by decide +kernel
theorem d_K_meets_33 : decode b_K_meets 33 = .ok (.aload_n 0, 1) := by decide +kernel
theorem d_K_meets_34 : decode b_K_meets 34 = .ok (.getfield 34, 3) := by decide +kernel
theorem d_K_meets_37 : decode b_K_meets 37 = .ok (.bipush 20, 2) := by decide +kernel
theorem d_K_meets_39 : decode b_K_meets 39 = .ok (.invokestatic 133, 3) := by decide +kernel
theorem d_K_meets_42 : decode b_K_meets 42 = .ok (.ifCond .ne 30, 3) := by decide +kernel
theorem d_K_meets_45 : decode b_K_meets 45 = .ok (.aload_n 0, 1) := by decide +kernel
theorem d_K_meets_46 : decode b_K_meets 46 = .ok (.getfield 37, 3) := by decide +kernel
theorem d_K_meets_49 : decode b_K_meets 49 = .ok (.bipush 20, 2) := by decide +kernel
theorem d_K_meets_51 : decode b_K_meets 51 = .ok (.invokestatic 133, 3) := by decide +kernel
theorem d_K_meets_54 : decode b_K_meets 54 = .ok (.ifCond .ne 18, 3) := by decide +kernel
theorem d_K_meets_57 : decode b_K_meets 57 = .ok (.aload_n 0, 1) := by decide +kernel
theorem d_K_meets_58 : decode b_K_meets 58 = .ok (.getfield 37, 3) := by decide +kernel
theorem d_K_meets_61 : decode b_K_meets 61 = .ok (.iconst 1, 1) := by decide +kernel
theorem d_K_meets_62 : decode b_K_meets 62 = .ok (.aload_n 0, 1) := by decide +kernel
theorem d_K_meets_63 : decode b_K_meets 63 = .ok (.getfield 7, 3) := by decide +kernel
theorem d_K_meets_66 : decode b_K_meets 66 = .ok (.invokestatic 136, 3) := by decide +kernel
theorem d_K_meets_69 : decode b_K_meets 69 = .ok (.ifCond .eq 6, 3) := by decide +kernel
theorem d_K_meets_72 : decode b_K_meets 72 = .ok (.bipush (-2), 2) := by decide +kernel
theorem d_K_meets_74 : decode b_K_meets 74 = .ok (.ireturn, 1) := by decide +kernel
theorem d_K_meets_75 : decode b_K_meets 75 = .ok (.aload_n 0, 1) := by decide +kernel
theorem d_K_meets_76 : decode b_K_meets 76 = .ok (.aload_n 0, 1) := by decide +kernel
theorem d_K_meets_77 : decode b_K_meets 77 = .ok (.getfield 37, 3) := by decide +kernel
theorem d_K_meets_80 : decode b_K_meets 80 = .ok (.aload_n 0, 1) := by decide +kernel
theorem d_K_meets_81 : decode b_K_meets 81 = .ok (.getfield 37, 3) := by decide +kernel
theorem d_K_meets_84 : decode b_K_meets 84 = .ok (.invokevirtual 113, 3) := by decide +kernel
theorem d_K_meets_87 : decode b_K_meets 87 = .ok (.lstore 7, 2) := by decide +kernel
theorem d_K_meets_89 : decode b_K_meets 89 = .ok (.aload_n 0, 1) := by decide +kernel
theorem d_K_meets_90 : decode b_K_meets 90 = .ok (.aload_n 0, 1) := by decide +kernel
theorem d_K_meets_91 : decode b_K_meets 91 = .ok (.getfield 34, 3) := by decide +kernel
theorem d_K_meets_94 : decode b_K_meets 94 = .ok (.aload_n 0, 1) := by decide +kernel
theorem d_K_meets_95 : decode b_K_meets 95 = .ok (.getfield 37, 3) := by decide +kernel
theorem d_K_meets_98 : decode b_K_meets 98 = .ok (.invokevirtual 113, 3) := by decide +kernel
theorem d_K_meets_101 : decode b_K_meets 101 = .ok (.lstore 9, 2) := by decide +kernel
theorem d_K_meets_103 : decode b_K_meets 103 = .ok (.aload_n 0, 1) := by decide +kernel
theorem d_K_meets_104 : decode b_K_meets 104 = .ok (.aload_n 0, 1) := by decide +kernel
theorem d_K_meets_105 : decode b_K_meets 105 = .ok (.getfield 34, 3) := by decide +kernel
theorem d_K_meets_108 : decode b_K_meets 108 = .ok (.aload_n 0, 1) := by decide +kernel
theorem d_K_meets_109 : decode b_K_meets 109 = .ok (.getfield 34, 3) := by decide +kernel
theorem d_K_meets_112 : decode b_K_meets 112 = .ok (.invokevirtual 113, 3) := by decide +kernel
theorem d_K_meets_115 : decode b_K_meets 115 = .ok (.lstore 11, 2) := by decide +kernel
theorem d_K_meets_117 : decode b_K_meets 117 = .ok (.lload 7, 2) := by decide +kernel
theorem d_K_meets_119 : decode b_K_meets 119 = .ok (.lconst 0, 1) := by decide +kernel
theorem d_K_meets_120 : decode b_K_meets 120 = .ok (.lcmp, 1) := by decide +kernel
theorem d_K_meets_121 : decode b_K_meets 121 = .ok (.ifCond .eq 18, 3) := by decide +kernel
theorem d_K_meets_124 : decode b_K_meets 124 = .ok (.lload 9, 2) := by decide +kernel
theorem d_K_meets_126 : decode b_K_meets 126 = .ok (.lload 9, 2) := by decide +kernel
theorem d_K_meets_128 : decode b_K_meets 128 = .ok (.lmul, 1) := by decide +kernel
theorem d_K_meets_129 : decode b_K_meets 129 = .ok (.lload 7, 2) := by decide +kernel
theorem d_K_meets_131 : decode b_K_meets 131 = .ok (.lload 11, 2) := by decide +kernel
theorem d_K_meets_133 : decode b_K_meets 133 = .ok (.lmul, 1) := by decide +kernel
theorem d_K_meets_134 : decode b_K_meets 134 = .ok (.lsub, 1) := by decide +kernel
theorem d_K_meets_135 : decode b_K_meets 135 = .ok (.invokestatic 117, 3) := by decide +kernel
theorem d_K_meets_138 : decode b_K_meets 138 = .ok (.ireturn, 1) := by decide +kernel
theorem d_K_meets_139 : decode b_K_meets 139 = .ok (.lload 9, 2) := by decide +kernel
theorem d_K_meets_141 : decode b_K_meets 141 = .ok (.lconst 0, 1) := by decide +kernel
theorem d_K_meets_142 : decode b_K_meets 142 = .ok (.lcmp, 1) := by decide +kernel
theorem d_K_meets_143 : decode b_K_meets 143 = .ok (.ifCond .eq 5, 3) := by decide +kernel
theorem d_K_meets_146 : decode b_K_meets 146 = .ok (.iconst 1, 1) := by decide +kernel
theorem d_K_meets_147 : decode b_K_meets 147 = .ok (.ireturn, 1) := by decide +kernel
theorem d_K_meets_148 : decode b_K_meets 148 = .ok (.lload 11, 2) := by decide +kernel
theorem d_K_meets_150 : decode b_K_meets 150 = .ok (.lconst 0, 1) := by decide +kernel
theorem d_K_meets_151 : decode b_K_meets 151 = .ok (.lcmp, 1) := by decide +kernel
theorem d_K_meets_152 : decode b_K_meets 152 = .ok (.ifCond .ne 7, 3) := by decide +kernel
theorem d_K_meets_155 : decode b_K_meets 155 = .ok (.iconst 3, 1) := by decide +kernel
theorem d_K_meets_156 : decode b_K_meets 156 = .ok (.goto 4, 3) := by decide +kernel
theorem d_K_meets_159 : decode b_K_meets 159 = .ok (.iconst 0, 1) := by decide +kernel
theorem d_K_meets_160 : decode b_K_meets 160 = .ok (.ireturn, 1) := by decide +kernel
theorem d_K_line_0 : decode b_K_line 0 = .ok (.aload_n 0, 1) := by decide +kernel
theorem d_K_line_1 : decode b_K_line 1 = .ok (.getfield 7, 3) := by decide +kernel
theorem d_K_line_4 : decode b_K_line 4 = .ok (.iconst 2, 1) := by decide +kernel
theorem d_K_line_5 : decode b_K_line 5 = .ok (.if_icmp .ne 21, 3) := by decide +kernel
theorem d_K_line_8 : decode b_K_line 8 = .ok (.iload_n 1, 1) := by decide +kernel
theorem d_K_line_9 : decode b_K_line 9 = .ok (.ifCond .lt 17, 3) := by decide +kernel
theorem d_K_line_12 : decode b_K_line 12 = .ok (.iload_n 1, 1) := by decide +kernel
theorem d_K_line_13 : decode b_K_line 13 = .ok (.iconst 1, 1) := by decide +kernel
theorem d_K_line_14 : decode b_K_line 14 = .ok (.if_icmp .gt 12, 3) := by decide +kernel
theorem d_K_line_17 : decode b_K_line 17 = .ok (.iload_n 2, 1) := by decide +kernel
theorem d_K_line_18 : decode b_K_line 18 = .ok (.ifCond .lt 8, 3) := by decide +kernel
theorem d_K_line_21 : decode b_K_line 21 = .ok (.iload_n 2, 1) := by decide +kernel
theorem d_K_line_22 : decode b_K_line 22 = .ok (.iconst 2, 1) := by decide +kernel
theorem d_K_line_23 : decode b_K_line 23 = .ok (.if_icmp .le 7, 3) := by decide +kernel
theorem d_K_line_26 : decode b_K_line 26 = .ok (.ldc2_w 54, 3) := by decide +kernel
theorem d_K_line_29 : decode b_K_line 29 = .ok (.lreturn, 1) := by decide +kernel
theorem d_K_line_30 : decode b_K_line 30 = .ok (.aload_n 0, 1) := by decide +kernel
theorem d_K_line_31 : decode b_K_line 31 = .ok (.aload_n 0, 1) := by decide +kernel
theorem d_K_line_32 : decode b_K_line 32 = .ok (.aload_n 0, 1) := by decide +kernel
theorem d_K_line_33 : decode b_K_line 33 = .ok (.getfield 17, 3) := by decide +kernel
theorem d_K_line_36 : decode b_K_line 36 = .ok (.aload_n 0, 1) := by decide +kernel
theorem d_K_line_37 : decode b_K_line 37 = .ok (.getfield 7, 3) := by decide +kernel
theorem d_K_line_40 : decode b_K_line 40 = .ok (.invokevirtual 60, 3) := by decide +kernel
theorem d_K_line_43 : decode b_K_line 43 = .ok (.invokevirtual 144, 3) := by decide +kernel
theorem d_K_line_46 : decode b_K_line 46 = .ok (.istore_n 3, 1) := by decide +kernel
theorem d_K_line_47 : decode b_K_line 47 = .ok (.iload_n 1, 1) := by decide +kernel
theorem d_K_line_48 : decode b_K_line 48 = .ok (.iload_n 3, 1) := by decide +kernel
theorem d_K_line_49 : decode b_K_line 49 = .ok (.if_icmp .lt 7, 3) := by decide +kernel
theorem d_K_line_52 : decode b_K_line 52 = .ok (.ldc2_w 54, 3) := by decide +kernel
theorem d_K_line_55 : decode b_K_line 55 = .ok (.lreturn, 1) := by decide +kernel
theorem d_K_line_56 : decode b_K_line 56 = .ok (.iload_n 3, 1) := by decide +kernel
theorem d_K_line_57 : decode b_K_line 57 = .ok (.iconst 1, 1) := by decide +kernel
theorem d_K_line_58 : decode b_K_line 58 = .ok (.if_icmp .eq 26, 3) := by decide +kernel
theorem d_K_line_61 : decode b_K_line 61 = .ok (.iload_n 1, 1) := by decide +kernel
theorem d_K_line_62 : decode b_K_line 62 = .ok (.ifCond .ne 7, 3) := by decide +kernel
theorem d_K_line_65 : decode b_K_line 65 = .ok (.iconst 1, 1) := by decide +kernel
theorem d_K_line_66 : decode b_K_line 66 = .ok (.goto 4, 3) := by decide +kernel
theorem d_K_line_69 : decode b_K_line 69 = .ok (.iconst 0, 1) := by decide +kernel
theorem d_K_line_70 : decode b_K_line 70 = .ok (.aload_n 0, 1) := by decide +kernel
theorem d_K_line_71 : decode b_K_line 71 = .ok (.getfield 34, 3) := by decide +kernel
theorem d_K_line_74 : decode b_K_line 74 = .ok (.aload_n 0, 1) := by decide +kernel
theorem d_K_line_75 : decode b_K_line 75 = .ok (.getfield 37, 3) := by decide +kernel
theorem d_K_line_78 : decode b_K_line 78 = .ok (.invokestatic 148, 3) := by decide +kernel
theorem d_K_line_81 : decode b_K_line 81 = .ok (.if_icmp .ne 7, 3) := by decide +kernel
theorem d_K_line_84 : decode b_K_line 84 = .ok (.iconst 1, 1) := by decide +kernel
theorem d_K_line_85 : decode b_K_line 85 = .ok (.goto 4, 3) := by decide +kernel
theorem d_K_line_88 : decode b_K_line 88 = .ok (.iconst 0, 1) := by decide +kernel
theorem d_K_line_89 : decode b_K_line 89 = .ok (.istore 4, 2) := by decide +kernel
theorem d_K_line_91 : decode b_K_line 91 = .ok (.iload 4, 2) := by decide +kernel
theorem d_K_line_93 : decode b_K_line 93 = .ok (.ifCond .eq 12, 3) := by decide +kernel
theorem d_K_line_96 : decode b_K_line 96 = .ok (.aload_n 0, 1) := by decide +kernel
theorem d_K_line_97 : decode b_K_line 97 = .ok (.getfield 34, 3) := by decide +kernel
theorem d_K_line_100 : decode b_K_line 100 = .ok (.iload_n 2, 1) := by decide +kernel
theorem d_K_line_101 : decode b_K_line 101 = .ok (.laload, 1) := by decide +kernel
theorem d_K_line_102 : decode b_K_line 102 = .ok (.goto 9, 3) := by decide +kernel
theorem d_K_line_105 : decode b_K_line 105 = .ok (.aload_n 0, 1) := by decide +kernel
theorem d_K_line_106 : decode b_K_line 106 = .ok (.getfield 37, 3) := by decide +kernel
theorem d_K_line_109 : decode b_K_line 109 = .ok (.iload_n 2, 1) := by decide +kernel
theorem d_K_line_110 : decode b_K_line 110 = .ok (.laload, 1) := by decide +kernel
theorem d_K_line_111 : decode b_K_line 111 = .ok (.lreturn, 1) := by decide +kernel
theorem d_K_takeLines_0 : decode b_K_takeLines 0 = .ok (.iload_n 1, 1) := by decide +kernel
theorem d_K_takeLines_1 : decode b_K_takeLines 1 = .ok (.tableswitch 160 5 9 #[140, 140, 35, 160, 99], 35) := by decide +kernel
theorem d_K_takeLines_36 : decode b_K_takeLines 36 = .ok (.aload_n 0, 1) := by decide +kernel
theorem d_K_takeLines_37 : decode b_K_takeLines 37 = .ok (.aload_n 0, 1) := by decide +kernel
theorem d_K_takeLines_38 : decode b_K_takeLines 38 = .ok (.getfield 34, 3) := by decide +kernel
theorem d_K_takeLines_41 : decode b_K_takeLines 41 = .ok (.aload_n 0, 1) := by decide +kernel
theorem d_K_takeLines_42 : decode b_K_takeLines 42 = .ok (.getfield 17, 3) := by decide +kernel
theorem d_K_takeLines_45 : decode b_K_takeLines 45 = .ok (.iconst 0, 1) := by decide +kernel
theorem d_K_takeLines_46 : decode b_K_takeLines 46 = .ok (.iconst 0, 1) := by decide +kernel
theorem d_K_takeLines_47 : decode b_K_takeLines 47 = .ok (.invokestatic 56, 3) := by decide +kernel
theorem d_K_takeLines_50 : decode b_K_takeLines 50 = .ok (.laload, 1) := by decide +kernel
theorem d_K_takeLines_51 : decode b_K_takeLines 51 = .ok (.ldc2_w 182, 3) := by decide +kernel
theorem d_K_takeLines_54 : decode b_K_takeLines 54 = .ok (.aload_n 0, 1) := by decide +kernel
theorem d_K_takeLines_55 : decode b_K_takeLines 55 = .ok (.getfield 17, 3) := by decide +kernel
theorem d_K_takeLines_58 : decode b_K_takeLines 58 = .ok (.iconst 0, 1) := by decide +kernel
theorem d_K_takeLines_59 : decode b_K_takeLines 59 = .ok (.iconst 1, 1) := by decide +kernel
theorem d_K_takeLines_60 : decode b_K_takeLines 60 = .ok (.invokestatic 56, 3) := by decide +kernel
theorem d_K_takeLines_63 : decode b_K_takeLines 63 = .ok (.laload, 1) := by decide +kernel
theorem d_K_takeLines_64 : decode b_K_takeLines 64 = .ok (.lmul, 1) := by decide +kernel
theorem d_K_takeLines_65 : decode b_K_takeLines 65 = .ok (.ldc2_w 182, 3) := by decide +kernel
theorem d_K_takeLines_68 : decode b_K_takeLines 68 = .ok (.aload_n 0, 1) := by decide +kernel
theorem d_K_takeLines_69 : decode b_K_takeLines 69 = .ok (.getfield 17, 3) := by decide +kernel
theorem d_K_takeLines_72 : decode b_K_takeLines 72 = .ok (.iconst 0, 1) := by decide +kernel
theorem d_K_takeLines_73 : decode b_K_takeLines 73 = .ok (.iconst 2, 1) := by decide +kernel
theorem d_K_takeLines_74 : decode b_K_takeLines 74 = .ok (.invokestatic 56, 3) := by decide +kernel
theorem d_K_takeLines_77 : decode b_K_takeLines 77 = .ok (.laload, 1) := by decide +kernel
theorem d_K_takeLines_78 : decode b_K_takeLines 78 = .ok (.lmul, 1) := by decide +kernel
theorem d_K_takeLines_79 : decode b_K_takeLines 79 = .ok (.lconst 0, 1) := by decide +kernel
theorem d_K_takeLines_80 : decode b_K_takeLines 80 = .ok (.invokevirtual 129, 3) := by decide +kernel
theorem d_K_takeLines_83 : decode b_K_takeLines 83 = .ok (.aload_n 0, 1) := by decide +kernel
theorem d_K_takeLines_84 : decode b_K_takeLines 84 = .ok (.getfield 34, 3) := by decide +kernel
theorem d_K_takeLines_87 : decode b_K_takeLines 87 = .ok (.iconst 3, 1) := by decide +kernel
theorem d_K_takeLines_88 : decode b_K_takeLines 88 = .ok (.invokestatic 125, 3) := by decide +kernel
theorem d_K_takeLines_91 : decode b_K_takeLines 91 = .ok (.ifCond .eq 7, 3) := by decide +kernel
theorem d_K_takeLines_94 : decode b_K_takeLines 94 = .ok (.iconst 1, 1) := by decide +kernel
theorem d_K_takeLines_95 : decode b_K_takeLines 95 = .ok (.goto 4, 3) := by decide +kernel
theorem d_K_takeLines_98 : decode b_K_takeLines 98 = .ok (.iconst 0, 1) := by decide +kernel
theorem d_K_takeLines_99 : decode b_K_takeLines 99 = .ok (.ireturn, 1) := by decide +kernel
theorem d_K_takeLines_100 : decode b_K_takeLines 100 = .ok (.aload_n 0, 1) := by decide +kernel
theorem d_K_takeLines_101 : decode b_K_takeLines 101 = .ok (.aload_n 0, 1) := by decide +kernel
theorem d_K_takeLines_102 : decode b_K_takeLines 102 = .ok (.getfield 17, 3) := by decide +kernel
theorem d_K_takeLines_105 : decode b_K_takeLines 105 = .ok (.iconst 1, 1) := by decide +kernel
theorem d_K_takeLines_106 : decode b_K_takeLines 106 = .ok (.iconst 1, 1) := by decide +kernel
theorem d_K_takeLines_107 : decode b_K_takeLines 107 = .ok (.invokestatic 56, 3) := by decide +kernel
theorem d_K_takeLines_110 : decode b_K_takeLines 110 = .ok (.laload, 1) := by decide +kernel
theorem d_K_takeLines_111 : decode b_K_takeLines 111 = .ok (.lconst 0, 1) := by decide +kernel
theorem d_K_takeLines_112 : decode b_K_takeLines 112 = .ok (.lcmp, 1) := by decide +kernel
theorem d_K_takeLines_113 : decode b_K_takeLines 113 = .ok (.ifCond .eq 7, 3) := by decide +kernel
theorem d_K_takeLines_116 : decode b_K_takeLines 116 = .ok (.iconst 1, 1) := by decide +kernel
theorem d_K_takeLines_117 : decode b_K_takeLines 117 = .ok (.goto 4, 3) := by decide +kernel
theorem d_K_takeLines_120 : decode b_K_takeLines 120 = .ok (.iconst 2, 1) := by decide +kernel
theorem d_K_takeLines_121 : decode b_K_takeLines 121 = .ok (.invokevirtual 184, 3) := by decide +kernel
theorem d_K_takeLines_124 : decode b_K_takeLines 124 = .ok (.aload_n 0, 1) := by decide +kernel
theorem d_K_takeLines_125 : decode b_K_takeLines 125 = .ok (.getfield 34, 3) := by decide +kernel
theorem d_K_takeLines_128 : decode b_K_takeLines 128 = .ok (.iconst 3, 1) := by decide +kernel
theorem d_K_takeLines_129 : decode b_K_takeLines 129 = .ok (.invokestatic 125, 3) := by decide +kernel
theorem d_K_takeLines_132 : decode b_K_takeLines 132 = .ok (.ifCond .eq 7, 3) := by decide +kernel
theorem d_K_takeLines_135 : decode b_K_takeLines 135 = .ok (.iconst 1, 1) := by decide +kernel
theorem d_K_takeLines_136 : decode b_K_takeLines 136 = .ok (.goto 4, 3) := by decide +kernel
theorem d_K_takeLines_139 : decode b_K_takeLines 139 = .ok (.iconst 0, 1) := by decide +kernel
theorem d_K_takeLines_140 : decode b_K_takeLines 140 = .ok (.ireturn, 1) := by decide +kernel
theorem d_K_takeLines_141 : decode b_K_takeLines 141 = .ok (.aload_n 0, 1) := by decide +kernel
theorem d_K_takeLines_142 : decode b_K_takeLines 142 = .ok (.invokevirtual 188, 3) := by decide +kernel
theorem d_K_takeLines_145 : decode b_K_takeLines 145 = .ok (.ifCond .eq 14, 3) := by decide +kernel
theorem d_K_takeLines_148 : decode b_K_takeLines 148 = .ok (.aload_n 0, 1) := by decide +kernel
theorem d_K_takeLines_149 : decode b_K_takeLines 149 = .ok (.invokevirtual 192, 3) := by decide +kernel
theorem d_K_takeLines_152 : decode b_K_takeLines 152 = .ok (.ifCond .eq 7, 3) := by decide +kernel
theorem d_K_takeLines_155 : decode b_K_takeLines 155 = .ok (.iconst 2, 1) := by decide +kernel
theorem d_K_takeLines_156 : decode b_K_takeLines 156 = .ok (.goto 4, 3) := by decide +kernel
theorem d_K_takeLines_159 : decode b_K_takeLines 159 = .ok (.iconst 0, 1) := by decide +kernel
theorem d_K_takeLines_160 : decode b_K_takeLines 160 = .ok (.ireturn, 1) := by decide +kernel
theorem d_K_takeLines_161 : decode b_K_takeLines 161 = .ok (.iconst 0, 1) := by decide +kernel
theorem d_K_takeLines_162 : decode b_K_takeLines 162 = .ok (.ireturn, 1) := by decide +kernel
theorem d_K_takeFormRow_0 : decode b_K_takeFormRow 0 = .ok (.aload_n 0, 1) := by decide +kernel
theorem d_K_takeFormRow_1 : decode b_K_takeFormRow 1 = .ok (.aload_n 0, 1) := by decide +kernel
theorem d_K_takeFormRow_2 : decode b_K_takeFormRow 2 = .ok (.getfield 34, 3) := by decide +kernel
theorem d_K_takeFormRow_5 : decode b_K_takeFormRow 5 = .ok (.aload_n 0, 1) := by decide +kernel
theorem d_K_takeFormRow_6 : decode b_K_takeFormRow 6 = .ok (.getfield 17, 3) := by decide +kernel
theorem d_K_takeFormRow_9 : decode b_K_takeFormRow 9 = .ok (.iload_n 1, 1) := by decide +kernel
theorem d_K_takeFormRow_10 : decode b_K_takeFormRow 10 = .ok (.iconst 0, 1) := by decide +kernel
theorem d_K_takeFormRow_11 : decode b_K_takeFormRow 11 = .ok (.invokestatic 56, 3) := by decide +kernel
theorem d_K_takeFormRow_14 : decode b_K_takeFormRow 14 = .ok (.laload, 1) := by decide +kernel
theorem d_K_takeFormRow_15 : decode b_K_takeFormRow 15 = .ok (.aload_n 0, 1) := by decide +kernel
theorem d_K_takeFormRow_16 : decode b_K_takeFormRow 16 = .ok (.getfield 17, 3) := by decide +kernel
theorem d_K_takeFormRow_19 : decode b_K_takeFormRow 19 = .ok (.iload_n 1, 1) := by decide +kernel
theorem d_K_takeFormRow_20 : decode b_K_takeFormRow 20 = .ok (.iconst 1, 1) := by decide +kernel
theorem d_K_takeFormRow_21 : decode b_K_takeFormRow 21 = .ok (.invokestatic 56, 3) := by decide +kernel
theorem d_K_takeFormRow_24 : decode b_K_takeFormRow 24 = .ok (.laload, 1) := by decide +kernel
theorem d_K_takeFormRow_25 : decode b_K_takeFormRow 25 = .ok (.aload_n 0, 1) := by decide +kernel
theorem d_K_takeFormRow_26 : decode b_K_takeFormRow 26 = .ok (.getfield 17, 3) := by decide +kernel
theorem d_K_takeFormRow_29 : decode b_K_takeFormRow 29 = .ok (.iload_n 1, 1) := by decide +kernel
theorem d_K_takeFormRow_30 : decode b_K_takeFormRow 30 = .ok (.iconst 2, 1) := by decide +kernel
theorem d_K_takeFormRow_31 : decode b_K_takeFormRow 31 = .ok (.invokestatic 56, 3) := by decide +kernel
theorem d_K_takeFormRow_34 : decode b_K_takeFormRow 34 = .ok (.laload, 1) := by decide +kernel
theorem d_K_takeFormRow_35 : decode b_K_takeFormRow 35 = .ok (.lconst 0, 1) := by decide +kernel
theorem d_K_takeFormRow_36 : decode b_K_takeFormRow 36 = .ok (.invokevirtual 129, 3) := by decide +kernel
theorem d_K_takeFormRow_39 : decode b_K_takeFormRow 39 = .ok (.return_, 1) := by decide +kernel
theorem d_K_joinLines_0 : decode b_K_joinLines 0 = .ok (.aload_n 0, 1) := by decide +kernel
theorem d_K_joinLines_1 : decode b_K_joinLines 1 = .ok (.getfield 27, 3) := by decide +kernel
theorem d_K_joinLines_4 : decode b_K_joinLines 4 = .ok (.aload_n 0, 1) := by decide +kernel
theorem d_K_joinLines_5 : decode b_K_joinLines 5 = .ok (.getfield 17, 3) := by decide +kernel
theorem d_K_joinLines_8 : decode b_K_joinLines 8 = .ok (.iconst 0, 1) := by decide +kernel
theorem d_K_joinLines_9 : decode b_K_joinLines 9 = .ok (.iconst 2, 1) := by decide +kernel
theorem d_K_joinLines_10 : decode b_K_joinLines 10 = .ok (.invokevirtual 64, 3) := by decide +kernel
theorem d_K_joinLines_13 : decode b_K_joinLines 13 = .ok (.iconst 0, 1) := by decide +kernel
theorem d_K_joinLines_14 : decode b_K_joinLines 14 = .ok (.istore_n 1, 1) := by decide +kernel
theorem d_K_joinLines_15 : decode b_K_joinLines 15 = .ok (.iload_n 1, 1) := by decide +kernel
theorem d_K_joinLines_16 : decode b_K_joinLines 16 = .ok (.iconst 2, 1) := by decide +kernel
theorem d_K_joinLines_17 : decode b_K_joinLines 17 = .ok (.if_icmp .ge 23, 3) := by decide +kernel
theorem d_K_joinLines_20 : decode b_K_joinLines 20 = .ok (.aload_n 0, 1) := by decide +kernel
theorem d_K_joinLines_21 : decode b_K_joinLines 21 = .ok (.getfield 27, 3) := by decide +kernel
theorem d_K_joinLines_24 : decode b_K_joinLines 24 = .ok (.iload_n 1, 1) := by decide +kernel
theorem d_K_joinLines_25 : decode b_K_joinLines 25 = .ok (.iload_n 1, 1) := by decide +kernel
theorem d_K_joinLines_26 : decode b_K_joinLines 26 = .ok (.invokevirtual 91, 3) := by decide +kernel
theorem d_K_joinLines_29 : decode b_K_joinLines 29 = .ok (.lconst 0, 1) := by decide +kernel
theorem d_K_joinLines_30 : decode b_K_joinLines 30 = .ok (.lcmp, 1) := by decide +kernel
theorem d_K_joinLines_31 : decode b_K_joinLines 31 = .ok (.ifCond .ne 9, 3) := by decide +kernel
theorem d_K_joinLines_34 : decode b_K_joinLines 34 = .ok (.iinc 1 1, 3) := by decide +kernel
theorem d_K_joinLines_37 : decode b_K_joinLines 37 = .ok (.goto (-22), 3) := by decide +kernel
theorem d_K_joinLines_40 : decode b_K_joinLines 40 = .ok (.aload_n 0, 1) := by decide +kernel
theorem d_K_joinLines_41 : decode b_K_joinLines 41 = .ok (.getfield 27, 3) := by decide +kernel
theorem d_K_joinLines_44 : decode b_K_joinLines 44 = .ok (.iload_n 1, 1) := by decide +kernel
theorem d_K_joinLines_45 : decode b_K_joinLines 45 = .ok (.iload_n 1, 1) := by decide +kernel
theorem d_K_joinLines_46 : decode b_K_joinLines 46 = .ok (.invokevirtual 91, 3) := by decide +kernel
theorem d_K_joinLines_49 : decode b_K_joinLines 49 = .ok (.lneg, 1) := by decide +kernel
theorem d_K_joinLines_50 : decode b_K_joinLines 50 = .ok (.invokestatic 195, 3) := by decide +kernel
theorem d_K_joinLines_53 : decode b_K_joinLines 53 = .ok (.istore_n 2, 1) := by decide +kernel
theorem d_K_joinLines_54 : decode b_K_joinLines 54 = .ok (.iload_n 2, 1) := by decide +kernel
theorem d_K_joinLines_55 : decode b_K_joinLines 55 = .ok (.ifCond .ne 5, 3) := by decide +kernel
theorem d_K_joinLines_58 : decode b_K_joinLines 58 = .ok (.iconst 0, 1) := by decide +kernel
theorem d_K_joinLines_59 : decode b_K_joinLines 59 = .ok (.ireturn, 1) := by decide +kernel
theorem d_K_joinLines_60 : decode b_K_joinLines 60 = .ok (.iconst 0, 1) := by decide +kernel
theorem d_K_joinLines_61 : decode b_K_joinLines 61 = .ok (.istore_n 3, 1) := by decide +kernel
theorem d_K_joinLines_62 : decode b_K_joinLines 62 = .ok (.iload_n 3, 1) := by decide +kernel
theorem d_K_joinLines_63 : decode b_K_joinLines 63 = .ok (.iconst 3, 1) := by decide +kernel
theorem d_K_joinLines_64 : decode b_K_joinLines 64 = .ok (.if_icmp .ge 49, 3) := by decide +kernel
theorem d_K_joinLines_67 : decode b_K_joinLines 67 = .ok (.iconst 0, 1) := by decide +kernel
theorem d_K_joinLines_68 : decode b_K_joinLines 68 = .ok (.istore 4, 2) := by decide +kernel
theorem d_K_joinLines_70 : decode b_K_joinLines 70 = .ok (.iload 4, 2) := by decide +kernel
theorem d_K_joinLines_72 : decode b_K_joinLines 72 = .ok (.iconst 3, 1) := by decide +kernel
theorem d_K_joinLines_73 : decode b_K_joinLines 73 = .ok (.if_icmp .ge 34, 3) := by decide +kernel
theorem d_K_joinLines_76 : decode b_K_joinLines 76 = .ok (.aload_n 0, 1) := by decide +kernel
theorem d_K_joinLines_77 : decode b_K_joinLines 77 = .ok (.getfield 31, 3) := by decide +kernel
theorem d_K_joinLines_80 : decode b_K_joinLines 80 = .ok (.iload_n 3, 1) := by decide +kernel
theorem d_K_joinLines_81 : decode b_K_joinLines 81 = .ok (.iload 4, 2) := by decide +kernel
theorem d_K_joinLines_83 : decode b_K_joinLines 83 = .ok (.invokestatic 56, 3) := by decide +kernel
theorem d_K_joinLines_86 : decode b_K_joinLines 86 = .ok (.iload_n 2, 1) := by decide +kernel
theorem d_K_joinLines_87 : decode b_K_joinLines 87 = .ok (.i2l, 1) := by decide +kernel
theorem d_K_joinLines_88 : decode b_K_joinLines 88 = .ok (.aload_n 0, 1) := by decide +kernel
theorem d_K_joinLines_89 : decode b_K_joinLines 89 = .ok (.getfield 17, 3) := by decide +kernel
theorem d_K_joinLines_92 : decode b_K_joinLines 92 = .ok (.iload_n 3, 1) := by decide +kernel
theorem d_K_joinLines_93 : decode b_K_joinLines 93 = .ok (.iload 4, 2) := by decide +kernel
theorem d_K_joinLines_95 : decode b_K_joinLines 95 = .ok (.invokestatic 56, 3) := by decide +kernel
theorem d_K_joinLines_98 : decode b_K_joinLines 98 = .ok (.laload, 1) := by decide +kernel
theorem d_K_joinLines_99 : decode b_K_joinLines 99 = .ok (.lmul, 1) := by decide +kernel
theorem d_K_joinLines_100 : decode b_K_joinLines 100 = .ok (.lastore, 1) := by decide +kernel
theorem d_K_joinLines_101 : decode b_K_joinLines 101 = .ok (.iinc 4 1, 3) := by decide +kernel
theorem d_K_joinLines_104 : decode b_K_joinLines 104 = .ok (.goto (-34), 3) := by decide +kernel
theorem d_K_joinLines_107 : decode b_K_joinLines 107 = .ok (.iinc 3 1, 3) := by decide +kernel
theorem d_K_joinLines_110 : decode b_K_joinLines 110 = .ok (.goto (-48), 3) := by decide +kernel
theorem d_K_joinLines_113 : decode b_K_joinLines 113 = .ok (.aload_n 0, 1) := by decide +kernel
theorem d_K_joinLines_114 : decode b_K_joinLines 114 = .ok (.aload_n 0, 1) := by decide +kernel
theorem d_K_joinLines_115 : decode b_K_joinLines 115 = .ok (.getfield 27, 3) := by decide +kernel
theorem d_K_joinLines_118 : decode b_K_joinLines 118 = .ok (.iload_n 1, 1) := by decide +kernel
theorem d_K_joinLines_119 : decode b_K_joinLines 119 = .ok (.iconst 0, 1) := by decide +kernel
theorem d_K_joinLines_120 : decode b_K_joinLines 120 = .ok (.invokevirtual 91, 3) := by decide +kernel
theorem d_K_joinLines_123 : decode b_K_joinLines 123 = .ok (.aload_n 0, 1) := by decide +kernel
theorem d_K_joinLines_124 : decode b_K_joinLines 124 = .ok (.getfield 27, 3) := by decide +kernel
theorem d_K_joinLines_127 : decode b_K_joinLines 127 = .ok (.iload_n 1, 1) := by decide +kernel
theorem d_K_joinLines_128 : decode b_K_joinLines 128 = .ok (.iconst 1, 1) := by decide +kernel
theorem d_K_joinLines_129 : decode b_K_joinLines 129 = .ok (.invokevirtual 91, 3) := by decide +kernel
theorem d_K_joinLines_132 : decode b_K_joinLines 132 = .ok (.aload_n 0, 1) := by decide +kernel
theorem d_K_joinLines_133 : decode b_K_joinLines 133 = .ok (.getfield 27, 3) := by decide +kernel
theorem d_K_joinLines_136 : decode b_K_joinLines 136 = .ok (.iload_n 1, 1) := by decide +kernel
theorem d_K_joinLines_137 : decode b_K_joinLines 137 = .ok (.iconst 2, 1) := by decide +kernel
theorem d_K_joinLines_138 : decode b_K_joinLines 138 = .ok (.invokevirtual 91, 3) := by decide +kernel
theorem d_K_joinLines_141 : decode b_K_joinLines 141 = .ok (.invokevirtual 198, 3) := by decide +kernel
theorem d_K_joinLines_144 : decode b_K_joinLines 144 = .ok (.iconst 1, 1) := by decide +kernel
theorem d_K_joinLines_145 : decode b_K_joinLines 145 = .ok (.ireturn, 1) := by decide +kernel
theorem d_K_rootOf_0 : decode b_K_rootOf 0 = .ok (.iconst 1, 1) := by decide +kernel
theorem d_K_rootOf_1 : decode b_K_rootOf 1 = .ok (.istore_n 2, 1) := by decide +kernel
theorem d_K_rootOf_2 : decode b_K_rootOf 2 = .ok (.iload_n 2, 1) := by decide +kernel
theorem d_K_rootOf_3 : decode b_K_rootOf 3 = .ok (.bipush 28, 2) := by decide +kernel
theorem d_K_rootOf_5 : decode b_K_rootOf 5 = .ok (.if_icmp .gt 21, 3) := by decide +kernel
theorem d_K_rootOf_8 : decode b_K_rootOf 8 = .ok (.iload_n 2, 1) := by decide +kernel
theorem d_K_rootOf_9 : decode b_K_rootOf 9 = .ok (.i2l, 1) := by decide +kernel
theorem d_K_rootOf_10 : decode b_K_rootOf 10 = .ok (.iload_n 2, 1) := by decide +kernel
theorem d_K_rootOf_11 : decode b_K_rootOf 11 = .ok (.i2l, 1) := by decide +kernel
theorem d_K_rootOf_12 : decode b_K_rootOf 12 = .ok (.lmul, 1) := by decide +kernel
theorem d_K_rootOf_13 : decode b_K_rootOf 13 = .ok (.lload_n 0, 1) := by decide +kernel
theorem d_K_rootOf_14 : decode b_K_rootOf 14 = .ok (.lcmp, 1) := by decide +kernel
theorem d_K_rootOf_15 : decode b_K_rootOf 15 = .ok (.ifCond .ne 5, 3) := by decide +kernel
theorem d_K_rootOf_18 : decode b_K_rootOf 18 = .ok (.iload_n 2, 1) := by decide +kernel
theorem d_K_rootOf_19 : decode b_K_rootOf 19 = .ok (.ireturn, 1) := by decide +kernel
theorem d_K_rootOf_20 : decode b_K_rootOf 20 = .ok (.iinc 2 1, 3) := by decide +kernel
theorem d_K_rootOf_23 : decode b_K_rootOf 23 = .ok (.goto (-21), 3) := by decide +kernel
theorem d_K_rootOf_26 : decode b_K_rootOf 26 = .ok (.iconst 0, 1) := by decide +kernel
theorem d_K_rootOf_27 : decode b_K_rootOf 27 = .ok (.ireturn, 1) := by decide +kernel
theorem d_K_addCrosswise_0 : decode b_K_addCrosswise 0 = .ok (.aload_n 0, 1) := by decide +kernel
theorem d_K_addCrosswise_1 : decode b_K_addCrosswise 1 = .ok (.getfield 31, 3) := by decide +kernel
theorem d_K_addCrosswise_4 : decode b_K_addCrosswise 4 = .ok (.iconst 0, 1) := by decide +kernel
theorem d_K_addCrosswise_5 : decode b_K_addCrosswise 5 = .ok (.iconst 1, 1) := by decide +kernel
theorem d_K_addCrosswise_6 : decode b_K_addCrosswise 6 = .ok (.invokestatic 56, 3) := by decide +kernel
theorem d_K_addCrosswise_9 : decode b_K_addCrosswise 9 = .ok (.dup2, 1) := by decide +kernel
theorem d_K_addCrosswise_10 : decode b_K_addCrosswise 10 = .ok (.laload, 1) := by decide +kernel
theorem d_K_addCrosswise_11 : decode b_K_addCrosswise 11 = .ok (.lload 5, 2) := by decide +kernel
theorem d_K_addCrosswise_13 : decode b_K_addCrosswise 13 = .ok (.lsub, 1) := by decide +kernel
theorem d_K_addCrosswise_14 : decode b_K_addCrosswise 14 = .ok (.lastore, 1) := by decide +kernel
theorem d_K_addCrosswise_15 : decode b_K_addCrosswise 15 = .ok (.aload_n 0, 1) := by decide +kernel
theorem d_K_addCrosswise_16 : decode b_K_addCrosswise 16 = .ok (.getfield 31, 3) := by decide +kernel
theorem d_K_addCrosswise_19 : decode b_K_addCrosswise 19 = .ok (.iconst 0, 1) := by decide +kernel
theorem d_K_addCrosswise_20 : decode b_K_addCrosswise 20 = .ok (.iconst 2, 1) := by decide +kernel
theorem d_K_addCrosswise_21 : decode b_K_addCrosswise 21 = .ok (.invokestatic 56, 3) := by decide +kernel
theorem d_K_addCrosswise_24 : decode b_K_addCrosswise 24 = .ok (.dup2, 1) := by decide +kernel
theorem d_K_addCrosswise_25 : decode b_K_addCrosswise 25 = .ok (.laload, 1) := by decide +kernel
theorem d_K_addCrosswise_26 : decode b_K_addCrosswise 26 = .ok (.lload_n 3, 1) := by decide +kernel
theorem d_K_addCrosswise_27 : decode b_K_addCrosswise 27 = .ok (.ladd, 1) := by decide +kernel
theorem d_K_addCrosswise_28 : decode b_K_addCrosswise 28 = .ok (.lastore, 1) := by decide +kernel
theorem d_K_addCrosswise_29 : decode b_K_addCrosswise 29 = .ok (.aload_n 0, 1) := by decide +kernel
theorem d_K_addCrosswise_30 : decode b_K_addCrosswise 30 = .ok (.getfield 31, 3) := by decide +kernel
theorem d_K_addCrosswise_33 : decode b_K_addCrosswise 33 = .ok (.iconst 1, 1) := by decide +kernel
theorem d_K_addCrosswise_34 : decode b_K_addCrosswise 34 = .ok (.iconst 0, 1) := by decide +kernel
theorem d_K_addCrosswise_35 : decode b_K_addCrosswise 35 = .ok (.invokestatic 56, 3) := by decide +kernel
theorem d_K_addCrosswise_38 : decode b_K_addCrosswise 38 = .ok (.dup2, 1) := by decide +kernel
theorem d_K_addCrosswise_39 : decode b_K_addCrosswise 39 = .ok (.laload, 1) := by decide +kernel
theorem d_K_addCrosswise_40 : decode b_K_addCrosswise 40 = .ok (.lload 5, 2) := by decide +kernel
theorem d_K_addCrosswise_42 : decode b_K_addCrosswise 42 = .ok (.ladd, 1) := by decide +kernel
theorem d_K_addCrosswise_43 : decode b_K_addCrosswise 43 = .ok (.lastore, 1) := by decide +kernel
theorem d_K_addCrosswise_44 : decode b_K_addCrosswise 44 = .ok (.aload_n 0, 1) := by decide +kernel
theorem d_K_addCrosswise_45 : decode b_K_addCrosswise 45 = .ok (.getfield 31, 3) := by decide +kernel
theorem d_K_addCrosswise_48 : decode b_K_addCrosswise 48 = .ok (.iconst 1, 1) := by decide +kernel
theorem d_K_addCrosswise_49 : decode b_K_addCrosswise 49 = .ok (.iconst 2, 1) := by decide +kernel
theorem d_K_addCrosswise_50 : decode b_K_addCrosswise 50 = .ok (.invokestatic 56, 3) := by decide +kernel
theorem d_K_addCrosswise_53 : decode b_K_addCrosswise 53 = .ok (.dup2, 1) := by decide +kernel
theorem d_K_addCrosswise_54 : decode b_K_addCrosswise 54 = .ok (.laload, 1) := by decide +kernel
theorem d_K_addCrosswise_55 : decode b_K_addCrosswise 55 = .ok (.lload_n 1, 1) := by decide +kernel
theorem d_K_addCrosswise_56 : decode b_K_addCrosswise 56 = .ok (.lsub, 1) := by decide +kernel
theorem d_K_addCrosswise_57 : decode b_K_addCrosswise 57 = .ok (.lastore, 1) := by decide +kernel
theorem d_K_addCrosswise_58 : decode b_K_addCrosswise 58 = .ok (.aload_n 0, 1) := by decide +kernel
theorem d_K_addCrosswise_59 : decode b_K_addCrosswise 59 = .ok (.getfield 31, 3) := by decide +kernel
theorem d_K_addCrosswise_62 : decode b_K_addCrosswise 62 = .ok (.iconst 2, 1) := by decide +kernel
theorem d_K_addCrosswise_63 : decode b_K_addCrosswise 63 = .ok (.iconst 0, 1) := by decide +kernel
theorem d_K_addCrosswise_64 : decode b_K_addCrosswise 64 = .ok (.invokestatic 56, 3) := by decide +kernel
theorem d_K_addCrosswise_67 : decode b_K_addCrosswise 67 = .ok (.dup2, 1) := by decide +kernel
theorem d_K_addCrosswise_68 : decode b_K_addCrosswise 68 = .ok (.laload, 1) := by decide +kernel
theorem d_K_addCrosswise_69 : decode b_K_addCrosswise 69 = .ok (.lload_n 3, 1) := by decide +kernel
theorem d_K_addCrosswise_70 : decode b_K_addCrosswise 70 = .ok (.lsub, 1) := by decide +kernel
theorem d_K_addCrosswise_71 : decode b_K_addCrosswise 71 = .ok (.lastore, 1) := by decide +kernel
theorem d_K_addCrosswise_72 : decode b_K_addCrosswise 72 = .ok (.aload_n 0, 1) := by decide +kernel
theorem d_K_addCrosswise_73 : decode b_K_addCrosswise 73 = .ok (.getfield 31, 3) := by decide +kernel
theorem d_K_addCrosswise_76 : decode b_K_addCrosswise 76 = .ok (.iconst 2, 1) := by decide +kernel
theorem d_K_addCrosswise_77 : decode b_K_addCrosswise 77 = .ok (.iconst 1, 1) := by decide +kernel
theorem d_K_addCrosswise_78 : decode b_K_addCrosswise 78 = .ok (.invokestatic 56, 3) := by decide +kernel
theorem d_K_addCrosswise_81 : decode b_K_addCrosswise 81 = .ok (.dup2, 1) := by decide +kernel
theorem d_K_addCrosswise_82 : decode b_K_addCrosswise 82 = .ok (.laload, 1) := by decide +kernel
theorem d_K_addCrosswise_83 : decode b_K_addCrosswise 83 = .ok (.lload_n 1, 1) := by decide +kernel
theorem d_K_addCrosswise_84 : decode b_K_addCrosswise 84 = .ok (.ladd, 1) := by decide +kernel
theorem d_K_addCrosswise_85 : decode b_K_addCrosswise 85 = .ok (.lastore, 1) := by decide +kernel
theorem d_K_addCrosswise_86 : decode b_K_addCrosswise 86 = .ok (.return_, 1) := by decide +kernel
theorem d_K_readLines_0 : decode b_K_readLines 0 = .ok (.iconst 0, 1) := by decide +kernel
theorem d_K_readLines_1 : decode b_K_readLines 1 = .ok (.istore_n 1, 1) := by decide +kernel
theorem d_K_readLines_2 : decode b_K_readLines 2 = .ok (.iload_n 1, 1) := by decide +kernel
theorem d_K_readLines_3 : decode b_K_readLines 3 = .ok (.iconst 3, 1) := by decide +kernel
theorem d_K_readLines_4 : decode b_K_readLines 4 = .ok (.if_icmp .ge 44, 3) := by decide +kernel
theorem d_K_readLines_7 : decode b_K_readLines 7 = .ok (.iconst 0, 1) := by decide +kernel
theorem d_K_readLines_8 : decode b_K_readLines 8 = .ok (.istore_n 2, 1) := by decide +kernel
theorem d_K_readLines_9 : decode b_K_readLines 9 = .ok (.iload_n 2, 1) := by decide +kernel
theorem d_K_readLines_10 : decode b_K_readLines 10 = .ok (.iconst 3, 1) := by decide +kernel
theorem d_K_readLines_11 : decode b_K_readLines 11 = .ok (.if_icmp .ge 31, 3) := by decide +kernel
theorem d_K_readLines_14 : decode b_K_readLines 14 = .ok (.aload_n 0, 1) := by decide +kernel
theorem d_K_readLines_15 : decode b_K_readLines 15 = .ok (.getfield 31, 3) := by decide +kernel
theorem d_K_readLines_18 : decode b_K_readLines 18 = .ok (.iload_n 1, 1) := by decide +kernel
theorem d_K_readLines_19 : decode b_K_readLines 19 = .ok (.iload_n 2, 1) := by decide +kernel
theorem d_K_readLines_20 : decode b_K_readLines 20 = .ok (.invokestatic 56, 3) := by decide +kernel
theorem d_K_readLines_23 : decode b_K_readLines 23 = .ok (.laload, 1) := by decide +kernel
theorem d_K_readLines_24 : decode b_K_readLines 24 = .ok (.lconst 0, 1) := by decide +kernel
theorem d_K_readLines_25 : decode b_K_readLines 25 = .ok (.lcmp, 1) := by decide +kernel
theorem d_K_readLines_26 : decode b_K_readLines 26 = .ok (.ifCond .eq 10, 3) := by decide +kernel
theorem d_K_readLines_29 : decode b_K_readLines 29 = .ok (.aload_n 0, 1) := by decide +kernel
theorem d_K_readLines_30 : decode b_K_readLines 30 = .ok (.iload_n 1, 1) := by decide +kernel
theorem d_K_readLines_31 : decode b_K_readLines 31 = .ok (.iload_n 2, 1) := by decide +kernel
theorem d_K_readLines_32 : decode b_K_readLines 32 = .ok (.invokevirtual 202, 3) := by decide +kernel
theorem d_K_readLines_35 : decode b_K_readLines 35 = .ok (.ireturn, 1) := by decide +kernel
theorem d_K_readLines_36 : decode b_K_readLines 36 = .ok (.iinc 2 1, 3) := by decide +kernel
theorem d_K_readLines_39 : decode b_K_readLines 39 = .ok (.goto (-30), 3) := by decide +kernel
theorem d_K_readLines_42 : decode b_K_readLines 42 = .ok (.iinc 1 1, 3) := by decide +kernel
theorem d_K_readLines_45 : decode b_K_readLines 45 = .ok (.goto (-43), 3) := by decide +kernel
theorem d_K_readLines_48 : decode b_K_readLines 48 = .ok (.iconst 0, 1) := by decide +kernel
theorem d_K_readLines_49 : decode b_K_readLines 49 = .ok (.ireturn, 1) := by decide +kernel
theorem d_K_readLinesAt_0 : decode b_K_readLinesAt 0 = .ok (.iconst 0, 1) := by decide +kernel
theorem d_K_readLinesAt_1 : decode b_K_readLinesAt 1 = .ok (.istore_n 3, 1) := by decide +kernel
theorem d_K_readLinesAt_2 : decode b_K_readLinesAt 2 = .ok (.iload_n 3, 1) := by decide +kernel
theorem d_K_readLinesAt_3 : decode b_K_readLinesAt 3 = .ok (.iconst 3, 1) := by decide +kernel
theorem d_K_readLinesAt_4 : decode b_K_readLinesAt 4 = .ok (.if_icmp .ge 41, 3) := by decide +kernel
theorem d_K_readLinesAt_7 : decode b_K_readLinesAt 7 = .ok (.aload_n 0, 1) := by decide +kernel
theorem d_K_readLinesAt_8 : decode b_K_readLinesAt 8 = .ok (.getfield 34, 3) := by decide +kernel
theorem d_K_readLinesAt_11 : decode b_K_readLinesAt 11 = .ok (.iload_n 3, 1) := by decide +kernel
theorem d_K_readLinesAt_12 : decode b_K_readLinesAt 12 = .ok (.aload_n 0, 1) := by decide +kernel
theorem d_K_readLinesAt_13 : decode b_K_readLinesAt 13 = .ok (.getfield 31, 3) := by decide +kernel
theorem d_K_readLinesAt_16 : decode b_K_readLinesAt 16 = .ok (.iload_n 1, 1) := by decide +kernel
theorem d_K_readLinesAt_17 : decode b_K_readLinesAt 17 = .ok (.iload_n 3, 1) := by decide +kernel
theorem d_K_readLinesAt_18 : decode b_K_readLinesAt 18 = .ok (.invokestatic 56, 3) := by decide +kernel
theorem d_K_readLinesAt_21 : decode b_K_readLinesAt 21 = .ok (.laload, 1) := by decide +kernel
theorem d_K_readLinesAt_22 : decode b_K_readLinesAt 22 = .ok (.lastore, 1) := by decide +kernel
theorem d_K_readLinesAt_23 : decode b_K_readLinesAt 23 = .ok (.aload_n 0, 1) := by decide +kernel
theorem d_K_readLinesAt_24 : decode b_K_readLinesAt 24 = .ok (.getfield 37, 3) := by decide +kernel
theorem d_K_readLinesAt_27 : decode b_K_readLinesAt 27 = .ok (.iload_n 3, 1) := by decide +kernel
theorem d_K_readLinesAt_28 : decode b_K_readLinesAt 28 = .ok (.aload_n 0, 1) := by decide +kernel
theorem d_K_readLinesAt_29 : decode b_K_readLinesAt 29 = .ok (.getfield 31, 3) := by decide +kernel
theorem d_K_readLinesAt_32 : decode b_K_readLinesAt 32 = .ok (.iload_n 3, 1) := by decide +kernel
theorem d_K_readLinesAt_33 : decode b_K_readLinesAt 33 = .ok (.iload_n 2, 1) := by decide +kernel
theorem d_K_readLinesAt_34 : decode b_K_readLinesAt 34 = .ok (.invokestatic 56, 3) := by decide +kernel
theorem d_K_readLinesAt_37 : decode b_K_readLinesAt 37 = .ok (.laload, 1) := by decide +kernel
theorem d_K_readLinesAt_38 : decode b_K_readLinesAt 38 = .ok (.lastore, 1) := by decide +kernel
theorem d_K_readLinesAt_39 : decode b_K_readLinesAt 39 = .ok (.iinc 3 1, 3) := by decide +kernel
theorem d_K_readLinesAt_42 : decode b_K_readLinesAt 42 = .ok (.goto (-40), 3) := by decide +kernel
theorem d_K_readLinesAt_45 : decode b_K_readLinesAt 45 = .ok (.aload_n 0, 1) := by decide +kernel
theorem d_K_readLinesAt_46 : decode b_K_readLinesAt 46 = .ok (.getfield 34, 3) := by decide +kernel
theorem d_K_readLinesAt_49 : decode b_K_readLinesAt 49 = .ok (.iconst 3, 1) := by decide +kernel
theorem d_K_readLinesAt_50 : decode b_K_readLinesAt 50 = .ok (.invokestatic 125, 3) := by decide +kernel
theorem d_K_readLinesAt_53 : decode b_K_readLinesAt 53 = .ok (.ifCond .eq 18, 3) := by decide +kernel
theorem d_K_readLinesAt_56 : decode b_K_readLinesAt 56 = .ok (.aload_n 0, 1) := by decide +kernel
theorem d_K_readLinesAt_57 : decode b_K_readLinesAt 57 = .ok (.getfield 37, 3) := by decide +kernel
theorem d_K_readLinesAt_60 : decode b_K_readLinesAt 60 = .ok (.iconst 3, 1) := by decide +kernel
theorem d_K_readLinesAt_61 : decode b_K_readLinesAt 61 = .ok (.invokestatic 125, 3) := by decide +kernel
theorem d_K_readLinesAt_64 : decode b_K_readLinesAt 64 = .ok (.ifCond .eq 7, 3) := by decide +kernel
theorem d_K_readLinesAt_67 : decode b_K_readLinesAt 67 = .ok (.iconst 1, 1) := by decide +kernel
theorem d_K_readLinesAt_68 : decode b_K_readLinesAt 68 = .ok (.goto 4, 3) := by decide +kernel
theorem d_K_readLinesAt_71 : decode b_K_readLinesAt 71 = .ok (.iconst 0, 1) := by decide +kernel
theorem d_K_readLinesAt_72 : decode b_K_readLinesAt 72 = .ok (.ireturn, 1) := by decide +kernel
theorem d_K_isLess_0 : decode b_K_isLess 0 = .ok (.iconst 0, 1) := by decide +kernel
theorem d_K_isLess_1 : decode b_K_isLess 1 = .ok (.istore_n 2, 1) := by decide +kernel
theorem d_K_isLess_2 : decode b_K_isLess 2 = .ok (.iload_n 2, 1) := by decide +kernel
theorem d_K_isLess_3 : decode b_K_isLess 3 = .ok (.iconst 3, 1) := by decide +kernel
theorem d_K_isLess_4 : decode b_K_isLess 4 = .ok (.if_icmp .ge 35, 3) := by decide +kernel
theorem d_K_isLess_7 : decode b_K_isLess 7 = .ok (.aload_n 0, 1) := by decide +kernel
theorem d_K_isLess_8 : decode b_K_isLess 8 = .ok (.iload_n 2, 1) := by decide +kernel
theorem d_K_isLess_9 : decode b_K_isLess 9 = .ok (.laload, 1) := by decide +kernel
theorem d_K_isLess_10 : decode b_K_isLess 10 = .ok (.aload_n 1, 1) := by decide +kernel
theorem d_K_isLess_11 : decode b_K_isLess 11 = .ok (.iload_n 2, 1) := by decide +kernel
theorem d_K_isLess_12 : decode b_K_isLess 12 = .ok (.laload, 1) := by decide +kernel
theorem d_K_isLess_13 : decode b_K_isLess 13 = .ok (.lcmp, 1) := by decide +kernel
theorem d_K_isLess_14 : decode b_K_isLess 14 = .ok (.ifCond .eq 19, 3) := by decide +kernel
theorem d_K_isLess_17 : decode b_K_isLess 17 = .ok (.aload_n 0, 1) := by decide +kernel
theorem d_K_isLess_18 : decode b_K_isLess 18 = .ok (.iload_n 2, 1) := by decide +kernel
theorem d_K_isLess_19 : decode b_K_isLess 19 = .ok (.laload, 1) := by decide +kernel
theorem d_K_isLess_20 : decode b_K_isLess 20 = .ok (.aload_n 1, 1) := by decide +kernel
theorem d_K_isLess_21 : decode b_K_isLess 21 = .ok (.iload_n 2, 1) := by decide +kernel
theorem d_K_isLess_22 : decode b_K_isLess 22 = .ok (.laload, 1) := by decide +kernel
theorem d_K_isLess_23 : decode b_K_isLess 23 = .ok (.lcmp, 1) := by decide +kernel
theorem d_K_isLess_24 : decode b_K_isLess 24 = .ok (.ifCond .ge 7, 3) := by decide +kernel
theorem d_K_isLess_27 : decode b_K_isLess 27 = .ok (.iconst 1, 1) := by decide +kernel
theorem d_K_isLess_28 : decode b_K_isLess 28 = .ok (.goto 4, 3) := by decide +kernel
theorem d_K_isLess_31 : decode b_K_isLess 31 = .ok (.iconst 0, 1) := by decide +kernel
theorem d_K_isLess_32 : decode b_K_isLess 32 = .ok (.ireturn, 1) := by decide +kernel
theorem d_K_isLess_33 : decode b_K_isLess 33 = .ok (.iinc 2 1, 3) := by decide +kernel
theorem d_K_isLess_36 : decode b_K_isLess 36 = .ok (.goto (-34), 3) := by decide +kernel
theorem d_K_isLess_39 : decode b_K_isLess 39 = .ok (.iconst 0, 1) := by decide +kernel
theorem d_K_isLess_40 : decode b_K_isLess 40 = .ok (.ireturn, 1) := by decide +kernel
theorem d_K_keep_0 : decode b_K_keep 0 = .ok (.aload_n 0, 1) := by decide +kernel
theorem d_K_keep_1 : decode b_K_keep 1 = .ok (.getfield 17, 3) := by decide +kernel
theorem d_K_keep_4 : decode b_K_keep 4 = .ok (.iconst 0, 1) := by decide +kernel
theorem d_K_keep_5 : decode b_K_keep 5 = .ok (.aload_n 0, 1) := by decide +kernel
theorem d_K_keep_6 : decode b_K_keep 6 = .ok (.getfield 21, 3) := by decide +kernel
theorem d_K_keep_9 : decode b_K_keep 9 = .ok (.iconst 0, 1) := by decide +kernel
theorem d_K_keep_10 : decode b_K_keep 10 = .ok (.bipush 16, 2) := by decide +kernel
theorem d_K_keep_12 : decode b_K_keep 12 = .ok (.invokestatic 152, 3) := by decide +kernel
theorem d_K_keep_15 : decode b_K_keep 15 = .ok (.aload_n 0, 1) := by decide +kernel
theorem d_K_keep_16 : decode b_K_keep 16 = .ok (.iconst 1, 1) := by decide +kernel
theorem d_K_keep_17 : decode b_K_keep 17 = .ok (.putfield 13, 3) := by decide +kernel
theorem d_K_keep_20 : decode b_K_keep 20 = .ok (.aload_n 0, 1) := by decide +kernel
theorem d_K_keep_21 : decode b_K_keep 21 = .ok (.aload_n 0, 1) := by decide +kernel
theorem d_K_keep_22 : decode b_K_keep 22 = .ok (.getfield 17, 3) := by decide +kernel
theorem d_K_keep_25 : decode b_K_keep 25 = .ok (.aload_n 0, 1) := by decide +kernel
theorem d_K_keep_26 : decode b_K_keep 26 = .ok (.getfield 7, 3) := by decide +kernel
theorem d_K_keep_29 : decode b_K_keep 29 = .ok (.invokevirtual 60, 3) := by decide +kernel
theorem d_K_keep_32 : decode b_K_keep 32 = .ok (.ireturn, 1) := by decide +kernel
theorem d_K_alike_0 : decode b_K_alike 0 = .ok (.aload_n 0, 1) := by decide +kernel
theorem d_K_alike_1 : decode b_K_alike 1 = .ok (.getfield 13, 3) := by decide +kernel
theorem d_K_alike_4 : decode b_K_alike 4 = .ok (.ifCond .ne 6, 3) := by decide +kernel
theorem d_K_alike_7 : decode b_K_alike 7 = .ok (.bipush (-3), 2) := by decide +kernel
theorem d_K_alike_9 : decode b_K_alike 9 = .ok (.ireturn, 1) := by decide +kernel
theorem d_K_alike_10 : decode b_K_alike 10 = .ok (.iconst 0, 1) := by decide +kernel
theorem d_K_alike_11 : decode b_K_alike 11 = .ok (.istore_n 1, 1) := by decide +kernel
theorem d_K_alike_12 : decode b_K_alike 12 = .ok (.iload_n 1, 1) := by decide +kernel
theorem d_K_alike_13 : decode b_K_alike 13 = .ok (.bipush 15, 2) := by decide +kernel
theorem d_K_alike_15 : decode b_K_alike 15 = .ok (.if_icmp .ge 31, 3) := by decide +kernel
theorem d_K_alike_18 : decode b_K_alike 18 = .ok (.aload_n 0, 1) := by decide +kernel
theorem d_K_alike_19 : decode b_K_alike 19 = .ok (.getfield 21, 3) := by decide +kernel
theorem d_K_alike_22 : decode b_K_alike 22 = .ok (.iload_n 1, 1) := by decide +kernel
theorem d_K_alike_23 : decode b_K_alike 23 = .ok (.laload, 1) := by decide +kernel
theorem d_K_alike_24 : decode b_K_alike 24 = .ok (.lconst 0, 1) := by decide +kernel
theorem d_K_alike_25 : decode b_K_alike 25 = .ok (.lcmp, 1) := by decide +kernel
theorem d_K_alike_26 : decode b_K_alike 26 = .ok (.ifCond .ne 20, 3) := by decide +kernel
theorem d_K_alike_29 : decode b_K_alike 29 = .ok (.aload_n 0, 1) := by decide +kernel
theorem d_K_alike_30 : decode b_K_alike 30 = .ok (.getfield 17, 3) := by decide +kernel
theorem d_K_alike_33 : decode b_K_alike 33 = .ok (.iload_n 1, 1) := by decide +kernel
theorem d_K_alike_34 : decode b_K_alike 34 = .ok (.laload, 1) := by decide +kernel
theorem d_K_alike_35 : decode b_K_alike 35 = .ok (.lconst 0, 1) := by decide +kernel
theorem d_K_alike_36 : decode b_K_alike 36 = .ok (.lcmp, 1) := by decide +kernel
theorem d_K_alike_37 : decode b_K_alike 37 = .ok (.ifCond .ne 9, 3) := by decide +kernel
theorem d_K_alike_40 : decode b_K_alike 40 = .ok (.iinc 1 1, 3) := by decide +kernel
theorem d_K_alike_43 : decode b_K_alike 43 = .ok (.goto (-31), 3) := by decide +kernel
theorem d_K_alike_46 : decode b_K_alike 46 = .ok (.aload_n 0, 1) := by decide +kernel
theorem d_K_alike_47 : decode b_K_alike 47 = .ok (.getfield 21, 3) := by decide +kernel
theorem d_K_alike_50 : decode b_K_alike 50 = .ok (.iload_n 1, 1) := by decide +kernel
theorem d_K_alike_51 : decode b_K_alike 51 = .ok (.laload, 1) := by decide +kernel
theorem d_K_alike_52 : decode b_K_alike 52 = .ok (.lconst 0, 1) := by decide +kernel
theorem d_K_alike_53 : decode b_K_alike 53 = .ok (.lcmp, 1) := by decide +kernel
theorem d_K_alike_54 : decode b_K_alike 54 = .ok (.ifCond .ne 7, 3) := by decide +kernel
theorem d_K_alike_57 : decode b_K_alike 57 = .ok (.iconst 1, 1) := by decide +kernel
theorem d_K_alike_58 : decode b_K_alike 58 = .ok (.goto 4, 3) := by decide +kernel
theorem d_K_alike_61 : decode b_K_alike 61 = .ok (.iconst 0, 1) := by decide +kernel
theorem d_K_alike_62 : decode b_K_alike 62 = .ok (.aload_n 0, 1) := by decide +kernel
theorem d_K_alike_63 : decode b_K_alike 63 = .ok (.getfield 17, 3) := by decide +kernel
theorem d_K_alike_66 : decode b_K_alike 66 = .ok (.iload_n 1, 1) := by decide +kernel
theorem d_K_alike_67 : decode b_K_alike 67 = .ok (.laload, 1) := by decide +kernel
theorem d_K_alike_68 : decode b_K_alike 68 = .ok (.lconst 0, 1) := by decide +kernel
theorem d_K_alike_69 : decode b_K_alike 69 = .ok (.lcmp, 1) := by decide +kernel
theorem d_K_alike_70 : decode b_K_alike 70 = .ok (.ifCond .ne 7, 3) := by decide +kernel
theorem d_K_alike_73 : decode b_K_alike 73 = .ok (.iconst 1, 1) := by decide +kernel
theorem d_K_alike_74 : decode b_K_alike 74 = .ok (.goto 4, 3) := by decide +kernel
theorem d_K_alike_77 : decode b_K_alike 77 = .ok (.iconst 0, 1) := by decide +kernel
theorem d_K_alike_78 : decode b_K_alike 78 = .ok (.if_icmp .eq 5, 3) := by decide +kernel
theorem d_K_alike_81 : decode b_K_alike 81 = .ok (.iconst 0, 1) := by decide +kernel
theorem d_K_alike_82 : decode b_K_alike 82 = .ok (.ireturn, 1) := by decide +kernel
theorem d_K_alike_83 : decode b_K_alike 83 = .ok (.iconst 0, 1) := by decide +kernel
theorem d_K_alike_84 : decode b_K_alike 84 = .ok (.istore_n 2, 1) := by decide +kernel
theorem d_K_alike_85 : decode b_K_alike 85 = .ok (.iload_n 2, 1) := by decide +kernel
theorem d_K_alike_86 : decode b_K_alike 86 = .ok (.bipush 16, 2) := by decide +kernel
theorem d_K_alike_88 : decode b_K_alike 88 = .ok (.if_icmp .ge 41, 3) := by decide +kernel
theorem d_K_alike_91 : decode b_K_alike 91 = .ok (.aload_n 0, 1) := by decide +kernel
theorem d_K_alike_92 : decode b_K_alike 92 = .ok (.getfield 17, 3) := by decide +kernel
theorem d_K_alike_95 : decode b_K_alike 95 = .ok (.iload_n 2, 1) := by decide +kernel
theorem d_K_alike_96 : decode b_K_alike 96 = .ok (.laload, 1) := by decide +kernel
theorem d_K_alike_97 : decode b_K_alike 97 = .ok (.aload_n 0, 1) := by decide +kernel
theorem d_K_alike_98 : decode b_K_alike 98 = .ok (.getfield 21, 3) := by decide +kernel
theorem d_K_alike_101 : decode b_K_alike 101 = .ok (.iload_n 1, 1) := by decide +kernel
theorem d_K_alike_102 : decode b_K_alike 102 = .ok (.laload, 1) := by decide +kernel
theorem d_K_alike_103 : decode b_K_alike 103 = .ok (.lmul, 1) := by decide +kernel
theorem d_K_alike_104 : decode b_K_alike 104 = .ok (.aload_n 0, 1) := by decide +kernel
theorem d_K_alike_105 : decode b_K_alike 105 = .ok (.getfield 21, 3) := by decide +kernel
theorem d_K_alike_108 : decode b_K_alike 108 = .ok (.iload_n 2, 1) := by decide +kernel
theorem d_K_alike_109 : decode b_K_alike 109 = .ok (.laload, 1) := by decide +kernel
theorem d_K_alike_110 : decode b_K_alike 110 = .ok (.aload_n 0, 1) := by decide +kernel
theorem d_K_alike_111 : decode b_K_alike 111 = .ok (.getfield 17, 3) := by decide +kernel
theorem d_K_alike_114 : decode b_K_alike 114 = .ok (.iload_n 1, 1) := by decide +kernel
theorem d_K_alike_115 : decode b_K_alike 115 = .ok (.laload, 1) := by decide +kernel
theorem d_K_alike_116 : decode b_K_alike 116 = .ok (.lmul, 1) := by decide +kernel
theorem d_K_alike_117 : decode b_K_alike 117 = .ok (.lcmp, 1) := by decide +kernel
theorem d_K_alike_118 : decode b_K_alike 118 = .ok (.ifCond .eq 5, 3) := by decide +kernel
theorem d_K_alike_121 : decode b_K_alike 121 = .ok (.iconst 0, 1) := by decide +kernel
theorem d_K_alike_122 : decode b_K_alike 122 = .ok (.ireturn, 1) := by decide +kernel
theorem d_K_alike_123 : decode b_K_alike 123 = .ok (.iinc 2 1, 3) := by decide +kernel
theorem d_K_alike_126 : decode b_K_alike 126 = .ok (.goto (-41), 3) := by decide +kernel
theorem d_K_alike_129 : decode b_K_alike 129 = .ok (.iconst 1, 1) := by decide +kernel
theorem d_K_alike_130 : decode b_K_alike 130 = .ok (.ireturn, 1) := by decide +kernel
theorem d_K_height_0 : decode b_K_height 0 = .ok (.iload_n 1, 1) := by decide +kernel
theorem d_K_height_1 : decode b_K_height 1 = .ok (.invokestatic 88, 3) := by decide +kernel
theorem d_K_height_4 : decode b_K_height 4 = .ok (.ifCond .eq 7, 3) := by decide +kernel
theorem d_K_height_7 : decode b_K_height 7 = .ok (.ldc2_w 54, 3) := by decide +kernel
theorem d_K_height_10 : decode b_K_height 10 = .ok (.lreturn, 1) := by decide +kernel
theorem d_K_height_11 : decode b_K_height 11 = .ok (.aload_n 0, 1) := by decide +kernel
theorem d_K_height_12 : decode b_K_height 12 = .ok (.getfield 27, 3) := by decide +kernel
theorem d_K_height_15 : decode b_K_height 15 = .ok (.aload_n 0, 1) := by decide +kernel
theorem d_K_height_16 : decode b_K_height 16 = .ok (.getfield 17, 3) := by decide +kernel
theorem d_K_height_19 : decode b_K_height 19 = .ok (.iconst 1, 1) := by decide +kernel
theorem d_K_height_20 : decode b_K_height 20 = .ok (.aload_n 0, 1) := by decide +kernel
theorem d_K_height_21 : decode b_K_height 21 = .ok (.getfield 7, 3) := by decide +kernel
theorem d_K_height_24 : decode b_K_height 24 = .ok (.invokevirtual 64, 3) := by decide +kernel
theorem d_K_height_27 : decode b_K_height 27 = .ok (.aload_n 0, 1) := by decide +kernel
theorem d_K_height_28 : decode b_K_height 28 = .ok (.getfield 27, 3) := by decide +kernel
theorem d_K_height_31 : decode b_K_height 31 = .ok (.invokevirtual 82, 3) := by decide +kernel
theorem d_K_height_34 : decode b_K_height 34 = .ok (.lstore_n 2, 1) := by decide +kernel
theorem d_K_height_35 : decode b_K_height 35 = .ok (.lload_n 2, 1) := by decide +kernel
theorem d_K_height_36 : decode b_K_height 36 = .ok (.lconst 0, 1) := by decide +kernel
theorem d_K_height_37 : decode b_K_height 37 = .ok (.lcmp, 1) := by decide +kernel
theorem d_K_height_38 : decode b_K_height 38 = .ok (.ifCond .ne 13, 3) := by decide +kernel
theorem d_K_height_41 : decode b_K_height 41 = .ok (.new 99, 3) := by decide +kernel
theorem d_K_height_44 : decode b_K_height 44 = .ok (.dup, 1) := by decide +kernel
theorem d_K_height_45 : decode b_K_height 45 = .ok (.ldc 101, 2) := by decide +kernel
theorem d_K_height_47 : decode b_K_height 47 = .ok (.invokespecial 103, 3) := by decide +kernel
theorem d_K_height_50 : decode b_K_height 50 = .ok (.athrow, 1) := by decide +kernel
theorem d_K_height_51 : decode b_K_height 51 = .ok (.aload_n 0, 1) := by decide +kernel
theorem d_K_height_52 : decode b_K_height 52 = .ok (.getfield 27, 3) := by decide +kernel
theorem d_K_height_55 : decode b_K_height 55 = .ok (.aload_n 0, 1) := by decide +kernel
theorem d_K_height_56 : decode b_K_height 56 = .ok (.getfield 17, 3) := by decide +kernel
theorem d_K_height_59 : decode b_K_height 59 = .ok (.iconst 0, 1) := by decide +kernel
theorem d_K_height_60 : decode b_K_height 60 = .ok (.aload_n 0, 1) := by decide +kernel
theorem d_K_height_61 : decode b_K_height 61 = .ok (.getfield 7, 3) := by decide +kernel
theorem d_K_height_64 : decode b_K_height 64 = .ok (.invokevirtual 64, 3) := by decide +kernel
theorem d_K_height_67 : decode b_K_height 67 = .ok (.aload_n 0, 1) := by decide +kernel
theorem d_K_height_68 : decode b_K_height 68 = .ok (.getfield 27, 3) := by decide +kernel
theorem d_K_height_71 : decode b_K_height 71 = .ok (.invokevirtual 82, 3) := by decide +kernel
theorem d_K_height_74 : decode b_K_height 74 = .ok (.lload_n 2, 1) := by decide +kernel
theorem d_K_height_75 : decode b_K_height 75 = .ok (.iload_n 1, 1) := by decide +kernel
theorem d_K_height_76 : decode b_K_height 76 = .ok (.invokestatic 95, 3) := by decide +kernel
theorem d_K_height_79 : decode b_K_height 79 = .ok (.lreturn, 1) := by decide +kernel

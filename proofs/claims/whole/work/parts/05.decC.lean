theorem dX10_init_0 : decode cX10_init 0 = .ok (.aload_n 0, 1) := by decide +kernel
theorem dX10_init_1 : decode cX10_init 1 = .ok (.invokespecial 1, 3) := by decide +kernel
theorem dX10_init_4 : decode cX10_init 4 = .ok (.aload_n 0, 1) := by decide +kernel
theorem dX10_init_5 : decode cX10_init 5 = .ok (.bipush 105, 2) := by decide +kernel
theorem dX10_init_7 : decode cX10_init 7 = .ok (.newarray .int, 2) := by decide +kernel
theorem dX10_init_9 : decode cX10_init 9 = .ok (.putfield 7, 3) := by decide +kernel
theorem dX10_init_12 : decode cX10_init 12 = .ok (.aload_n 0, 1) := by decide +kernel
theorem dX10_init_13 : decode cX10_init 13 = .ok (.sipush 840, 3) := by decide +kernel
theorem dX10_init_16 : decode cX10_init 16 = .ok (.newarray .int, 2) := by decide +kernel
theorem dX10_init_18 : decode cX10_init 18 = .ok (.putfield 13, 3) := by decide +kernel
theorem dX10_init_21 : decode cX10_init 21 = .ok (.aload_n 0, 1) := by decide +kernel
theorem dX10_init_22 : decode cX10_init 22 = .ok (.sipush 200, 3) := by decide +kernel
theorem dX10_init_25 : decode cX10_init 25 = .ok (.newarray .int, 2) := by decide +kernel
theorem dX10_init_27 : decode cX10_init 27 = .ok (.putfield 16, 3) := by decide +kernel
theorem dX10_init_30 : decode cX10_init 30 = .ok (.aload_n 0, 1) := by decide +kernel
theorem dX10_init_31 : decode cX10_init 31 = .ok (.sipush 605, 3) := by decide +kernel
theorem dX10_init_34 : decode cX10_init 34 = .ok (.newarray .long, 2) := by decide +kernel
theorem dX10_init_36 : decode cX10_init 36 = .ok (.putfield 19, 3) := by decide +kernel
theorem dX10_init_39 : decode cX10_init 39 = .ok (.aload_n 0, 1) := by decide +kernel
theorem dX10_init_40 : decode cX10_init 40 = .ok (.sipush 320, 3) := by decide +kernel
theorem dX10_init_43 : decode cX10_init 43 = .ok (.newarray .int, 2) := by decide +kernel
theorem dX10_init_45 : decode cX10_init 45 = .ok (.putfield 23, 3) := by decide +kernel
theorem dX10_init_48 : decode cX10_init 48 = .ok (.aload_n 0, 1) := by decide +kernel
theorem dX10_init_49 : decode cX10_init 49 = .ok (.sipush 3531, 3) := by decide +kernel
theorem dX10_init_52 : decode cX10_init 52 = .ok (.newarray .long, 2) := by decide +kernel
theorem dX10_init_54 : decode cX10_init 54 = .ok (.putfield 26, 3) := by decide +kernel
theorem dX10_init_57 : decode cX10_init 57 = .ok (.aload_n 0, 1) := by decide +kernel
theorem dX10_init_58 : decode cX10_init 58 = .ok (.sipush 7350, 3) := by decide +kernel
theorem dX10_init_61 : decode cX10_init 61 = .ok (.newarray .int, 2) := by decide +kernel
theorem dX10_init_63 : decode cX10_init 63 = .ok (.putfield 29, 3) := by decide +kernel
theorem dX10_init_66 : decode cX10_init 66 = .ok (.aload_n 0, 1) := by decide +kernel
theorem dX10_init_67 : decode cX10_init 67 = .ok (.sipush 280, 3) := by decide +kernel
theorem dX10_init_70 : decode cX10_init 70 = .ok (.newarray .int, 2) := by decide +kernel
theorem dX10_init_72 : decode cX10_init 72 = .ok (.putfield 32, 3) := by decide +kernel
theorem dX10_init_75 : decode cX10_init 75 = .ok (.aload_n 0, 1) := by decide +kernel
theorem dX10_init_76 : decode cX10_init 76 = .ok (.bipush 35, 2) := by decide +kernel
theorem dX10_init_78 : decode cX10_init 78 = .ok (.newarray .int, 2) := by decide +kernel
theorem dX10_init_80 : decode cX10_init 80 = .ok (.putfield 35, 3) := by decide +kernel
theorem dX10_init_83 : decode cX10_init 83 = .ok (.aload_n 0, 1) := by decide +kernel
theorem dX10_init_84 : decode cX10_init 84 = .ok (.bipush 35, 2) := by decide +kernel
theorem dX10_init_86 : decode cX10_init 86 = .ok (.newarray .int, 2) := by decide +kernel
theorem dX10_init_88 : decode cX10_init 88 = .ok (.putfield 38, 3) := by decide +kernel
theorem dX10_init_91 : decode cX10_init 91 = .ok (.aload_n 0, 1) := by decide +kernel
theorem dX10_init_92 : decode cX10_init 92 = .ok (.bipush 105, 2) := by decide +kernel
theorem dX10_init_94 : decode cX10_init 94 = .ok (.newarray .int, 2) := by decide +kernel
theorem dX10_init_96 : decode cX10_init 96 = .ok (.putfield 41, 3) := by decide +kernel
theorem dX10_init_99 : decode cX10_init 99 = .ok (.aload_n 0, 1) := by decide +kernel
theorem dX10_init_100 : decode cX10_init 100 = .ok (.getfield 7, 3) := by decide +kernel
theorem dX10_init_103 : decode cX10_init 103 = .ok (.iconst 0, 1) := by decide +kernel
theorem dX10_init_104 : decode cX10_init 104 = .ok (.iconst 2, 1) := by decide +kernel
theorem dX10_init_105 : decode cX10_init 105 = .ok (.iastore, 1) := by decide +kernel
theorem dX10_init_106 : decode cX10_init 106 = .ok (.aload_n 0, 1) := by decide +kernel
theorem dX10_init_107 : decode cX10_init 107 = .ok (.getfield 7, 3) := by decide +kernel
theorem dX10_init_110 : decode cX10_init 110 = .ok (.iconst 1, 1) := by decide +kernel
theorem dX10_init_111 : decode cX10_init 111 = .ok (.iconst 3, 1) := by decide +kernel
theorem dX10_init_112 : decode cX10_init 112 = .ok (.iastore, 1) := by decide +kernel
theorem dX10_init_113 : decode cX10_init 113 = .ok (.aload_n 0, 1) := by decide +kernel
theorem dX10_init_114 : decode cX10_init 114 = .ok (.getfield 7, 3) := by decide +kernel
theorem dX10_init_117 : decode cX10_init 117 = .ok (.iconst 4, 1) := by decide +kernel
theorem dX10_init_118 : decode cX10_init 118 = .ok (.iconst 1, 1) := by decide +kernel
theorem dX10_init_119 : decode cX10_init 119 = .ok (.iastore, 1) := by decide +kernel
theorem dX10_init_120 : decode cX10_init 120 = .ok (.return_, 1) := by decide +kernel
theorem dX10_isIn_0 : decode cX10_isIn 0 = .ok (.iload_n 0, 1) := by decide +kernel
theorem dX10_isIn_1 : decode cX10_isIn 1 = .ok (.iload_n 1, 1) := by decide +kernel
theorem dX10_isIn_2 : decode cX10_isIn 2 = .ok (.if_icmp .lt 12, 3) := by decide +kernel
theorem dX10_isIn_5 : decode cX10_isIn 5 = .ok (.iload_n 0, 1) := by decide +kernel
theorem dX10_isIn_6 : decode cX10_isIn 6 = .ok (.iload_n 2, 1) := by decide +kernel
theorem dX10_isIn_7 : decode cX10_isIn 7 = .ok (.if_icmp .gt 7, 3) := by decide +kernel
theorem dX10_isIn_10 : decode cX10_isIn 10 = .ok (.iconst 1, 1) := by decide +kernel
theorem dX10_isIn_11 : decode cX10_isIn 11 = .ok (.goto 4, 3) := by decide +kernel
theorem dX10_isIn_14 : decode cX10_isIn 14 = .ok (.iconst 0, 1) := by decide +kernel
theorem dX10_isIn_15 : decode cX10_isIn 15 = .ok (.ireturn, 1) := by decide +kernel
theorem dX10_isState_0 : decode cX10_isState 0 = .ok (.iload_n 1, 1) := by decide +kernel
theorem dX10_isState_1 : decode cX10_isState 1 = .ok (.iconst 0, 1) := by decide +kernel
theorem dX10_isState_2 : decode cX10_isState 2 = .ok (.aload_n 0, 1) := by decide +kernel
theorem dX10_isState_3 : decode cX10_isState 3 = .ok (.getfield 7, 3) := by decide +kernel
theorem dX10_isState_6 : decode cX10_isState 6 = .ok (.iconst 0, 1) := by decide +kernel
theorem dX10_isState_7 : decode cX10_isState 7 = .ok (.iaload, 1) := by decide +kernel
theorem dX10_isState_8 : decode cX10_isState 8 = .ok (.iconst 1, 1) := by decide +kernel
theorem dX10_isState_9 : decode cX10_isState 9 = .ok (.isub, 1) := by decide +kernel
theorem dX10_isState_10 : decode cX10_isState 10 = .ok (.invokestatic 44, 3) := by decide +kernel
theorem dX10_isState_13 : decode cX10_isState 13 = .ok (.ireturn, 1) := by decide +kernel
theorem dX10_isSymbol_0 : decode cX10_isSymbol 0 = .ok (.iload_n 1, 1) := by decide +kernel
theorem dX10_isSymbol_1 : decode cX10_isSymbol 1 = .ok (.iconst 1, 1) := by decide +kernel
theorem dX10_isSymbol_2 : decode cX10_isSymbol 2 = .ok (.aload_n 0, 1) := by decide +kernel
theorem dX10_isSymbol_3 : decode cX10_isSymbol 3 = .ok (.getfield 7, 3) := by decide +kernel
theorem dX10_isSymbol_6 : decode cX10_isSymbol 6 = .ok (.iconst 1, 1) := by decide +kernel
theorem dX10_isSymbol_7 : decode cX10_isSymbol 7 = .ok (.iaload, 1) := by decide +kernel
theorem dX10_isSymbol_8 : decode cX10_isSymbol 8 = .ok (.invokestatic 44, 3) := by decide +kernel
theorem dX10_isSymbol_11 : decode cX10_isSymbol 11 = .ok (.ireturn, 1) := by decide +kernel
theorem dX10_isRule_0 : decode cX10_isRule 0 = .ok (.iload_n 1, 1) := by decide +kernel
theorem dX10_isRule_1 : decode cX10_isRule 1 = .ok (.iconst 0, 1) := by decide +kernel
theorem dX10_isRule_2 : decode cX10_isRule 2 = .ok (.aload_n 0, 1) := by decide +kernel
theorem dX10_isRule_3 : decode cX10_isRule 3 = .ok (.getfield 7, 3) := by decide +kernel
theorem dX10_isRule_6 : decode cX10_isRule 6 = .ok (.iconst 2, 1) := by decide +kernel
theorem dX10_isRule_7 : decode cX10_isRule 7 = .ok (.iaload, 1) := by decide +kernel
theorem dX10_isRule_8 : decode cX10_isRule 8 = .ok (.iconst 1, 1) := by decide +kernel
theorem dX10_isRule_9 : decode cX10_isRule 9 = .ok (.isub, 1) := by decide +kernel
theorem dX10_isRule_10 : decode cX10_isRule 10 = .ok (.invokestatic 44, 3) := by decide +kernel
theorem dX10_isRule_13 : decode cX10_isRule 13 = .ok (.ireturn, 1) := by decide +kernel
theorem dX10_sizeOf_0 : decode cX10_sizeOf 0 = .ok (.iconst 0, 1) := by decide +kernel
theorem dX10_sizeOf_1 : decode cX10_sizeOf 1 = .ok (.istore_n 1, 1) := by decide +kernel
theorem dX10_sizeOf_2 : decode cX10_sizeOf 2 = .ok (.iload_n 0, 1) := by decide +kernel
theorem dX10_sizeOf_3 : decode cX10_sizeOf 3 = .ok (.istore_n 2, 1) := by decide +kernel
theorem dX10_sizeOf_4 : decode cX10_sizeOf 4 = .ok (.iload_n 2, 1) := by decide +kernel
theorem dX10_sizeOf_5 : decode cX10_sizeOf 5 = .ok (.ifCond .le 14, 3) := by decide +kernel
theorem dX10_sizeOf_8 : decode cX10_sizeOf 8 = .ok (.iinc 1 1, 3) := by decide +kernel
theorem dX10_sizeOf_11 : decode cX10_sizeOf 11 = .ok (.iload_n 2, 1) := by decide +kernel
theorem dX10_sizeOf_12 : decode cX10_sizeOf 12 = .ok (.bipush 10, 2) := by decide +kernel
theorem dX10_sizeOf_14 : decode cX10_sizeOf 14 = .ok (.idiv, 1) := by decide +kernel
theorem dX10_sizeOf_15 : decode cX10_sizeOf 15 = .ok (.istore_n 2, 1) := by decide +kernel
theorem dX10_sizeOf_16 : decode cX10_sizeOf 16 = .ok (.goto (-12), 3) := by decide +kernel
theorem dX10_sizeOf_19 : decode cX10_sizeOf 19 = .ok (.iload_n 1, 1) := by decide +kernel
theorem dX10_sizeOf_20 : decode cX10_sizeOf 20 = .ok (.ireturn, 1) := by decide +kernel
theorem dX10_isWord_0 : decode cX10_isWord 0 = .ok (.iload_n 1, 1) := by decide +kernel
theorem dX10_isWord_1 : decode cX10_isWord 1 = .ok (.ifCond .lt 19, 3) := by decide +kernel
theorem dX10_isWord_4 : decode cX10_isWord 4 = .ok (.iload_n 1, 1) := by decide +kernel
theorem dX10_isWord_5 : decode cX10_isWord 5 = .ok (.invokestatic 48, 3) := by decide +kernel
theorem dX10_isWord_8 : decode cX10_isWord 8 = .ok (.iload_n 2, 1) := by decide +kernel
theorem dX10_isWord_9 : decode cX10_isWord 9 = .ok (.iload_n 3, 1) := by decide +kernel
theorem dX10_isWord_10 : decode cX10_isWord 10 = .ok (.invokestatic 44, 3) := by decide +kernel
theorem dX10_isWord_13 : decode cX10_isWord 13 = .ok (.ifCond .eq 7, 3) := by decide +kernel
theorem dX10_isWord_16 : decode cX10_isWord 16 = .ok (.iconst 1, 1) := by decide +kernel
theorem dX10_isWord_17 : decode cX10_isWord 17 = .ok (.goto 4, 3) := by decide +kernel
theorem dX10_isWord_20 : decode cX10_isWord 20 = .ok (.iconst 0, 1) := by decide +kernel
theorem dX10_isWord_21 : decode cX10_isWord 21 = .ok (.istore 4, 2) := by decide +kernel
theorem dX10_isWord_23 : decode cX10_isWord 23 = .ok (.iload_n 1, 1) := by decide +kernel
theorem dX10_isWord_24 : decode cX10_isWord 24 = .ok (.istore 5, 2) := by decide +kernel
theorem dX10_isWord_26 : decode cX10_isWord 26 = .ok (.iload 5, 2) := by decide +kernel
theorem dX10_isWord_28 : decode cX10_isWord 28 = .ok (.ifCond .le 27, 3) := by decide +kernel
theorem dX10_isWord_31 : decode cX10_isWord 31 = .ok (.iload 4, 2) := by decide +kernel
theorem dX10_isWord_33 : decode cX10_isWord 33 = .ok (.aload_n 0, 1) := by decide +kernel
theorem dX10_isWord_34 : decode cX10_isWord 34 = .ok (.iload 5, 2) := by decide +kernel
theorem dX10_isWord_36 : decode cX10_isWord 36 = .ok (.bipush 10, 2) := by decide +kernel
theorem dX10_isWord_38 : decode cX10_isWord 38 = .ok (.irem, 1) := by decide +kernel
theorem dX10_isWord_39 : decode cX10_isWord 39 = .ok (.invokevirtual 52, 3) := by decide +kernel
theorem dX10_isWord_42 : decode cX10_isWord 42 = .ok (.iand, 1) := by decide +kernel
theorem dX10_isWord_43 : decode cX10_isWord 43 = .ok (.istore 4, 2) := by decide +kernel
theorem dX10_isWord_45 : decode cX10_isWord 45 = .ok (.iload 5, 2) := by decide +kernel
theorem dX10_isWord_47 : decode cX10_isWord 47 = .ok (.bipush 10, 2) := by decide +kernel
theorem dX10_isWord_49 : decode cX10_isWord 49 = .ok (.idiv, 1) := by decide +kernel
theorem dX10_isWord_50 : decode cX10_isWord 50 = .ok (.istore 5, 2) := by decide +kernel
theorem dX10_isWord_52 : decode cX10_isWord 52 = .ok (.goto (-26), 3) := by decide +kernel
theorem dX10_isWord_55 : decode cX10_isWord 55 = .ok (.iload 4, 2) := by decide +kernel
theorem dX10_isWord_57 : decode cX10_isWord 57 = .ok (.ireturn, 1) := by decide +kernel
theorem dX10_symbolOf_0 : decode cX10_symbolOf 0 = .ok (.iload_n 0, 1) := by decide +kernel
theorem dX10_symbolOf_1 : decode cX10_symbolOf 1 = .ok (.istore_n 3, 1) := by decide +kernel
theorem dX10_symbolOf_2 : decode cX10_symbolOf 2 = .ok (.iload_n 2, 1) := by decide +kernel
theorem dX10_symbolOf_3 : decode cX10_symbolOf 3 = .ok (.istore 4, 2) := by decide +kernel
theorem dX10_symbolOf_5 : decode cX10_symbolOf 5 = .ok (.iload 4, 2) := by decide +kernel
theorem dX10_symbolOf_7 : decode cX10_symbolOf 7 = .ok (.iload_n 1, 1) := by decide +kernel
theorem dX10_symbolOf_8 : decode cX10_symbolOf 8 = .ok (.iconst 1, 1) := by decide +kernel
theorem dX10_symbolOf_9 : decode cX10_symbolOf 9 = .ok (.isub, 1) := by decide +kernel
theorem dX10_symbolOf_10 : decode cX10_symbolOf 10 = .ok (.if_icmp .ge 14, 3) := by decide +kernel
theorem dX10_symbolOf_13 : decode cX10_symbolOf 13 = .ok (.iload_n 3, 1) := by decide +kernel
theorem dX10_symbolOf_14 : decode cX10_symbolOf 14 = .ok (.bipush 10, 2) := by decide +kernel
theorem dX10_symbolOf_16 : decode cX10_symbolOf 16 = .ok (.idiv, 1) := by decide +kernel
theorem dX10_symbolOf_17 : decode cX10_symbolOf 17 = .ok (.istore_n 3, 1) := by decide +kernel
theorem dX10_symbolOf_18 : decode cX10_symbolOf 18 = .ok (.iinc 4 1, 3) := by decide +kernel
theorem dX10_symbolOf_21 : decode cX10_symbolOf 21 = .ok (.goto (-16), 3) := by decide +kernel
theorem dX10_symbolOf_24 : decode cX10_symbolOf 24 = .ok (.iload_n 3, 1) := by decide +kernel
theorem dX10_symbolOf_25 : decode cX10_symbolOf 25 = .ok (.bipush 10, 2) := by decide +kernel
theorem dX10_symbolOf_27 : decode cX10_symbolOf 27 = .ok (.irem, 1) := by decide +kernel
theorem dX10_symbolOf_28 : decode cX10_symbolOf 28 = .ok (.ireturn, 1) := by decide +kernel
theorem dX10_of_0 : decode cX10_of 0 = .ok (.aload_n 0, 1) := by decide +kernel
theorem dX10_of_1 : decode cX10_of 1 = .ok (.getfield 7, 3) := by decide +kernel
theorem dX10_of_4 : decode cX10_of 4 = .ok (.iconst 5, 1) := by decide +kernel
theorem dX10_of_5 : decode cX10_of 5 = .ok (.iconst 5, 1) := by decide +kernel
theorem dX10_of_6 : decode cX10_of 6 = .ok (.iload_n 1, 1) := by decide +kernel
theorem dX10_of_7 : decode cX10_of 7 = .ok (.imul, 1) := by decide +kernel
theorem dX10_of_8 : decode cX10_of 8 = .ok (.iadd, 1) := by decide +kernel
theorem dX10_of_9 : decode cX10_of 9 = .ok (.iload_n 2, 1) := by decide +kernel
theorem dX10_of_10 : decode cX10_of 10 = .ok (.iadd, 1) := by decide +kernel
theorem dX10_of_11 : decode cX10_of 11 = .ok (.iaload, 1) := by decide +kernel
theorem dX10_of_12 : decode cX10_of 12 = .ok (.ireturn, 1) := by decide +kernel
theorem dX10_keep_0 : decode cX10_keep 0 = .ok (.aload_n 0, 1) := by decide +kernel
theorem dX10_keep_1 : decode cX10_keep 1 = .ok (.iconst 0, 1) := by decide +kernel
theorem dX10_keep_2 : decode cX10_keep 2 = .ok (.putfield 56, 3) := by decide +kernel
theorem dX10_keep_5 : decode cX10_keep 5 = .ok (.aload_n 0, 1) := by decide +kernel
theorem dX10_keep_6 : decode cX10_keep 6 = .ok (.getfield 60, 3) := by decide +kernel
theorem dX10_keep_9 : decode cX10_keep 9 = .ok (.bipush 8, 2) := by decide +kernel
theorem dX10_keep_11 : decode cX10_keep 11 = .ok (.if_icmp .ne 43, 3) := by decide +kernel
theorem dX10_keep_14 : decode cX10_keep 14 = .ok (.iconst 0, 1) := by decide +kernel
theorem dX10_keep_15 : decode cX10_keep 15 = .ok (.istore_n 1, 1) := by decide +kernel
theorem dX10_keep_16 : decode cX10_keep 16 = .ok (.iload_n 1, 1) := by decide +kernel
theorem dX10_keep_17 : decode cX10_keep 17 = .ok (.sipush 735, 3) := by decide +kernel
theorem dX10_keep_20 : decode cX10_keep 20 = .ok (.if_icmp .ge 24, 3) := by decide +kernel
theorem dX10_keep_23 : decode cX10_keep 23 = .ok (.aload_n 0, 1) := by decide +kernel
theorem dX10_keep_24 : decode cX10_keep 24 = .ok (.getfield 13, 3) := by decide +kernel
theorem dX10_keep_27 : decode cX10_keep 27 = .ok (.iload_n 1, 1) := by decide +kernel
theorem dX10_keep_28 : decode cX10_keep 28 = .ok (.aload_n 0, 1) := by decide +kernel
theorem dX10_keep_29 : decode cX10_keep 29 = .ok (.getfield 13, 3) := by decide +kernel
theorem dX10_keep_32 : decode cX10_keep 32 = .ok (.iload_n 1, 1) := by decide +kernel
theorem dX10_keep_33 : decode cX10_keep 33 = .ok (.bipush 105, 2) := by decide +kernel
theorem dX10_keep_35 : decode cX10_keep 35 = .ok (.iadd, 1) := by decide +kernel
theorem dX10_keep_36 : decode cX10_keep 36 = .ok (.iaload, 1) := by decide +kernel
theorem dX10_keep_37 : decode cX10_keep 37 = .ok (.iastore, 1) := by decide +kernel
theorem dX10_keep_38 : decode cX10_keep 38 = .ok (.iinc 1 1, 3) := by decide +kernel
theorem dX10_keep_41 : decode cX10_keep 41 = .ok (.goto (-25), 3) := by decide +kernel
theorem dX10_keep_44 : decode cX10_keep 44 = .ok (.aload_n 0, 1) := by decide +kernel
theorem dX10_keep_45 : decode cX10_keep 45 = .ok (.dup, 1) := by decide +kernel
theorem dX10_keep_46 : decode cX10_keep 46 = .ok (.getfield 60, 3) := by decide +kernel
theorem dX10_keep_49 : decode cX10_keep 49 = .ok (.iconst 1, 1) := by decide +kernel
theorem dX10_keep_50 : decode cX10_keep 50 = .ok (.isub, 1) := by decide +kernel
theorem dX10_keep_51 : decode cX10_keep 51 = .ok (.putfield 60, 3) := by decide +kernel
theorem dX10_keep_54 : decode cX10_keep 54 = .ok (.iconst 0, 1) := by decide +kernel
theorem dX10_keep_55 : decode cX10_keep 55 = .ok (.istore_n 1, 1) := by decide +kernel
theorem dX10_keep_56 : decode cX10_keep 56 = .ok (.iload_n 1, 1) := by decide +kernel
theorem dX10_keep_57 : decode cX10_keep 57 = .ok (.bipush 105, 2) := by decide +kernel
theorem dX10_keep_59 : decode cX10_keep 59 = .ok (.if_icmp .ge 29, 3) := by decide +kernel
theorem dX10_keep_62 : decode cX10_keep 62 = .ok (.aload_n 0, 1) := by decide +kernel
theorem dX10_keep_63 : decode cX10_keep 63 = .ok (.getfield 13, 3) := by decide +kernel
theorem dX10_keep_66 : decode cX10_keep 66 = .ok (.bipush 105, 2) := by decide +kernel
theorem dX10_keep_68 : decode cX10_keep 68 = .ok (.aload_n 0, 1) := by decide +kernel
theorem dX10_keep_69 : decode cX10_keep 69 = .ok (.getfield 60, 3) := by decide +kernel
theorem dX10_keep_72 : decode cX10_keep 72 = .ok (.imul, 1) := by decide +kernel
theorem dX10_keep_73 : decode cX10_keep 73 = .ok (.iload_n 1, 1) := by decide +kernel
theorem dX10_keep_74 : decode cX10_keep 74 = .ok (.iadd, 1) := by decide +kernel
theorem dX10_keep_75 : decode cX10_keep 75 = .ok (.aload_n 0, 1) := by decide +kernel
theorem dX10_keep_76 : decode cX10_keep 76 = .ok (.getfield 7, 3) := by decide +kernel
theorem dX10_keep_79 : decode cX10_keep 79 = .ok (.iload_n 1, 1) := by decide +kernel
theorem dX10_keep_80 : decode cX10_keep 80 = .ok (.iaload, 1) := by decide +kernel
theorem dX10_keep_81 : decode cX10_keep 81 = .ok (.iastore, 1) := by decide +kernel
theorem dX10_keep_82 : decode cX10_keep 82 = .ok (.iinc 1 1, 3) := by decide +kernel
theorem dX10_keep_85 : decode cX10_keep 85 = .ok (.goto (-29), 3) := by decide +kernel
theorem dX10_keep_88 : decode cX10_keep 88 = .ok (.aload_n 0, 1) := by decide +kernel
theorem dX10_keep_89 : decode cX10_keep 89 = .ok (.dup, 1) := by decide +kernel
theorem dX10_keep_90 : decode cX10_keep 90 = .ok (.getfield 60, 3) := by decide +kernel
theorem dX10_keep_93 : decode cX10_keep 93 = .ok (.iconst 1, 1) := by decide +kernel
theorem dX10_keep_94 : decode cX10_keep 94 = .ok (.iadd, 1) := by decide +kernel
theorem dX10_keep_95 : decode cX10_keep 95 = .ok (.putfield 60, 3) := by decide +kernel
theorem dX10_keep_98 : decode cX10_keep 98 = .ok (.return_, 1) := by decide +kernel
theorem dX10_begin_0 : decode cX10_begin 0 = .ok (.iload_n 1, 1) := by decide +kernel
theorem dX10_begin_1 : decode cX10_begin 1 = .ok (.iconst 1, 1) := by decide +kernel
theorem dX10_begin_2 : decode cX10_begin 2 = .ok (.iconst 4, 1) := by decide +kernel
theorem dX10_begin_3 : decode cX10_begin 3 = .ok (.invokestatic 44, 3) := by decide +kernel
theorem dX10_begin_6 : decode cX10_begin 6 = .ok (.ifCond .eq 12, 3) := by decide +kernel
theorem dX10_begin_9 : decode cX10_begin 9 = .ok (.iload_n 2, 1) := by decide +kernel
theorem dX10_begin_10 : decode cX10_begin 10 = .ok (.iconst 1, 1) := by decide +kernel
theorem dX10_begin_11 : decode cX10_begin 11 = .ok (.iconst 5, 1) := by decide +kernel
theorem dX10_begin_12 : decode cX10_begin 12 = .ok (.invokestatic 44, 3) := by decide +kernel
theorem dX10_begin_15 : decode cX10_begin 15 = .ok (.ifCond .ne 6, 3) := by decide +kernel
theorem dX10_begin_18 : decode cX10_begin 18 = .ok (.bipush (-2), 2) := by decide +kernel
theorem dX10_begin_20 : decode cX10_begin 20 = .ok (.ireturn, 1) := by decide +kernel
theorem dX10_begin_21 : decode cX10_begin 21 = .ok (.aload_n 0, 1) := by decide +kernel
theorem dX10_begin_22 : decode cX10_begin 22 = .ok (.invokevirtual 64, 3) := by decide +kernel
theorem dX10_begin_25 : decode cX10_begin 25 = .ok (.aload_n 0, 1) := by decide +kernel
theorem dX10_begin_26 : decode cX10_begin 26 = .ok (.getfield 7, 3) := by decide +kernel
theorem dX10_begin_29 : decode cX10_begin 29 = .ok (.iconst 2, 1) := by decide +kernel
theorem dX10_begin_30 : decode cX10_begin 30 = .ok (.iaload, 1) := by decide +kernel
theorem dX10_begin_31 : decode cX10_begin 31 = .ok (.istore_n 3, 1) := by decide +kernel
theorem dX10_begin_32 : decode cX10_begin 32 = .ok (.aload_n 0, 1) := by decide +kernel
theorem dX10_begin_33 : decode cX10_begin 33 = .ok (.getfield 7, 3) := by decide +kernel
theorem dX10_begin_36 : decode cX10_begin 36 = .ok (.iconst 0, 1) := by decide +kernel
theorem dX10_begin_37 : decode cX10_begin 37 = .ok (.iload_n 1, 1) := by decide +kernel
theorem dX10_begin_38 : decode cX10_begin 38 = .ok (.iastore, 1) := by decide +kernel
theorem dX10_begin_39 : decode cX10_begin 39 = .ok (.aload_n 0, 1) := by decide +kernel
theorem dX10_begin_40 : decode cX10_begin 40 = .ok (.getfield 7, 3) := by decide +kernel
theorem dX10_begin_43 : decode cX10_begin 43 = .ok (.iconst 1, 1) := by decide +kernel
theorem dX10_begin_44 : decode cX10_begin 44 = .ok (.iload_n 2, 1) := by decide +kernel
theorem dX10_begin_45 : decode cX10_begin 45 = .ok (.iastore, 1) := by decide +kernel
theorem dX10_begin_46 : decode cX10_begin 46 = .ok (.aload_n 0, 1) := by decide +kernel
theorem dX10_begin_47 : decode cX10_begin 47 = .ok (.getfield 7, 3) := by decide +kernel
theorem dX10_begin_50 : decode cX10_begin 50 = .ok (.iconst 2, 1) := by decide +kernel
theorem dX10_begin_51 : decode cX10_begin 51 = .ok (.iconst 0, 1) := by decide +kernel
theorem dX10_begin_52 : decode cX10_begin 52 = .ok (.iastore, 1) := by decide +kernel
theorem dX10_begin_53 : decode cX10_begin 53 = .ok (.aload_n 0, 1) := by decide +kernel
theorem dX10_begin_54 : decode cX10_begin 54 = .ok (.getfield 7, 3) := by decide +kernel
theorem dX10_begin_57 : decode cX10_begin 57 = .ok (.iconst 3, 1) := by decide +kernel
theorem dX10_begin_58 : decode cX10_begin 58 = .ok (.iconst 0, 1) := by decide +kernel
theorem dX10_begin_59 : decode cX10_begin 59 = .ok (.iastore, 1) := by decide +kernel
theorem dX10_begin_60 : decode cX10_begin 60 = .ok (.aload_n 0, 1) := by decide +kernel
theorem dX10_begin_61 : decode cX10_begin 61 = .ok (.getfield 7, 3) := by decide +kernel
theorem dX10_begin_64 : decode cX10_begin 64 = .ok (.iconst 4, 1) := by decide +kernel
theorem dX10_begin_65 : decode cX10_begin 65 = .ok (.iconst 1, 1) := by decide +kernel
theorem dX10_begin_66 : decode cX10_begin 66 = .ok (.iastore, 1) := by decide +kernel
theorem dX10_begin_67 : decode cX10_begin 67 = .ok (.iload_n 3, 1) := by decide +kernel
theorem dX10_begin_68 : decode cX10_begin 68 = .ok (.ireturn, 1) := by decide +kernel
theorem dX10_lay_0 : decode cX10_lay 0 = .ok (.aload_n 0, 1) := by decide +kernel
theorem dX10_lay_1 : decode cX10_lay 1 = .ok (.getfield 7, 3) := by decide +kernel
theorem dX10_lay_4 : decode cX10_lay 4 = .ok (.iconst 5, 1) := by decide +kernel
theorem dX10_lay_5 : decode cX10_lay 5 = .ok (.iconst 5, 1) := by decide +kernel
theorem dX10_lay_6 : decode cX10_lay 6 = .ok (.iload_n 1, 1) := by decide +kernel
theorem dX10_lay_7 : decode cX10_lay 7 = .ok (.imul, 1) := by decide +kernel
theorem dX10_lay_8 : decode cX10_lay 8 = .ok (.iadd, 1) := by decide +kernel
theorem dX10_lay_9 : decode cX10_lay 9 = .ok (.iconst 0, 1) := by decide +kernel
theorem dX10_lay_10 : decode cX10_lay 10 = .ok (.iadd, 1) := by decide +kernel
theorem dX10_lay_11 : decode cX10_lay 11 = .ok (.iload_n 2, 1) := by decide +kernel
theorem dX10_lay_12 : decode cX10_lay 12 = .ok (.iastore, 1) := by decide +kernel
theorem dX10_lay_13 : decode cX10_lay 13 = .ok (.aload_n 0, 1) := by decide +kernel
theorem dX10_lay_14 : decode cX10_lay 14 = .ok (.getfield 7, 3) := by decide +kernel
theorem dX10_lay_17 : decode cX10_lay 17 = .ok (.iconst 5, 1) := by decide +kernel
theorem dX10_lay_18 : decode cX10_lay 18 = .ok (.iconst 5, 1) := by decide +kernel
theorem dX10_lay_19 : decode cX10_lay 19 = .ok (.iload_n 1, 1) := by decide +kernel
theorem dX10_lay_20 : decode cX10_lay 20 = .ok (.imul, 1) := by decide +kernel
theorem dX10_lay_21 : decode cX10_lay 21 = .ok (.iadd, 1) := by decide +kernel
theorem dX10_lay_22 : decode cX10_lay 22 = .ok (.iconst 1, 1) := by decide +kernel
theorem dX10_lay_23 : decode cX10_lay 23 = .ok (.iadd, 1) := by decide +kernel
theorem dX10_lay_24 : decode cX10_lay 24 = .ok (.iload_n 3, 1) := by decide +kernel
theorem dX10_lay_25 : decode cX10_lay 25 = .ok (.iastore, 1) := by decide +kernel
theorem dX10_lay_26 : decode cX10_lay 26 = .ok (.aload_n 0, 1) := by decide +kernel
theorem dX10_lay_27 : decode cX10_lay 27 = .ok (.getfield 7, 3) := by decide +kernel
theorem dX10_lay_30 : decode cX10_lay 30 = .ok (.iconst 5, 1) := by decide +kernel
theorem dX10_lay_31 : decode cX10_lay 31 = .ok (.iconst 5, 1) := by decide +kernel
theorem dX10_lay_32 : decode cX10_lay 32 = .ok (.iload_n 1, 1) := by decide +kernel
theorem dX10_lay_33 : decode cX10_lay 33 = .ok (.imul, 1) := by decide +kernel
theorem dX10_lay_34 : decode cX10_lay 34 = .ok (.iadd, 1) := by decide +kernel
theorem dX10_lay_35 : decode cX10_lay 35 = .ok (.iconst 2, 1) := by decide +kernel
theorem dX10_lay_36 : decode cX10_lay 36 = .ok (.iadd, 1) := by decide +kernel
theorem dX10_lay_37 : decode cX10_lay 37 = .ok (.iload 4, 2) := by decide +kernel
theorem dX10_lay_39 : decode cX10_lay 39 = .ok (.iastore, 1) := by decide +kernel
theorem dX10_lay_40 : decode cX10_lay 40 = .ok (.aload_n 0, 1) := by decide +kernel
theorem dX10_lay_41 : decode cX10_lay 41 = .ok (.getfield 7, 3) := by decide +kernel
theorem dX10_lay_44 : decode cX10_lay 44 = .ok (.iconst 5, 1) := by decide +kernel
theorem dX10_lay_45 : decode cX10_lay 45 = .ok (.iconst 5, 1) := by decide +kernel
theorem dX10_lay_46 : decode cX10_lay 46 = .ok (.iload_n 1, 1) := by decide +kernel
theorem dX10_lay_47 : decode cX10_lay 47 = .ok (.imul, 1) := by decide +kernel
theorem dX10_lay_48 : decode cX10_lay 48 = .ok (.iadd, 1) := by decide +kernel
theorem dX10_lay_49 : decode cX10_lay 49 = .ok (.iconst 3, 1) := by decide +kernel
theorem dX10_lay_50 : decode cX10_lay 50 = .ok (.iadd, 1) := by decide +kernel
theorem dX10_lay_51 : decode cX10_lay 51 = .ok (.iload 5, 2) := by decide +kernel
theorem dX10_lay_53 : decode cX10_lay 53 = .ok (.iastore, 1) := by decide +kernel
theorem dX10_lay_54 : decode cX10_lay 54 = .ok (.aload_n 0, 1) := by decide +kernel
theorem dX10_lay_55 : decode cX10_lay 55 = .ok (.getfield 7, 3) := by decide +kernel
theorem dX10_lay_58 : decode cX10_lay 58 = .ok (.iconst 5, 1) := by decide +kernel
theorem dX10_lay_59 : decode cX10_lay 59 = .ok (.iconst 5, 1) := by decide +kernel
theorem dX10_lay_60 : decode cX10_lay 60 = .ok (.iload_n 1, 1) := by decide +kernel
theorem dX10_lay_61 : decode cX10_lay 61 = .ok (.imul, 1) := by decide +kernel
theorem dX10_lay_62 : decode cX10_lay 62 = .ok (.iadd, 1) := by decide +kernel
theorem dX10_lay_63 : decode cX10_lay 63 = .ok (.iconst 4, 1) := by decide +kernel
theorem dX10_lay_64 : decode cX10_lay 64 = .ok (.iadd, 1) := by decide +kernel
theorem dX10_lay_65 : decode cX10_lay 65 = .ok (.iload 6, 2) := by decide +kernel
theorem dX10_lay_67 : decode cX10_lay 67 = .ok (.iastore, 1) := by decide +kernel
theorem dX10_lay_68 : decode cX10_lay 68 = .ok (.return_, 1) := by decide +kernel
theorem dX10_isThere_0 : decode cX10_isThere 0 = .ok (.iconst 0, 1) := by decide +kernel
theorem dX10_isThere_1 : decode cX10_isThere 1 = .ok (.istore 5, 2) := by decide +kernel
theorem dX10_isThere_3 : decode cX10_isThere 3 = .ok (.iconst 0, 1) := by decide +kernel
theorem dX10_isThere_4 : decode cX10_isThere 4 = .ok (.istore 6, 2) := by decide +kernel
theorem dX10_isThere_6 : decode cX10_isThere 6 = .ok (.iload 6, 2) := by decide +kernel
theorem dX10_isThere_8 : decode cX10_isThere 8 = .ok (.aload_n 0, 1) := by decide +kernel
theorem dX10_isThere_9 : decode cX10_isThere 9 = .ok (.getfield 7, 3) := by decide +kernel
theorem dX10_isThere_12 : decode cX10_isThere 12 = .ok (.iconst 2, 1) := by decide +kernel
theorem dX10_isThere_13 : decode cX10_isThere 13 = .ok (.iaload, 1) := by decide +kernel
theorem dX10_isThere_14 : decode cX10_isThere 14 = .ok (.if_icmp .ge 64, 3) := by decide +kernel
theorem dX10_isThere_17 : decode cX10_isThere 17 = .ok (.iload 5, 2) := by decide +kernel
theorem dX10_isThere_19 : decode cX10_isThere 19 = .ok (.aload_n 0, 1) := by decide +kernel
theorem dX10_isThere_20 : decode cX10_isThere 20 = .ok (.iload 6, 2) := by decide +kernel
theorem dX10_isThere_22 : decode cX10_isThere 22 = .ok (.iconst 0, 1) := by decide +kernel
theorem dX10_isThere_23 : decode cX10_isThere 23 = .ok (.invokevirtual 67, 3) := by decide +kernel
theorem dX10_isThere_26 : decode cX10_isThere 26 = .ok (.iload_n 1, 1) := by decide +kernel
theorem dX10_isThere_27 : decode cX10_isThere 27 = .ok (.if_icmp .ne 41, 3) := by decide +kernel
theorem dX10_isThere_30 : decode cX10_isThere 30 = .ok (.aload_n 0, 1) := by decide +kernel
theorem dX10_isThere_31 : decode cX10_isThere 31 = .ok (.iload 6, 2) := by decide +kernel
theorem dX10_isThere_33 : decode cX10_isThere 33 = .ok (.iconst 1, 1) := by decide +kernel
theorem dX10_isThere_34 : decode cX10_isThere 34 = .ok (.invokevirtual 67, 3) := by decide +kernel
theorem dX10_isThere_37 : decode cX10_isThere 37 = .ok (.iload_n 2, 1) := by decide +kernel
theorem dX10_isThere_38 : decode cX10_isThere 38 = .ok (.if_icmp .ne 30, 3) := by decide +kernel
theorem dX10_isThere_41 : decode cX10_isThere 41 = .ok (.aload_n 0, 1) := by decide +kernel
theorem dX10_isThere_42 : decode cX10_isThere 42 = .ok (.iload 6, 2) := by decide +kernel
theorem dX10_isThere_44 : decode cX10_isThere 44 = .ok (.iconst 2, 1) := by decide +kernel
theorem dX10_isThere_45 : decode cX10_isThere 45 = .ok (.invokevirtual 67, 3) := by decide +kernel
theorem dX10_isThere_48 : decode cX10_isThere 48 = .ok (.iload_n 3, 1) := by decide +kernel
theorem dX10_isThere_49 : decode cX10_isThere 49 = .ok (.if_icmp .ne 19, 3) := by decide +kernel
theorem dX10_isThere_52 : decode cX10_isThere 52 = .ok (.aload_n 0, 1) := by decide +kernel
theorem dX10_isThere_53 : decode cX10_isThere 53 = .ok (.iload 6, 2) := by decide +kernel
theorem dX10_isThere_55 : decode cX10_isThere 55 = .ok (.iconst 3, 1) := by decide +kernel
theorem dX10_isThere_56 : decode cX10_isThere 56 = .ok (.invokevirtual 67, 3) := by decide +kernel
theorem dX10_isThere_59 : decode cX10_isThere 59 = .ok (.iload 4, 2) := by decide +kernel
theorem dX10_isThere_61 : decode cX10_isThere 61 = .ok (.if_icmp .ne 7, 3) := by decide +kernel
theorem dX10_isThere_64 : decode cX10_isThere 64 = .ok (.iconst 1, 1) := by decide +kernel
theorem dX10_isThere_65 : decode cX10_isThere 65 = .ok (.goto 4, 3) := by decide +kernel
theorem dX10_isThere_68 : decode cX10_isThere 68 = .ok (.iconst 0, 1) := by decide +kernel
theorem dX10_isThere_69 : decode cX10_isThere 69 = .ok (.ior, 1) := by decide +kernel
theorem dX10_isThere_70 : decode cX10_isThere 70 = .ok (.istore 5, 2) := by decide +kernel
theorem dX10_isThere_72 : decode cX10_isThere 72 = .ok (.iinc 6 1, 3) := by decide +kernel
theorem dX10_isThere_75 : decode cX10_isThere 75 = .ok (.goto (-69), 3) := by decide +kernel
theorem dX10_isThere_78 : decode cX10_isThere 78 = .ok (.iload 5, 2) := by decide +kernel
theorem dX10_isThere_80 : decode cX10_isThere 80 = .ok (.ireturn, 1) := by decide +kernel
theorem dX10_addRule_0 : decode cX10_addRule 0 = .ok (.aload_n 0, 1) := by decide +kernel
theorem dX10_addRule_1 : decode cX10_addRule 1 = .ok (.iload_n 1, 1) := by decide +kernel
theorem dX10_addRule_2 : decode cX10_addRule 2 = .ok (.invokevirtual 71, 3) := by decide +kernel
theorem dX10_addRule_5 : decode cX10_addRule 5 = .ok (.ifCond .eq 30, 3) := by decide +kernel
theorem dX10_addRule_8 : decode cX10_addRule 8 = .ok (.aload_n 0, 1) := by decide +kernel
theorem dX10_addRule_9 : decode cX10_addRule 9 = .ok (.iload_n 2, 1) := by decide +kernel
theorem dX10_addRule_10 : decode cX10_addRule 10 = .ok (.invokevirtual 52, 3) := by decide +kernel
theorem dX10_addRule_13 : decode cX10_addRule 13 = .ok (.ifCond .eq 22, 3) := by decide +kernel
theorem dX10_addRule_16 : decode cX10_addRule 16 = .ok (.aload_n 0, 1) := by decide +kernel
theorem dX10_addRule_17 : decode cX10_addRule 17 = .ok (.iload_n 3, 1) := by decide +kernel
theorem dX10_addRule_18 : decode cX10_addRule 18 = .ok (.invokevirtual 71, 3) := by decide +kernel
theorem dX10_addRule_21 : decode cX10_addRule 21 = .ok (.ifCond .eq 14, 3) := by decide +kernel
theorem dX10_addRule_24 : decode cX10_addRule 24 = .ok (.aload_n 0, 1) := by decide +kernel
theorem dX10_addRule_25 : decode cX10_addRule 25 = .ok (.iload 4, 2) := by decide +kernel
theorem dX10_addRule_27 : decode cX10_addRule 27 = .ok (.iconst 0, 1) := by decide +kernel
theorem dX10_addRule_28 : decode cX10_addRule 28 = .ok (.iconst 2, 1) := by decide +kernel
theorem dX10_addRule_29 : decode cX10_addRule 29 = .ok (.invokevirtual 74, 3) := by decide +kernel
theorem dX10_addRule_32 : decode cX10_addRule 32 = .ok (.ifCond .ne 5, 3) := by decide +kernel
theorem dX10_addRule_35 : decode cX10_addRule 35 = .ok (.iconst (-1), 1) := by decide +kernel
theorem dX10_addRule_36 : decode cX10_addRule 36 = .ok (.ireturn, 1) := by decide +kernel
theorem dX10_addRule_37 : decode cX10_addRule 37 = .ok (.iload 5, 2) := by decide +kernel
theorem dX10_addRule_39 : decode cX10_addRule 39 = .ok (.iconst 1, 1) := by decide +kernel
theorem dX10_addRule_40 : decode cX10_addRule 40 = .ok (.bipush 20, 2) := by decide +kernel
theorem dX10_addRule_42 : decode cX10_addRule 42 = .ok (.invokestatic 44, 3) := by decide +kernel
theorem dX10_addRule_45 : decode cX10_addRule 45 = .ok (.ifCond .ne 6, 3) := by decide +kernel
theorem dX10_addRule_48 : decode cX10_addRule 48 = .ok (.bipush (-2), 2) := by decide +kernel
theorem dX10_addRule_50 : decode cX10_addRule 50 = .ok (.ireturn, 1) := by decide +kernel
theorem dX10_addRule_51 : decode cX10_addRule 51 = .ok (.aload_n 0, 1) := by decide +kernel
theorem dX10_addRule_52 : decode cX10_addRule 52 = .ok (.iload_n 1, 1) := by decide +kernel
theorem dX10_addRule_53 : decode cX10_addRule 53 = .ok (.iload_n 2, 1) := by decide +kernel
theorem dX10_addRule_54 : decode cX10_addRule 54 = .ok (.iload_n 3, 1) := by decide +kernel
theorem dX10_addRule_55 : decode cX10_addRule 55 = .ok (.iload 4, 2) := by decide +kernel
theorem dX10_addRule_57 : decode cX10_addRule 57 = .ok (.invokevirtual 77, 3) := by decide +kernel
theorem dX10_addRule_60 : decode cX10_addRule 60 = .ok (.ifCond .eq 6, 3) := by decide +kernel
theorem dX10_addRule_63 : decode cX10_addRule 63 = .ok (.bipush (-3), 2) := by decide +kernel
theorem dX10_addRule_65 : decode cX10_addRule 65 = .ok (.ireturn, 1) := by decide +kernel
theorem dX10_addRule_66 : decode cX10_addRule 66 = .ok (.aload_n 0, 1) := by decide +kernel
theorem dX10_addRule_67 : decode cX10_addRule 67 = .ok (.getfield 7, 3) := by decide +kernel
theorem dX10_addRule_70 : decode cX10_addRule 70 = .ok (.iconst 2, 1) := by decide +kernel
theorem dX10_addRule_71 : decode cX10_addRule 71 = .ok (.iaload, 1) := by decide +kernel
theorem dX10_addRule_72 : decode cX10_addRule 72 = .ok (.bipush 20, 2) := by decide +kernel
theorem dX10_addRule_74 : decode cX10_addRule 74 = .ok (.if_icmp .ne 6, 3) := by decide +kernel
theorem dX10_addRule_77 : decode cX10_addRule 77 = .ok (.bipush (-4), 2) := by decide +kernel
theorem dX10_addRule_79 : decode cX10_addRule 79 = .ok (.ireturn, 1) := by decide +kernel
theorem dX10_addRule_80 : decode cX10_addRule 80 = .ok (.aload_n 0, 1) := by decide +kernel
theorem dX10_addRule_81 : decode cX10_addRule 81 = .ok (.invokevirtual 64, 3) := by decide +kernel
theorem dX10_addRule_84 : decode cX10_addRule 84 = .ok (.aload_n 0, 1) := by decide +kernel
theorem dX10_addRule_85 : decode cX10_addRule 85 = .ok (.aload_n 0, 1) := by decide +kernel
theorem dX10_addRule_86 : decode cX10_addRule 86 = .ok (.getfield 7, 3) := by decide +kernel
theorem dX10_addRule_89 : decode cX10_addRule 89 = .ok (.iconst 2, 1) := by decide +kernel
theorem dX10_addRule_90 : decode cX10_addRule 90 = .ok (.iaload, 1) := by decide +kernel
theorem dX10_addRule_91 : decode cX10_addRule 91 = .ok (.iload_n 1, 1) := by decide +kernel
theorem dX10_addRule_92 : decode cX10_addRule 92 = .ok (.iload_n 2, 1) := by decide +kernel
theorem dX10_addRule_93 : decode cX10_addRule 93 = .ok (.iload_n 3, 1) := by decide +kernel
theorem dX10_addRule_94 : decode cX10_addRule 94 = .ok (.iload 4, 2) := by decide +kernel
theorem dX10_addRule_96 : decode cX10_addRule 96 = .ok (.iload 5, 2) := by decide +kernel
theorem dX10_addRule_98 : decode cX10_addRule 98 = .ok (.invokevirtual 81, 3) := by decide +kernel
theorem dX10_addRule_101 : decode cX10_addRule 101 = .ok (.aload_n 0, 1) := by decide +kernel
theorem dX10_addRule_102 : decode cX10_addRule 102 = .ok (.getfield 7, 3) := by decide +kernel
theorem dX10_addRule_105 : decode cX10_addRule 105 = .ok (.iconst 2, 1) := by decide +kernel
theorem dX10_addRule_106 : decode cX10_addRule 106 = .ok (.dup2, 1) := by decide +kernel
theorem dX10_addRule_107 : decode cX10_addRule 107 = .ok (.iaload, 1) := by decide +kernel
theorem dX10_addRule_108 : decode cX10_addRule 108 = .ok (.iconst 1, 1) := by decide +kernel
theorem dX10_addRule_109 : decode cX10_addRule 109 = .ok (.iadd, 1) := by decide +kernel
theorem dX10_addRule_110 : decode cX10_addRule 110 = .ok (.iastore, 1) := by decide +kernel
theorem dX10_addRule_111 : decode cX10_addRule 111 = .ok (.aload_n 0, 1) := by decide +kernel
theorem dX10_addRule_112 : decode cX10_addRule 112 = .ok (.getfield 7, 3) := by decide +kernel
theorem dX10_addRule_115 : decode cX10_addRule 115 = .ok (.iconst 2, 1) := by decide +kernel
theorem dX10_addRule_116 : decode cX10_addRule 116 = .ok (.iaload, 1) := by decide +kernel
theorem dX10_addRule_117 : decode cX10_addRule 117 = .ok (.iconst 1, 1) := by decide +kernel
theorem dX10_addRule_118 : decode cX10_addRule 118 = .ok (.isub, 1) := by decide +kernel
theorem dX10_addRule_119 : decode cX10_addRule 119 = .ok (.ireturn, 1) := by decide +kernel
theorem dX10_removeRule_0 : decode cX10_removeRule 0 = .ok (.aload_n 0, 1) := by decide +kernel
theorem dX10_removeRule_1 : decode cX10_removeRule 1 = .ok (.iload_n 1, 1) := by decide +kernel
theorem dX10_removeRule_2 : decode cX10_removeRule 2 = .ok (.invokevirtual 85, 3) := by decide +kernel
theorem dX10_removeRule_5 : decode cX10_removeRule 5 = .ok (.ifCond .ne 5, 3) := by decide +kernel
theorem dX10_removeRule_8 : decode cX10_removeRule 8 = .ok (.iconst (-1), 1) := by decide +kernel
theorem dX10_removeRule_9 : decode cX10_removeRule 9 = .ok (.ireturn, 1) := by decide +kernel
theorem dX10_removeRule_10 : decode cX10_removeRule 10 = .ok (.aload_n 0, 1) := by decide +kernel
theorem dX10_removeRule_11 : decode cX10_removeRule 11 = .ok (.invokevirtual 64, 3) := by decide +kernel
theorem dX10_removeRule_14 : decode cX10_removeRule 14 = .ok (.aload_n 0, 1) := by decide +kernel
theorem dX10_removeRule_15 : decode cX10_removeRule 15 = .ok (.getfield 7, 3) := by decide +kernel
theorem dX10_removeRule_18 : decode cX10_removeRule 18 = .ok (.iconst 2, 1) := by decide +kernel
theorem dX10_removeRule_19 : decode cX10_removeRule 19 = .ok (.dup2, 1) := by decide +kernel
theorem dX10_removeRule_20 : decode cX10_removeRule 20 = .ok (.iaload, 1) := by decide +kernel
theorem dX10_removeRule_21 : decode cX10_removeRule 21 = .ok (.iconst 1, 1) := by decide +kernel
theorem dX10_removeRule_22 : decode cX10_removeRule 22 = .ok (.isub, 1) := by decide +kernel
theorem dX10_removeRule_23 : decode cX10_removeRule 23 = .ok (.iastore, 1) := by decide +kernel
theorem dX10_removeRule_24 : decode cX10_removeRule 24 = .ok (.iconst 5, 1) := by decide +kernel
theorem dX10_removeRule_25 : decode cX10_removeRule 25 = .ok (.iconst 5, 1) := by decide +kernel
theorem dX10_removeRule_26 : decode cX10_removeRule 26 = .ok (.iload_n 1, 1) := by decide +kernel
theorem dX10_removeRule_27 : decode cX10_removeRule 27 = .ok (.imul, 1) := by decide +kernel
theorem dX10_removeRule_28 : decode cX10_removeRule 28 = .ok (.iadd, 1) := by decide +kernel
theorem dX10_removeRule_29 : decode cX10_removeRule 29 = .ok (.istore_n 2, 1) := by decide +kernel
theorem dX10_removeRule_30 : decode cX10_removeRule 30 = .ok (.iload_n 2, 1) := by decide +kernel
theorem dX10_removeRule_31 : decode cX10_removeRule 31 = .ok (.iconst 5, 1) := by decide +kernel
theorem dX10_removeRule_32 : decode cX10_removeRule 32 = .ok (.iconst 5, 1) := by decide +kernel
theorem dX10_removeRule_33 : decode cX10_removeRule 33 = .ok (.aload_n 0, 1) := by decide +kernel
theorem dX10_removeRule_34 : decode cX10_removeRule 34 = .ok (.getfield 7, 3) := by decide +kernel
theorem dX10_removeRule_37 : decode cX10_removeRule 37 = .ok (.iconst 2, 1) := by decide +kernel
theorem dX10_removeRule_38 : decode cX10_removeRule 38 = .ok (.iaload, 1) := by decide +kernel
theorem dX10_removeRule_39 : decode cX10_removeRule 39 = .ok (.imul, 1) := by decide +kernel
theorem dX10_removeRule_40 : decode cX10_removeRule 40 = .ok (.iadd, 1) := by decide +kernel
theorem dX10_removeRule_41 : decode cX10_removeRule 41 = .ok (.if_icmp .ge 23, 3) := by decide +kernel
theorem dX10_removeRule_44 : decode cX10_removeRule 44 = .ok (.aload_n 0, 1) := by decide +kernel
theorem dX10_removeRule_45 : decode cX10_removeRule 45 = .ok (.getfield 7, 3) := by decide +kernel
theorem dX10_removeRule_48 : decode cX10_removeRule 48 = .ok (.iload_n 2, 1) := by decide +kernel
theorem dX10_removeRule_49 : decode cX10_removeRule 49 = .ok (.aload_n 0, 1) := by decide +kernel
theorem dX10_removeRule_50 : decode cX10_removeRule 50 = .ok (.getfield 7, 3) := by decide +kernel
theorem dX10_removeRule_53 : decode cX10_removeRule 53 = .ok (.iload_n 2, 1) := by decide +kernel
theorem dX10_removeRule_54 : decode cX10_removeRule 54 = .ok (.iconst 5, 1) := by decide +kernel
theorem dX10_removeRule_55 : decode cX10_removeRule 55 = .ok (.iadd, 1) := by decide +kernel
theorem dX10_removeRule_56 : decode cX10_removeRule 56 = .ok (.iaload, 1) := by decide +kernel
theorem dX10_removeRule_57 : decode cX10_removeRule 57 = .ok (.iastore, 1) := by decide +kernel
theorem dX10_removeRule_58 : decode cX10_removeRule 58 = .ok (.iinc 2 1, 3) := by decide +kernel
theorem dX10_removeRule_61 : decode cX10_removeRule 61 = .ok (.goto (-31), 3) := by decide +kernel
theorem dX10_removeRule_64 : decode cX10_removeRule 64 = .ok (.aload_n 0, 1) := by decide +kernel
theorem dX10_removeRule_65 : decode cX10_removeRule 65 = .ok (.getfield 7, 3) := by decide +kernel
theorem dX10_removeRule_68 : decode cX10_removeRule 68 = .ok (.iconst 2, 1) := by decide +kernel
theorem dX10_removeRule_69 : decode cX10_removeRule 69 = .ok (.iaload, 1) := by decide +kernel
theorem dX10_removeRule_70 : decode cX10_removeRule 70 = .ok (.ireturn, 1) := by decide +kernel
theorem dX10_setWeight_0 : decode cX10_setWeight 0 = .ok (.aload_n 0, 1) := by decide +kernel
theorem dX10_setWeight_1 : decode cX10_setWeight 1 = .ok (.iload_n 1, 1) := by decide +kernel
theorem dX10_setWeight_2 : decode cX10_setWeight 2 = .ok (.invokevirtual 85, 3) := by decide +kernel
theorem dX10_setWeight_5 : decode cX10_setWeight 5 = .ok (.ifCond .ne 5, 3) := by decide +kernel
theorem dX10_setWeight_8 : decode cX10_setWeight 8 = .ok (.iconst (-1), 1) := by decide +kernel
theorem dX10_setWeight_9 : decode cX10_setWeight 9 = .ok (.ireturn, 1) := by decide +kernel
theorem dX10_setWeight_10 : decode cX10_setWeight 10 = .ok (.iload_n 2, 1) := by decide +kernel
theorem dX10_setWeight_11 : decode cX10_setWeight 11 = .ok (.iconst 1, 1) := by decide +kernel
theorem dX10_setWeight_12 : decode cX10_setWeight 12 = .ok (.bipush 20, 2) := by decide +kernel
theorem dX10_setWeight_14 : decode cX10_setWeight 14 = .ok (.invokestatic 44, 3) := by decide +kernel
theorem dX10_setWeight_17 : decode cX10_setWeight 17 = .ok (.ifCond .ne 6, 3) := by decide +kernel
theorem dX10_setWeight_20 : decode cX10_setWeight 20 = .ok (.bipush (-2), 2) := by decide +kernel
theorem dX10_setWeight_22 : decode cX10_setWeight 22 = .ok (.ireturn, 1) := by decide +kernel
theorem dX10_setWeight_23 : decode cX10_setWeight 23 = .ok (.aload_n 0, 1) := by decide +kernel
theorem dX10_setWeight_24 : decode cX10_setWeight 24 = .ok (.invokevirtual 64, 3) := by decide +kernel
theorem dX10_setWeight_27 : decode cX10_setWeight 27 = .ok (.aload_n 0, 1) := by decide +kernel
theorem dX10_setWeight_28 : decode cX10_setWeight 28 = .ok (.iload_n 1, 1) := by decide +kernel
theorem dX10_setWeight_29 : decode cX10_setWeight 29 = .ok (.iconst 4, 1) := by decide +kernel
theorem dX10_setWeight_30 : decode cX10_setWeight 30 = .ok (.invokevirtual 67, 3) := by decide +kernel
theorem dX10_setWeight_33 : decode cX10_setWeight 33 = .ok (.istore_n 3, 1) := by decide +kernel
theorem dX10_setWeight_34 : decode cX10_setWeight 34 = .ok (.aload_n 0, 1) := by decide +kernel
theorem dX10_setWeight_35 : decode cX10_setWeight 35 = .ok (.getfield 7, 3) := by decide +kernel
theorem dX10_setWeight_38 : decode cX10_setWeight 38 = .ok (.iconst 5, 1) := by decide +kernel
theorem dX10_setWeight_39 : decode cX10_setWeight 39 = .ok (.iconst 5, 1) := by decide +kernel
theorem dX10_setWeight_40 : decode cX10_setWeight 40 = .ok (.iload_n 1, 1) := by decide +kernel
theorem dX10_setWeight_41 : decode cX10_setWeight 41 = .ok (.imul, 1) := by decide +kernel
theorem dX10_setWeight_42 : decode cX10_setWeight 42 = .ok (.iadd, 1) := by decide +kernel
theorem dX10_setWeight_43 : decode cX10_setWeight 43 = .ok (.iconst 4, 1) := by decide +kernel
theorem dX10_setWeight_44 : decode cX10_setWeight 44 = .ok (.iadd, 1) := by decide +kernel
theorem dX10_setWeight_45 : decode cX10_setWeight 45 = .ok (.iload_n 2, 1) := by decide +kernel
theorem dX10_setWeight_46 : decode cX10_setWeight 46 = .ok (.iastore, 1) := by decide +kernel
theorem dX10_setWeight_47 : decode cX10_setWeight 47 = .ok (.iload_n 3, 1) := by decide +kernel
theorem dX10_setWeight_48 : decode cX10_setWeight 48 = .ok (.ireturn, 1) := by decide +kernel
theorem dX10_setStart_0 : decode cX10_setStart 0 = .ok (.aload_n 0, 1) := by decide +kernel
theorem dX10_setStart_1 : decode cX10_setStart 1 = .ok (.iload_n 1, 1) := by decide +kernel
theorem dX10_setStart_2 : decode cX10_setStart 2 = .ok (.invokevirtual 71, 3) := by decide +kernel
theorem dX10_setStart_5 : decode cX10_setStart 5 = .ok (.ifCond .eq 13, 3) := by decide +kernel
theorem dX10_setStart_8 : decode cX10_setStart 8 = .ok (.aload_n 0, 1) := by decide +kernel
theorem dX10_setStart_9 : decode cX10_setStart 9 = .ok (.iload_n 2, 1) := by decide +kernel
theorem dX10_setStart_10 : decode cX10_setStart 10 = .ok (.iconst 1, 1) := by decide +kernel
theorem dX10_setStart_11 : decode cX10_setStart 11 = .ok (.iconst 4, 1) := by decide +kernel
theorem dX10_setStart_12 : decode cX10_setStart 12 = .ok (.invokevirtual 74, 3) := by decide +kernel
theorem dX10_setStart_15 : decode cX10_setStart 15 = .ok (.ifCond .ne 5, 3) := by decide +kernel
theorem dX10_setStart_18 : decode cX10_setStart 18 = .ok (.iconst (-1), 1) := by decide +kernel
theorem dX10_setStart_19 : decode cX10_setStart 19 = .ok (.ireturn, 1) := by decide +kernel
theorem dX10_setStart_20 : decode cX10_setStart 20 = .ok (.aload_n 0, 1) := by decide +kernel
theorem dX10_setStart_21 : decode cX10_setStart 21 = .ok (.invokevirtual 64, 3) := by decide +kernel
theorem dX10_setStart_24 : decode cX10_setStart 24 = .ok (.aload_n 0, 1) := by decide +kernel
theorem dX10_setStart_25 : decode cX10_setStart 25 = .ok (.getfield 7, 3) := by decide +kernel
theorem dX10_setStart_28 : decode cX10_setStart 28 = .ok (.iconst 4, 1) := by decide +kernel
theorem dX10_setStart_29 : decode cX10_setStart 29 = .ok (.iaload, 1) := by decide +kernel
theorem dX10_setStart_30 : decode cX10_setStart 30 = .ok (.invokestatic 48, 3) := by decide +kernel
theorem dX10_setStart_33 : decode cX10_setStart 33 = .ok (.istore_n 3, 1) := by decide +kernel
theorem dX10_setStart_34 : decode cX10_setStart 34 = .ok (.aload_n 0, 1) := by decide +kernel
theorem dX10_setStart_35 : decode cX10_setStart 35 = .ok (.getfield 7, 3) := by decide +kernel
theorem dX10_setStart_38 : decode cX10_setStart 38 = .ok (.iconst 3, 1) := by decide +kernel
theorem dX10_setStart_39 : decode cX10_setStart 39 = .ok (.iload_n 1, 1) := by decide +kernel
theorem dX10_setStart_40 : decode cX10_setStart 40 = .ok (.iastore, 1) := by decide +kernel
theorem dX10_setStart_41 : decode cX10_setStart 41 = .ok (.aload_n 0, 1) := by decide +kernel
theorem dX10_setStart_42 : decode cX10_setStart 42 = .ok (.getfield 7, 3) := by decide +kernel
theorem dX10_setStart_45 : decode cX10_setStart 45 = .ok (.iconst 4, 1) := by decide +kernel
theorem dX10_setStart_46 : decode cX10_setStart 46 = .ok (.iload_n 2, 1) := by decide +kernel
theorem dX10_setStart_47 : decode cX10_setStart 47 = .ok (.iastore, 1) := by decide +kernel
theorem dX10_setStart_48 : decode cX10_setStart 48 = .ok (.iload_n 3, 1) := by decide +kernel
theorem dX10_setStart_49 : decode cX10_setStart 49 = .ok (.ireturn, 1) := by decide +kernel
theorem dX10_undo_0 : decode cX10_undo 0 = .ok (.aload_n 0, 1) := by decide +kernel
theorem dX10_undo_1 : decode cX10_undo 1 = .ok (.getfield 60, 3) := by decide +kernel
theorem dX10_undo_4 : decode cX10_undo 4 = .ok (.ifCond .ne 6, 3) := by decide +kernel
theorem dX10_undo_7 : decode cX10_undo 7 = .ok (.bipush (-5), 2) := by decide +kernel
theorem dX10_undo_9 : decode cX10_undo 9 = .ok (.ireturn, 1) := by decide +kernel
theorem dX10_undo_10 : decode cX10_undo 10 = .ok (.aload_n 0, 1) := by decide +kernel
theorem dX10_undo_11 : decode cX10_undo 11 = .ok (.dup, 1) := by decide +kernel
theorem dX10_undo_12 : decode cX10_undo 12 = .ok (.getfield 60, 3) := by decide +kernel
theorem dX10_undo_15 : decode cX10_undo 15 = .ok (.iconst 1, 1) := by decide +kernel
theorem dX10_undo_16 : decode cX10_undo 16 = .ok (.isub, 1) := by decide +kernel
theorem dX10_undo_17 : decode cX10_undo 17 = .ok (.putfield 60, 3) := by decide +kernel
theorem dX10_undo_20 : decode cX10_undo 20 = .ok (.aload_n 0, 1) := by decide +kernel
theorem dX10_undo_21 : decode cX10_undo 21 = .ok (.iconst 0, 1) := by decide +kernel
theorem dX10_undo_22 : decode cX10_undo 22 = .ok (.putfield 56, 3) := by decide +kernel
theorem dX10_undo_25 : decode cX10_undo 25 = .ok (.iconst 0, 1) := by decide +kernel
theorem dX10_undo_26 : decode cX10_undo 26 = .ok (.istore_n 1, 1) := by decide +kernel
theorem dX10_undo_27 : decode cX10_undo 27 = .ok (.iload_n 1, 1) := by decide +kernel
theorem dX10_undo_28 : decode cX10_undo 28 = .ok (.bipush 105, 2) := by decide +kernel
theorem dX10_undo_30 : decode cX10_undo 30 = .ok (.if_icmp .ge 29, 3) := by decide +kernel
theorem dX10_undo_33 : decode cX10_undo 33 = .ok (.aload_n 0, 1) := by decide +kernel
theorem dX10_undo_34 : decode cX10_undo 34 = .ok (.getfield 7, 3) := by decide +kernel
theorem dX10_undo_37 : decode cX10_undo 37 = .ok (.iload_n 1, 1) := by decide +kernel
theorem dX10_undo_38 : decode cX10_undo 38 = .ok (.aload_n 0, 1) := by decide +kernel
theorem dX10_undo_39 : decode cX10_undo 39 = .ok (.getfield 13, 3) := by decide +kernel
theorem dX10_undo_42 : decode cX10_undo 42 = .ok (.bipush 105, 2) := by decide +kernel
theorem dX10_undo_44 : decode cX10_undo 44 = .ok (.aload_n 0, 1) := by decide +kernel
theorem dX10_undo_45 : decode cX10_undo 45 = .ok (.getfield 60, 3) := by decide +kernel
theorem dX10_undo_48 : decode cX10_undo 48 = .ok (.imul, 1) := by decide +kernel
theorem dX10_undo_49 : decode cX10_undo 49 = .ok (.iload_n 1, 1) := by decide +kernel
theorem dX10_undo_50 : decode cX10_undo 50 = .ok (.iadd, 1) := by decide +kernel
theorem dX10_undo_51 : decode cX10_undo 51 = .ok (.iaload, 1) := by decide +kernel
theorem dX10_undo_52 : decode cX10_undo 52 = .ok (.iastore, 1) := by decide +kernel
theorem dX10_undo_53 : decode cX10_undo 53 = .ok (.iinc 1 1, 3) := by decide +kernel
theorem dX10_undo_56 : decode cX10_undo 56 = .ok (.goto (-29), 3) := by decide +kernel
theorem dX10_undo_59 : decode cX10_undo 59 = .ok (.aload_n 0, 1) := by decide +kernel
theorem dX10_undo_60 : decode cX10_undo 60 = .ok (.getfield 60, 3) := by decide +kernel
theorem dX10_undo_63 : decode cX10_undo 63 = .ok (.ireturn, 1) := by decide +kernel
theorem dX10_rulesBy_0 : decode cX10_rulesBy 0 = .ok (.iconst 0, 1) := by decide +kernel
theorem dX10_rulesBy_1 : decode cX10_rulesBy 1 = .ok (.istore_n 2, 1) := by decide +kernel
theorem dX10_rulesBy_2 : decode cX10_rulesBy 2 = .ok (.iconst 0, 1) := by decide +kernel
theorem dX10_rulesBy_3 : decode cX10_rulesBy 3 = .ok (.istore_n 3, 1) := by decide +kernel
theorem dX10_rulesBy_4 : decode cX10_rulesBy 4 = .ok (.iload_n 3, 1) := by decide +kernel
theorem dX10_rulesBy_5 : decode cX10_rulesBy 5 = .ok (.aload_n 0, 1) := by decide +kernel
theorem dX10_rulesBy_6 : decode cX10_rulesBy 6 = .ok (.getfield 7, 3) := by decide +kernel
theorem dX10_rulesBy_9 : decode cX10_rulesBy 9 = .ok (.iconst 2, 1) := by decide +kernel
theorem dX10_rulesBy_10 : decode cX10_rulesBy 10 = .ok (.iaload, 1) := by decide +kernel
theorem dX10_rulesBy_11 : decode cX10_rulesBy 11 = .ok (.if_icmp .ge 30, 3) := by decide +kernel
theorem dX10_rulesBy_14 : decode cX10_rulesBy 14 = .ok (.iload_n 2, 1) := by decide +kernel
theorem dX10_rulesBy_15 : decode cX10_rulesBy 15 = .ok (.aload_n 0, 1) := by decide +kernel
theorem dX10_rulesBy_16 : decode cX10_rulesBy 16 = .ok (.iload_n 3, 1) := by decide +kernel
theorem dX10_rulesBy_17 : decode cX10_rulesBy 17 = .ok (.iconst 3, 1) := by decide +kernel
theorem dX10_rulesBy_18 : decode cX10_rulesBy 18 = .ok (.invokevirtual 67, 3) := by decide +kernel
theorem dX10_rulesBy_21 : decode cX10_rulesBy 21 = .ok (.invokestatic 48, 3) := by decide +kernel
theorem dX10_rulesBy_24 : decode cX10_rulesBy 24 = .ok (.iload_n 1, 1) := by decide +kernel
theorem dX10_rulesBy_25 : decode cX10_rulesBy 25 = .ok (.if_icmp .ne 7, 3) := by decide +kernel
theorem dX10_rulesBy_28 : decode cX10_rulesBy 28 = .ok (.iconst 1, 1) := by decide +kernel
theorem dX10_rulesBy_29 : decode cX10_rulesBy 29 = .ok (.goto 4, 3) := by decide +kernel
theorem dX10_rulesBy_32 : decode cX10_rulesBy 32 = .ok (.iconst 0, 1) := by decide +kernel
theorem dX10_rulesBy_33 : decode cX10_rulesBy 33 = .ok (.iadd, 1) := by decide +kernel
theorem dX10_rulesBy_34 : decode cX10_rulesBy 34 = .ok (.istore_n 2, 1) := by decide +kernel
theorem dX10_rulesBy_35 : decode cX10_rulesBy 35 = .ok (.iinc 3 1, 3) := by decide +kernel
theorem dX10_rulesBy_38 : decode cX10_rulesBy 38 = .ok (.goto (-34), 3) := by decide +kernel
theorem dX10_rulesBy_41 : decode cX10_rulesBy 41 = .ok (.iload_n 2, 1) := by decide +kernel
theorem dX10_rulesBy_42 : decode cX10_rulesBy 42 = .ok (.ireturn, 1) := by decide +kernel
theorem dX10_told_0 : decode cX10_told 0 = .ok (.iload_n 1, 1) := by decide +kernel
theorem dX10_told_1 : decode cX10_told 1 = .ok (.iconst 0, 1) := by decide +kernel
theorem dX10_told_2 : decode cX10_told 2 = .ok (.bipush 7, 2) := by decide +kernel
theorem dX10_told_4 : decode cX10_told 4 = .ok (.invokestatic 44, 3) := by decide +kernel
theorem dX10_told_7 : decode cX10_told 7 = .ok (.ifCond .ne 6, 3) := by decide +kernel
theorem dX10_told_10 : decode cX10_told 10 = .ok (.bipush (-2), 2) := by decide +kernel
theorem dX10_told_12 : decode cX10_told 12 = .ok (.ireturn, 1) := by decide +kernel
theorem dX10_told_13 : decode cX10_told 13 = .ok (.iload_n 1, 1) := by decide +kernel
theorem dX10_told_14 : decode cX10_told 14 = .ok (.iconst 5, 1) := by decide +kernel
theorem dX10_told_15 : decode cX10_told 15 = .ok (.if_icmp .ge 12, 3) := by decide +kernel
theorem dX10_told_18 : decode cX10_told 18 = .ok (.aload_n 0, 1) := by decide +kernel
theorem dX10_told_19 : decode cX10_told 19 = .ok (.getfield 7, 3) := by decide +kernel
theorem dX10_told_22 : decode cX10_told 22 = .ok (.iload_n 1, 1) := by decide +kernel
theorem dX10_told_23 : decode cX10_told 23 = .ok (.iaload, 1) := by decide +kernel
theorem dX10_told_24 : decode cX10_told 24 = .ok (.goto 10, 3) := by decide +kernel
theorem dX10_told_27 : decode cX10_told 27 = .ok (.aload_n 0, 1) := by decide +kernel
theorem dX10_told_28 : decode cX10_told 28 = .ok (.iload_n 1, 1) := by decide +kernel
theorem dX10_told_29 : decode cX10_told 29 = .ok (.iconst 5, 1) := by decide +kernel
theorem dX10_told_30 : decode cX10_told 30 = .ok (.isub, 1) := by decide +kernel
theorem dX10_told_31 : decode cX10_told 31 = .ok (.invokevirtual 88, 3) := by decide +kernel
theorem dX10_told_34 : decode cX10_told 34 = .ok (.ireturn, 1) := by decide +kernel
theorem dX10_rule_0 : decode cX10_rule 0 = .ok (.aload_n 0, 1) := by decide +kernel
theorem dX10_rule_1 : decode cX10_rule 1 = .ok (.iload_n 1, 1) := by decide +kernel
theorem dX10_rule_2 : decode cX10_rule 2 = .ok (.invokevirtual 85, 3) := by decide +kernel
theorem dX10_rule_5 : decode cX10_rule 5 = .ok (.ifCond .ne 5, 3) := by decide +kernel
theorem dX10_rule_8 : decode cX10_rule 8 = .ok (.iconst (-1), 1) := by decide +kernel
theorem dX10_rule_9 : decode cX10_rule 9 = .ok (.ireturn, 1) := by decide +kernel
theorem dX10_rule_10 : decode cX10_rule 10 = .ok (.iload_n 2, 1) := by decide +kernel
theorem dX10_rule_11 : decode cX10_rule 11 = .ok (.iconst 0, 1) := by decide +kernel
theorem dX10_rule_12 : decode cX10_rule 12 = .ok (.iconst 4, 1) := by decide +kernel
theorem dX10_rule_13 : decode cX10_rule 13 = .ok (.invokestatic 44, 3) := by decide +kernel
theorem dX10_rule_16 : decode cX10_rule 16 = .ok (.ifCond .eq 12, 3) := by decide +kernel
theorem dX10_rule_19 : decode cX10_rule 19 = .ok (.aload_n 0, 1) := by decide +kernel
theorem dX10_rule_20 : decode cX10_rule 20 = .ok (.iload_n 1, 1) := by decide +kernel
theorem dX10_rule_21 : decode cX10_rule 21 = .ok (.iload_n 2, 1) := by decide +kernel
theorem dX10_rule_22 : decode cX10_rule 22 = .ok (.invokevirtual 67, 3) := by decide +kernel
theorem dX10_rule_25 : decode cX10_rule 25 = .ok (.goto 5, 3) := by decide +kernel
theorem dX10_rule_28 : decode cX10_rule 28 = .ok (.bipush (-2), 2) := by decide +kernel
theorem dX10_rule_30 : decode cX10_rule 30 = .ok (.ireturn, 1) := by decide +kernel
theorem dX10_way_0 : decode cX10_way 0 = .ok (.aload_n 0, 1) := by decide +kernel
theorem dX10_way_1 : decode cX10_way 1 = .ok (.getfield 19, 3) := by decide +kernel
theorem dX10_way_4 : decode cX10_way 4 = .ok (.bipush 55, 2) := by decide +kernel
theorem dX10_way_6 : decode cX10_way 6 = .ok (.iload_n 1, 1) := by decide +kernel
theorem dX10_way_7 : decode cX10_way 7 = .ok (.imul, 1) := by decide +kernel
theorem dX10_way_8 : decode cX10_way 8 = .ok (.bipush 11, 2) := by decide +kernel
theorem dX10_way_10 : decode cX10_way 10 = .ok (.iload_n 2, 1) := by decide +kernel
theorem dX10_way_11 : decode cX10_way 11 = .ok (.iconst 1, 1) := by decide +kernel
theorem dX10_way_12 : decode cX10_way 12 = .ok (.isub, 1) := by decide +kernel
theorem dX10_way_13 : decode cX10_way 13 = .ok (.imul, 1) := by decide +kernel
theorem dX10_way_14 : decode cX10_way 14 = .ok (.iadd, 1) := by decide +kernel
theorem dX10_way_15 : decode cX10_way 15 = .ok (.iload_n 3, 1) := by decide +kernel
theorem dX10_way_16 : decode cX10_way 16 = .ok (.iadd, 1) := by decide +kernel
theorem dX10_way_17 : decode cX10_way 17 = .ok (.laload, 1) := by decide +kernel
theorem dX10_way_18 : decode cX10_way 18 = .ok (.lreturn, 1) := by decide +kernel
theorem dX10_improve_0 : decode cX10_improve 0 = .ok (.bipush 55, 2) := by decide +kernel
theorem dX10_improve_2 : decode cX10_improve 2 = .ok (.iload_n 1, 1) := by decide +kernel
theorem dX10_improve_3 : decode cX10_improve 3 = .ok (.imul, 1) := by decide +kernel
theorem dX10_improve_4 : decode cX10_improve 4 = .ok (.bipush 11, 2) := by decide +kernel
theorem dX10_improve_6 : decode cX10_improve 6 = .ok (.iload_n 2, 1) := by decide +kernel
theorem dX10_improve_7 : decode cX10_improve 7 = .ok (.iconst 1, 1) := by decide +kernel
theorem dX10_improve_8 : decode cX10_improve 8 = .ok (.isub, 1) := by decide +kernel
theorem dX10_improve_9 : decode cX10_improve 9 = .ok (.imul, 1) := by decide +kernel
theorem dX10_improve_10 : decode cX10_improve 10 = .ok (.iadd, 1) := by decide +kernel
theorem dX10_improve_11 : decode cX10_improve 11 = .ok (.iload_n 3, 1) := by decide +kernel
theorem dX10_improve_12 : decode cX10_improve 12 = .ok (.iadd, 1) := by decide +kernel
theorem dX10_improve_13 : decode cX10_improve 13 = .ok (.istore 6, 2) := by decide +kernel
theorem dX10_improve_15 : decode cX10_improve 15 = .ok (.lload 4, 2) := by decide +kernel
theorem dX10_improve_17 : decode cX10_improve 17 = .ok (.aload_n 0, 1) := by decide +kernel
theorem dX10_improve_18 : decode cX10_improve 18 = .ok (.getfield 19, 3) := by decide +kernel
theorem dX10_improve_21 : decode cX10_improve 21 = .ok (.iload 6, 2) := by decide +kernel
theorem dX10_improve_23 : decode cX10_improve 23 = .ok (.laload, 1) := by decide +kernel
theorem dX10_improve_24 : decode cX10_improve 24 = .ok (.lcmp, 1) := by decide +kernel
theorem dX10_improve_25 : decode cX10_improve 25 = .ok (.ifCond .ge 16, 3) := by decide +kernel
theorem dX10_improve_28 : decode cX10_improve 28 = .ok (.lload 4, 2) := by decide +kernel
theorem dX10_improve_30 : decode cX10_improve 30 = .ok (.ldc2_w 91, 3) := by decide +kernel
theorem dX10_improve_33 : decode cX10_improve 33 = .ok (.lcmp, 1) := by decide +kernel
theorem dX10_improve_34 : decode cX10_improve 34 = .ok (.ifCond .ge 7, 3) := by decide +kernel
theorem dX10_improve_37 : decode cX10_improve 37 = .ok (.iconst 1, 1) := by decide +kernel
theorem dX10_improve_38 : decode cX10_improve 38 = .ok (.goto 4, 3) := by decide +kernel
theorem dX10_improve_41 : decode cX10_improve 41 = .ok (.iconst 0, 1) := by decide +kernel
theorem dX10_improve_42 : decode cX10_improve 42 = .ok (.istore 7, 2) := by decide +kernel
theorem dX10_improve_44 : decode cX10_improve 44 = .ok (.aload_n 0, 1) := by decide +kernel
theorem dX10_improve_45 : decode cX10_improve 45 = .ok (.getfield 19, 3) := by decide +kernel
theorem dX10_improve_48 : decode cX10_improve 48 = .ok (.iload 6, 2) := by decide +kernel
theorem dX10_improve_50 : decode cX10_improve 50 = .ok (.iload 7, 2) := by decide +kernel
theorem dX10_improve_52 : decode cX10_improve 52 = .ok (.ifCond .eq 8, 3) := by decide +kernel
theorem dX10_improve_55 : decode cX10_improve 55 = .ok (.lload 4, 2) := by decide +kernel
theorem dX10_improve_57 : decode cX10_improve 57 = .ok (.goto 10, 3) := by decide +kernel
theorem dX10_improve_60 : decode cX10_improve 60 = .ok (.aload_n 0, 1) := by decide +kernel
theorem dX10_improve_61 : decode cX10_improve 61 = .ok (.getfield 19, 3) := by decide +kernel
theorem dX10_improve_64 : decode cX10_improve 64 = .ok (.iload 6, 2) := by decide +kernel
theorem dX10_improve_66 : decode cX10_improve 66 = .ok (.laload, 1) := by decide +kernel
theorem dX10_improve_67 : decode cX10_improve 67 = .ok (.lastore, 1) := by decide +kernel
theorem dX10_improve_68 : decode cX10_improve 68 = .ok (.iload 7, 2) := by decide +kernel
theorem dX10_improve_70 : decode cX10_improve 70 = .ok (.ireturn, 1) := by decide +kernel
theorem dX10_cost_0 : decode cX10_cost 0 = .ok (.ldc2_w 93, 3) := by decide +kernel
theorem dX10_cost_3 : decode cX10_cost 3 = .ok (.aload_n 0, 1) := by decide +kernel
theorem dX10_cost_4 : decode cX10_cost 4 = .ok (.iload_n 1, 1) := by decide +kernel
theorem dX10_cost_5 : decode cX10_cost 5 = .ok (.iconst 4, 1) := by decide +kernel
theorem dX10_cost_6 : decode cX10_cost 6 = .ok (.invokevirtual 67, 3) := by decide +kernel
theorem dX10_cost_9 : decode cX10_cost 9 = .ok (.i2l, 1) := by decide +kernel
theorem dX10_cost_10 : decode cX10_cost 10 = .ok (.lmul, 1) := by decide +kernel
theorem dX10_cost_11 : decode cX10_cost 11 = .ok (.lconst 1, 1) := by decide +kernel
theorem dX10_cost_12 : decode cX10_cost 12 = .ok (.ladd, 1) := by decide +kernel
theorem dX10_cost_13 : decode cX10_cost 13 = .ok (.lreturn, 1) := by decide +kernel
theorem dX10_follow_0 : decode cX10_follow 0 = .ok (.aload_n 0, 1) := by decide +kernel
theorem dX10_follow_1 : decode cX10_follow 1 = .ok (.iload_n 1, 1) := by decide +kernel
theorem dX10_follow_2 : decode cX10_follow 2 = .ok (.iconst 3, 1) := by decide +kernel
theorem dX10_follow_3 : decode cX10_follow 3 = .ok (.invokevirtual 67, 3) := by decide +kernel
theorem dX10_follow_6 : decode cX10_follow 6 = .ok (.istore_n 2, 1) := by decide +kernel
theorem dX10_follow_7 : decode cX10_follow 7 = .ok (.iload_n 2, 1) := by decide +kernel
theorem dX10_follow_8 : decode cX10_follow 8 = .ok (.invokestatic 48, 3) := by decide +kernel
theorem dX10_follow_11 : decode cX10_follow 11 = .ok (.istore_n 3, 1) := by decide +kernel
theorem dX10_follow_12 : decode cX10_follow 12 = .ok (.iconst 0, 1) := by decide +kernel
theorem dX10_follow_13 : decode cX10_follow 13 = .ok (.istore 4, 2) := by decide +kernel
theorem dX10_follow_15 : decode cX10_follow 15 = .ok (.iconst 0, 1) := by decide +kernel
theorem dX10_follow_16 : decode cX10_follow 16 = .ok (.istore 5, 2) := by decide +kernel
theorem dX10_follow_18 : decode cX10_follow 18 = .ok (.iload 5, 2) := by decide +kernel
theorem dX10_follow_20 : decode cX10_follow 20 = .ok (.bipush 11, 2) := by decide +kernel
theorem dX10_follow_22 : decode cX10_follow 22 = .ok (.if_icmp .ge 201, 3) := by decide +kernel
theorem dX10_follow_25 : decode cX10_follow 25 = .ok (.ldc2_w 91, 3) := by decide +kernel
theorem dX10_follow_28 : decode cX10_follow 28 = .ok (.lstore 6, 2) := by decide +kernel
theorem dX10_follow_30 : decode cX10_follow 30 = .ok (.iload_n 3, 1) := by decide +kernel
theorem dX10_follow_31 : decode cX10_follow 31 = .ok (.ifCond .ne 26, 3) := by decide +kernel
theorem dX10_follow_34 : decode cX10_follow 34 = .ok (.iload 5, 2) := by decide +kernel
theorem dX10_follow_36 : decode cX10_follow 36 = .ok (.aload_n 0, 1) := by decide +kernel
theorem dX10_follow_37 : decode cX10_follow 37 = .ok (.iload_n 1, 1) := by decide +kernel
theorem dX10_follow_38 : decode cX10_follow 38 = .ok (.iconst 2, 1) := by decide +kernel
theorem dX10_follow_39 : decode cX10_follow 39 = .ok (.invokevirtual 67, 3) := by decide +kernel
theorem dX10_follow_42 : decode cX10_follow 42 = .ok (.if_icmp .ne 7, 3) := by decide +kernel
theorem dX10_follow_45 : decode cX10_follow 45 = .ok (.lconst 0, 1) := by decide +kernel
theorem dX10_follow_46 : decode cX10_follow 46 = .ok (.goto 6, 3) := by decide +kernel
theorem dX10_follow_49 : decode cX10_follow 49 = .ok (.ldc2_w 91, 3) := by decide +kernel
theorem dX10_follow_52 : decode cX10_follow 52 = .ok (.lstore 6, 2) := by decide +kernel
theorem dX10_follow_54 : decode cX10_follow 54 = .ok (.goto 115, 3) := by decide +kernel
theorem dX10_follow_57 : decode cX10_follow 57 = .ok (.iload_n 3, 1) := by decide +kernel
theorem dX10_follow_58 : decode cX10_follow 58 = .ok (.iconst 1, 1) := by decide +kernel
theorem dX10_follow_59 : decode cX10_follow 59 = .ok (.if_icmp .ne 21, 3) := by decide +kernel
theorem dX10_follow_62 : decode cX10_follow 62 = .ok (.aload_n 0, 1) := by decide +kernel
theorem dX10_follow_63 : decode cX10_follow 63 = .ok (.aload_n 0, 1) := by decide +kernel
theorem dX10_follow_64 : decode cX10_follow 64 = .ok (.iload_n 1, 1) := by decide +kernel
theorem dX10_follow_65 : decode cX10_follow 65 = .ok (.iconst 2, 1) := by decide +kernel
theorem dX10_follow_66 : decode cX10_follow 66 = .ok (.invokevirtual 67, 3) := by decide +kernel
theorem dX10_follow_69 : decode cX10_follow 69 = .ok (.iload_n 2, 1) := by decide +kernel
theorem dX10_follow_70 : decode cX10_follow 70 = .ok (.iload 5, 2) := by decide +kernel
theorem dX10_follow_72 : decode cX10_follow 72 = .ok (.invokevirtual 95, 3) := by decide +kernel
theorem dX10_follow_75 : decode cX10_follow 75 = .ok (.lstore 6, 2) := by decide +kernel
theorem dX10_follow_77 : decode cX10_follow 77 = .ok (.goto 92, 3) := by decide +kernel
theorem dX10_follow_80 : decode cX10_follow 80 = .ok (.iconst 0, 1) := by decide +kernel
theorem dX10_follow_81 : decode cX10_follow 81 = .ok (.istore 8, 2) := by decide +kernel
theorem dX10_follow_83 : decode cX10_follow 83 = .ok (.iload 8, 2) := by decide +kernel
theorem dX10_follow_85 : decode cX10_follow 85 = .ok (.bipush 11, 2) := by decide +kernel
theorem dX10_follow_87 : decode cX10_follow 87 = .ok (.if_icmp .ge 82, 3) := by decide +kernel
theorem dX10_follow_90 : decode cX10_follow 90 = .ok (.aload_n 0, 1) := by decide +kernel
theorem dX10_follow_91 : decode cX10_follow 91 = .ok (.aload_n 0, 1) := by decide +kernel
theorem dX10_follow_92 : decode cX10_follow 92 = .ok (.iload_n 1, 1) := by decide +kernel
theorem dX10_follow_93 : decode cX10_follow 93 = .ok (.iconst 2, 1) := by decide +kernel
theorem dX10_follow_94 : decode cX10_follow 94 = .ok (.invokevirtual 67, 3) := by decide +kernel
theorem dX10_follow_97 : decode cX10_follow 97 = .ok (.iload_n 2, 1) := by decide +kernel
theorem dX10_follow_98 : decode cX10_follow 98 = .ok (.bipush 10, 2) := by decide +kernel
theorem dX10_follow_100 : decode cX10_follow 100 = .ok (.idiv, 1) := by decide +kernel
theorem dX10_follow_101 : decode cX10_follow 101 = .ok (.iload 8, 2) := by decide +kernel
theorem dX10_follow_103 : decode cX10_follow 103 = .ok (.invokevirtual 95, 3) := by decide +kernel
theorem dX10_follow_106 : decode cX10_follow 106 = .ok (.lstore 9, 2) := by decide +kernel
theorem dX10_follow_108 : decode cX10_follow 108 = .ok (.aload_n 0, 1) := by decide +kernel
theorem dX10_follow_109 : decode cX10_follow 109 = .ok (.iload 8, 2) := by decide +kernel
theorem dX10_follow_111 : decode cX10_follow 111 = .ok (.iload_n 2, 1) := by decide +kernel
theorem dX10_follow_112 : decode cX10_follow 112 = .ok (.bipush 10, 2) := by decide +kernel
theorem dX10_follow_114 : decode cX10_follow 114 = .ok (.irem, 1) := by decide +kernel
theorem dX10_follow_115 : decode cX10_follow 115 = .ok (.iload 5, 2) := by decide +kernel
theorem dX10_follow_117 : decode cX10_follow 117 = .ok (.invokevirtual 95, 3) := by decide +kernel
theorem dX10_follow_120 : decode cX10_follow 120 = .ok (.lstore 11, 2) := by decide +kernel
theorem dX10_follow_122 : decode cX10_follow 122 = .ok (.lload 9, 2) := by decide +kernel
theorem dX10_follow_124 : decode cX10_follow 124 = .ok (.ldc2_w 91, 3) := by decide +kernel
theorem dX10_follow_127 : decode cX10_follow 127 = .ok (.lcmp, 1) := by decide +kernel
theorem dX10_follow_128 : decode cX10_follow 128 = .ok (.ifCond .ge 31, 3) := by decide +kernel
theorem dX10_follow_131 : decode cX10_follow 131 = .ok (.lload 11, 2) := by decide +kernel
theorem dX10_follow_133 : decode cX10_follow 133 = .ok (.ldc2_w 91, 3) := by decide +kernel
theorem dX10_follow_136 : decode cX10_follow 136 = .ok (.lcmp, 1) := by decide +kernel
theorem dX10_follow_137 : decode cX10_follow 137 = .ok (.ifCond .ge 22, 3) := by decide +kernel
theorem dX10_follow_140 : decode cX10_follow 140 = .ok (.lload 9, 2) := by decide +kernel
theorem dX10_follow_142 : decode cX10_follow 142 = .ok (.lload 11, 2) := by decide +kernel
theorem dX10_follow_144 : decode cX10_follow 144 = .ok (.ladd, 1) := by decide +kernel
theorem dX10_follow_145 : decode cX10_follow 145 = .ok (.lload 6, 2) := by decide +kernel
theorem dX10_follow_147 : decode cX10_follow 147 = .ok (.lcmp, 1) := by decide +kernel
theorem dX10_follow_148 : decode cX10_follow 148 = .ok (.ifCond .ge 11, 3) := by decide +kernel
theorem dX10_follow_151 : decode cX10_follow 151 = .ok (.lload 9, 2) := by decide +kernel
theorem dX10_follow_153 : decode cX10_follow 153 = .ok (.lload 11, 2) := by decide +kernel
theorem dX10_follow_155 : decode cX10_follow 155 = .ok (.ladd, 1) := by decide +kernel
theorem dX10_follow_156 : decode cX10_follow 156 = .ok (.goto 5, 3) := by decide +kernel
theorem dX10_follow_159 : decode cX10_follow 159 = .ok (.lload 6, 2) := by decide +kernel
theorem dX10_follow_161 : decode cX10_follow 161 = .ok (.lstore 6, 2) := by decide +kernel
theorem dX10_follow_163 : decode cX10_follow 163 = .ok (.iinc 8 1, 3) := by decide +kernel
theorem dX10_follow_166 : decode cX10_follow 166 = .ok (.goto (-83), 3) := by decide +kernel
theorem dX10_follow_169 : decode cX10_follow 169 = .ok (.iload 4, 2) := by decide +kernel
theorem dX10_follow_171 : decode cX10_follow 171 = .ok (.lload 6, 2) := by decide +kernel
theorem dX10_follow_173 : decode cX10_follow 173 = .ok (.ldc2_w 91, 3) := by decide +kernel
theorem dX10_follow_176 : decode cX10_follow 176 = .ok (.lcmp, 1) := by decide +kernel
theorem dX10_follow_177 : decode cX10_follow 177 = .ok (.ifCond .ge 36, 3) := by decide +kernel
theorem dX10_follow_180 : decode cX10_follow 180 = .ok (.aload_n 0, 1) := by decide +kernel
theorem dX10_follow_181 : decode cX10_follow 181 = .ok (.aload_n 0, 1) := by decide +kernel
theorem dX10_follow_182 : decode cX10_follow 182 = .ok (.iload_n 1, 1) := by decide +kernel
theorem dX10_follow_183 : decode cX10_follow 183 = .ok (.iconst 0, 1) := by decide +kernel
theorem dX10_follow_184 : decode cX10_follow 184 = .ok (.invokevirtual 67, 3) := by decide +kernel
theorem dX10_follow_187 : decode cX10_follow 187 = .ok (.aload_n 0, 1) := by decide +kernel
theorem dX10_follow_188 : decode cX10_follow 188 = .ok (.iload_n 1, 1) := by decide +kernel
theorem dX10_follow_189 : decode cX10_follow 189 = .ok (.iconst 1, 1) := by decide +kernel
theorem dX10_follow_190 : decode cX10_follow 190 = .ok (.invokevirtual 67, 3) := by decide +kernel
theorem dX10_follow_193 : decode cX10_follow 193 = .ok (.iload 5, 2) := by decide +kernel
theorem dX10_follow_195 : decode cX10_follow 195 = .ok (.lload 6, 2) := by decide +kernel
theorem dX10_follow_197 : decode cX10_follow 197 = .ok (.aload_n 0, 1) := by decide +kernel
theorem dX10_follow_198 : decode cX10_follow 198 = .ok (.iload_n 1, 1) := by decide +kernel
theorem dX10_follow_199 : decode cX10_follow 199 = .ok (.invokevirtual 99, 3) := by decide +kernel
theorem dX10_follow_202 : decode cX10_follow 202 = .ok (.ladd, 1) := by decide +kernel
theorem dX10_follow_203 : decode cX10_follow 203 = .ok (.invokevirtual 103, 3) := by decide +kernel
theorem dX10_follow_206 : decode cX10_follow 206 = .ok (.ifCond .eq 7, 3) := by decide +kernel
theorem dX10_follow_209 : decode cX10_follow 209 = .ok (.iconst 1, 1) := by decide +kernel
theorem dX10_follow_210 : decode cX10_follow 210 = .ok (.goto 4, 3) := by decide +kernel
theorem dX10_follow_213 : decode cX10_follow 213 = .ok (.iconst 0, 1) := by decide +kernel
theorem dX10_follow_214 : decode cX10_follow 214 = .ok (.ior, 1) := by decide +kernel
theorem dX10_follow_215 : decode cX10_follow 215 = .ok (.istore 4, 2) := by decide +kernel
theorem dX10_follow_217 : decode cX10_follow 217 = .ok (.iinc 5 1, 3) := by decide +kernel
theorem dX10_follow_220 : decode cX10_follow 220 = .ok (.goto (-202), 3) := by decide +kernel
theorem dX10_follow_223 : decode cX10_follow 223 = .ok (.iload 4, 2) := by decide +kernel
theorem dX10_follow_225 : decode cX10_follow 225 = .ok (.ireturn, 1) := by decide +kernel
theorem dX10_aim_0 : decode cX10_aim 0 = .ok (.iconst 0, 1) := by decide +kernel
theorem dX10_aim_1 : decode cX10_aim 1 = .ok (.istore 4, 2) := by decide +kernel
theorem dX10_aim_3 : decode cX10_aim 3 = .ok (.iload 4, 2) := by decide +kernel
theorem dX10_aim_5 : decode cX10_aim 5 = .ok (.sipush 605, 3) := by decide +kernel
theorem dX10_aim_8 : decode cX10_aim 8 = .ok (.if_icmp .ge 19, 3) := by decide +kernel
theorem dX10_aim_11 : decode cX10_aim 11 = .ok (.aload_n 0, 1) := by decide +kernel
theorem dX10_aim_12 : decode cX10_aim 12 = .ok (.getfield 19, 3) := by decide +kernel
theorem dX10_aim_15 : decode cX10_aim 15 = .ok (.iload 4, 2) := by decide +kernel
theorem dX10_aim_17 : decode cX10_aim 17 = .ok (.ldc2_w 91, 3) := by decide +kernel
theorem dX10_aim_20 : decode cX10_aim 20 = .ok (.lastore, 1) := by decide +kernel
theorem dX10_aim_21 : decode cX10_aim 21 = .ok (.iinc 4 1, 3) := by decide +kernel
theorem dX10_aim_24 : decode cX10_aim 24 = .ok (.goto (-21), 3) := by decide +kernel
theorem dX10_aim_27 : decode cX10_aim 27 = .ok (.iload_n 2, 1) := by decide +kernel
theorem dX10_aim_28 : decode cX10_aim 28 = .ok (.invokestatic 48, 3) := by decide +kernel
theorem dX10_aim_31 : decode cX10_aim 31 = .ok (.istore 4, 2) := by decide +kernel
theorem dX10_aim_33 : decode cX10_aim 33 = .ok (.iload_n 1, 1) := by decide +kernel
theorem dX10_aim_34 : decode cX10_aim 34 = .ok (.istore 5, 2) := by decide +kernel
theorem dX10_aim_36 : decode cX10_aim 36 = .ok (.iconst 0, 1) := by decide +kernel
theorem dX10_aim_37 : decode cX10_aim 37 = .ok (.istore 6, 2) := by decide +kernel
theorem dX10_aim_39 : decode cX10_aim 39 = .ok (.iload 6, 2) := by decide +kernel
theorem dX10_aim_41 : decode cX10_aim 41 = .ok (.iload 4, 2) := by decide +kernel
theorem dX10_aim_43 : decode cX10_aim 43 = .ok (.if_icmp .ge 36, 3) := by decide +kernel
theorem dX10_aim_46 : decode cX10_aim 46 = .ok (.aload_n 0, 1) := by decide +kernel
theorem dX10_aim_47 : decode cX10_aim 47 = .ok (.iload 5, 2) := by decide +kernel
theorem dX10_aim_49 : decode cX10_aim 49 = .ok (.iload_n 2, 1) := by decide +kernel
theorem dX10_aim_50 : decode cX10_aim 50 = .ok (.iload 4, 2) := by decide +kernel
theorem dX10_aim_52 : decode cX10_aim 52 = .ok (.iload 6, 2) := by decide +kernel
theorem dX10_aim_54 : decode cX10_aim 54 = .ok (.invokestatic 107, 3) := by decide +kernel
theorem dX10_aim_57 : decode cX10_aim 57 = .ok (.iconst 5, 1) := by decide +kernel
theorem dX10_aim_58 : decode cX10_aim 58 = .ok (.iload 6, 2) := by decide +kernel
theorem dX10_aim_60 : decode cX10_aim 60 = .ok (.iadd, 1) := by decide +kernel
theorem dX10_aim_61 : decode cX10_aim 61 = .ok (.lconst 0, 1) := by decide +kernel
theorem dX10_aim_62 : decode cX10_aim 62 = .ok (.invokevirtual 103, 3) := by decide +kernel
theorem dX10_aim_65 : decode cX10_aim 65 = .ok (.istore 7, 2) := by decide +kernel
theorem dX10_aim_67 : decode cX10_aim 67 = .ok (.iconst 5, 1) := by decide +kernel
theorem dX10_aim_68 : decode cX10_aim 68 = .ok (.iload 6, 2) := by decide +kernel
theorem dX10_aim_70 : decode cX10_aim 70 = .ok (.iadd, 1) := by decide +kernel
theorem dX10_aim_71 : decode cX10_aim 71 = .ok (.istore 5, 2) := by decide +kernel
theorem dX10_aim_73 : decode cX10_aim 73 = .ok (.iinc 6 1, 3) := by decide +kernel
theorem dX10_aim_76 : decode cX10_aim 76 = .ok (.goto (-37), 3) := by decide +kernel
theorem dX10_aim_79 : decode cX10_aim 79 = .ok (.aload_n 0, 1) := by decide +kernel
theorem dX10_aim_80 : decode cX10_aim 80 = .ok (.iload 5, 2) := by decide +kernel
theorem dX10_aim_82 : decode cX10_aim 82 = .ok (.putfield 111, 3) := by decide +kernel
theorem dX10_aim_85 : decode cX10_aim 85 = .ok (.aload_n 0, 1) := by decide +kernel
theorem dX10_aim_86 : decode cX10_aim 86 = .ok (.iload_n 3, 1) := by decide +kernel
theorem dX10_aim_87 : decode cX10_aim 87 = .ok (.putfield 114, 3) := by decide +kernel
theorem dX10_aim_90 : decode cX10_aim 90 = .ok (.iconst 1, 1) := by decide +kernel
theorem dX10_aim_91 : decode cX10_aim 91 = .ok (.istore 6, 2) := by decide +kernel
theorem dX10_aim_93 : decode cX10_aim 93 = .ok (.iload 6, 2) := by decide +kernel
theorem dX10_aim_95 : decode cX10_aim 95 = .ok (.ifCond .eq 57, 3) := by decide +kernel
theorem dX10_aim_98 : decode cX10_aim 98 = .ok (.iconst 0, 1) := by decide +kernel
theorem dX10_aim_99 : decode cX10_aim 99 = .ok (.istore 6, 2) := by decide +kernel
theorem dX10_aim_101 : decode cX10_aim 101 = .ok (.iconst 0, 1) := by decide +kernel
theorem dX10_aim_102 : decode cX10_aim 102 = .ok (.istore 7, 2) := by decide +kernel
theorem dX10_aim_104 : decode cX10_aim 104 = .ok (.iload 7, 2) := by decide +kernel
theorem dX10_aim_106 : decode cX10_aim 106 = .ok (.aload_n 0, 1) := by decide +kernel
theorem dX10_aim_107 : decode cX10_aim 107 = .ok (.getfield 7, 3) := by decide +kernel
theorem dX10_aim_110 : decode cX10_aim 110 = .ok (.iconst 2, 1) := by decide +kernel
theorem dX10_aim_111 : decode cX10_aim 111 = .ok (.iaload, 1) := by decide +kernel
theorem dX10_aim_112 : decode cX10_aim 112 = .ok (.if_icmp .ge 37, 3) := by decide +kernel
theorem dX10_aim_115 : decode cX10_aim 115 = .ok (.iload 6, 2) := by decide +kernel
theorem dX10_aim_117 : decode cX10_aim 117 = .ok (.iload 7, 2) := by decide +kernel
theorem dX10_aim_119 : decode cX10_aim 119 = .ok (.aload_n 0, 1) := by decide +kernel
theorem dX10_aim_120 : decode cX10_aim 120 = .ok (.getfield 114, 3) := by decide +kernel
theorem dX10_aim_123 : decode cX10_aim 123 = .ok (.if_icmp .eq 16, 3) := by decide +kernel
theorem dX10_aim_126 : decode cX10_aim 126 = .ok (.aload_n 0, 1) := by decide +kernel
theorem dX10_aim_127 : decode cX10_aim 127 = .ok (.iload 7, 2) := by decide +kernel
theorem dX10_aim_129 : decode cX10_aim 129 = .ok (.invokevirtual 117, 3) := by decide +kernel
theorem dX10_aim_132 : decode cX10_aim 132 = .ok (.ifCond .eq 7, 3) := by decide +kernel
theorem dX10_aim_135 : decode cX10_aim 135 = .ok (.iconst 1, 1) := by decide +kernel
theorem dX10_aim_136 : decode cX10_aim 136 = .ok (.goto 4, 3) := by decide +kernel
theorem dX10_aim_139 : decode cX10_aim 139 = .ok (.iconst 0, 1) := by decide +kernel
theorem dX10_aim_140 : decode cX10_aim 140 = .ok (.ior, 1) := by decide +kernel
theorem dX10_aim_141 : decode cX10_aim 141 = .ok (.istore 6, 2) := by decide +kernel
theorem dX10_aim_143 : decode cX10_aim 143 = .ok (.iinc 7 1, 3) := by decide +kernel
theorem dX10_aim_146 : decode cX10_aim 146 = .ok (.goto (-42), 3) := by decide +kernel
theorem dX10_aim_149 : decode cX10_aim 149 = .ok (.goto (-56), 3) := by decide +kernel
theorem dX10_aim_152 : decode cX10_aim 152 = .ok (.return_, 1) := by decide +kernel
theorem dX10_push_0 : decode cX10_push 0 = .ok (.iconst 0, 1) := by decide +kernel
theorem dX10_push_1 : decode cX10_push 1 = .ok (.istore_n 2, 1) := by decide +kernel
theorem dX10_push_2 : decode cX10_push 2 = .ok (.iload_n 2, 1) := by decide +kernel
theorem dX10_push_3 : decode cX10_push 3 = .ok (.bipush 11, 2) := by decide +kernel
theorem dX10_push_5 : decode cX10_push 5 = .ok (.if_icmp .ge 111, 3) := by decide +kernel
theorem dX10_push_8 : decode cX10_push 8 = .ok (.ldc2_w 91, 3) := by decide +kernel
theorem dX10_push_11 : decode cX10_push 11 = .ok (.lstore_n 3, 1) := by decide +kernel
theorem dX10_push_12 : decode cX10_push 12 = .ok (.iconst 0, 1) := by decide +kernel
theorem dX10_push_13 : decode cX10_push 13 = .ok (.istore 5, 2) := by decide +kernel
theorem dX10_push_15 : decode cX10_push 15 = .ok (.iload 5, 2) := by decide +kernel
theorem dX10_push_17 : decode cX10_push 17 = .ok (.bipush 11, 2) := by decide +kernel
theorem dX10_push_19 : decode cX10_push 19 = .ok (.if_icmp .ge 74, 3) := by decide +kernel
theorem dX10_push_22 : decode cX10_push 22 = .ok (.aload_n 0, 1) := by decide +kernel
theorem dX10_push_23 : decode cX10_push 23 = .ok (.iload_n 2, 1) := by decide +kernel
theorem dX10_push_24 : decode cX10_push 24 = .ok (.iload_n 1, 1) := by decide +kernel
theorem dX10_push_25 : decode cX10_push 25 = .ok (.iload 5, 2) := by decide +kernel
theorem dX10_push_27 : decode cX10_push 27 = .ok (.invokevirtual 95, 3) := by decide +kernel
theorem dX10_push_30 : decode cX10_push 30 = .ok (.lstore 6, 2) := by decide +kernel
theorem dX10_push_32 : decode cX10_push 32 = .ok (.aload_n 0, 1) := by decide +kernel
theorem dX10_push_33 : decode cX10_push 33 = .ok (.getfield 26, 3) := by decide +kernel
theorem dX10_push_36 : decode cX10_push 36 = .ok (.bipush 11, 2) := by decide +kernel
theorem dX10_push_38 : decode cX10_push 38 = .ok (.aload_n 0, 1) := by decide +kernel
theorem dX10_push_39 : decode cX10_push 39 = .ok (.getfield 120, 3) := by decide +kernel
theorem dX10_push_42 : decode cX10_push 42 = .ok (.imul, 1) := by decide +kernel
theorem dX10_push_43 : decode cX10_push 43 = .ok (.iload 5, 2) := by decide +kernel
theorem dX10_push_45 : decode cX10_push 45 = .ok (.iadd, 1) := by decide +kernel
theorem dX10_push_46 : decode cX10_push 46 = .ok (.laload, 1) := by decide +kernel
theorem dX10_push_47 : decode cX10_push 47 = .ok (.lstore 8, 2) := by decide +kernel
theorem dX10_push_49 : decode cX10_push 49 = .ok (.lload 6, 2) := by decide +kernel
theorem dX10_push_51 : decode cX10_push 51 = .ok (.ldc2_w 91, 3) := by decide +kernel
theorem dX10_push_54 : decode cX10_push 54 = .ok (.lcmp, 1) := by decide +kernel
theorem dX10_push_55 : decode cX10_push 55 = .ok (.ifCond .ge 30, 3) := by decide +kernel
theorem dX10_push_58 : decode cX10_push 58 = .ok (.lload 8, 2) := by decide +kernel
theorem dX10_push_60 : decode cX10_push 60 = .ok (.ldc2_w 91, 3) := by decide +kernel
theorem dX10_push_63 : decode cX10_push 63 = .ok (.lcmp, 1) := by decide +kernel
theorem dX10_push_64 : decode cX10_push 64 = .ok (.ifCond .ge 21, 3) := by decide +kernel
theorem dX10_push_67 : decode cX10_push 67 = .ok (.lload 6, 2) := by decide +kernel
theorem dX10_push_69 : decode cX10_push 69 = .ok (.lload 8, 2) := by decide +kernel
theorem dX10_push_71 : decode cX10_push 71 = .ok (.ladd, 1) := by decide +kernel
theorem dX10_push_72 : decode cX10_push 72 = .ok (.lload_n 3, 1) := by decide +kernel
theorem dX10_push_73 : decode cX10_push 73 = .ok (.lcmp, 1) := by decide +kernel
theorem dX10_push_74 : decode cX10_push 74 = .ok (.ifCond .ge 11, 3) := by decide +kernel
theorem dX10_push_77 : decode cX10_push 77 = .ok (.lload 6, 2) := by decide +kernel
theorem dX10_push_79 : decode cX10_push 79 = .ok (.lload 8, 2) := by decide +kernel
theorem dX10_push_81 : decode cX10_push 81 = .ok (.ladd, 1) := by decide +kernel
theorem dX10_push_82 : decode cX10_push 82 = .ok (.goto 4, 3) := by decide +kernel
theorem dX10_push_85 : decode cX10_push 85 = .ok (.lload_n 3, 1) := by decide +kernel
theorem dX10_push_86 : decode cX10_push 86 = .ok (.lstore_n 3, 1) := by decide +kernel
theorem dX10_push_87 : decode cX10_push 87 = .ok (.iinc 5 1, 3) := by decide +kernel
theorem dX10_push_90 : decode cX10_push 90 = .ok (.goto (-75), 3) := by decide +kernel
theorem dX10_push_93 : decode cX10_push 93 = .ok (.aload_n 0, 1) := by decide +kernel
theorem dX10_push_94 : decode cX10_push 94 = .ok (.getfield 26, 3) := by decide +kernel
theorem dX10_push_97 : decode cX10_push 97 = .ok (.bipush 11, 2) := by decide +kernel
theorem dX10_push_99 : decode cX10_push 99 = .ok (.aload_n 0, 1) := by decide +kernel
theorem dX10_push_100 : decode cX10_push 100 = .ok (.getfield 120, 3) := by decide +kernel
theorem dX10_push_103 : decode cX10_push 103 = .ok (.iconst 1, 1) := by decide +kernel
theorem dX10_push_104 : decode cX10_push 104 = .ok (.iadd, 1) := by decide +kernel
theorem dX10_push_105 : decode cX10_push 105 = .ok (.imul, 1) := by decide +kernel
theorem dX10_push_106 : decode cX10_push 106 = .ok (.iload_n 2, 1) := by decide +kernel
theorem dX10_push_107 : decode cX10_push 107 = .ok (.iadd, 1) := by decide +kernel
theorem dX10_push_108 : decode cX10_push 108 = .ok (.lload_n 3, 1) := by decide +kernel
theorem dX10_push_109 : decode cX10_push 109 = .ok (.lastore, 1) := by decide +kernel
theorem dX10_push_110 : decode cX10_push 110 = .ok (.iinc 2 1, 3) := by decide +kernel
theorem dX10_push_113 : decode cX10_push 113 = .ok (.goto (-111), 3) := by decide +kernel
theorem dX10_push_116 : decode cX10_push 116 = .ok (.aload_n 0, 1) := by decide +kernel
theorem dX10_push_117 : decode cX10_push 117 = .ok (.getfield 23, 3) := by decide +kernel
theorem dX10_push_120 : decode cX10_push 120 = .ok (.aload_n 0, 1) := by decide +kernel
theorem dX10_push_121 : decode cX10_push 121 = .ok (.getfield 120, 3) := by decide +kernel
theorem dX10_push_124 : decode cX10_push 124 = .ok (.iload_n 1, 1) := by decide +kernel
theorem dX10_push_125 : decode cX10_push 125 = .ok (.iastore, 1) := by decide +kernel
theorem dX10_push_126 : decode cX10_push 126 = .ok (.aload_n 0, 1) := by decide +kernel
theorem dX10_push_127 : decode cX10_push 127 = .ok (.dup, 1) := by decide +kernel
theorem dX10_push_128 : decode cX10_push 128 = .ok (.getfield 120, 3) := by decide +kernel
theorem dX10_push_131 : decode cX10_push 131 = .ok (.iconst 1, 1) := by decide +kernel
theorem dX10_push_132 : decode cX10_push 132 = .ok (.iadd, 1) := by decide +kernel
theorem dX10_push_133 : decode cX10_push 133 = .ok (.putfield 120, 3) := by decide +kernel
theorem dX10_push_136 : decode cX10_push 136 = .ok (.return_, 1) := by decide +kernel
theorem dX10_pushWord_0 : decode cX10_pushWord 0 = .ok (.iload_n 1, 1) := by decide +kernel
theorem dX10_pushWord_1 : decode cX10_pushWord 1 = .ok (.istore_n 2, 1) := by decide +kernel
theorem dX10_pushWord_2 : decode cX10_pushWord 2 = .ok (.iload_n 2, 1) := by decide +kernel
theorem dX10_pushWord_3 : decode cX10_pushWord 3 = .ok (.ifCond .le 19, 3) := by decide +kernel
theorem dX10_pushWord_6 : decode cX10_pushWord 6 = .ok (.aload_n 0, 1) := by decide +kernel
theorem dX10_pushWord_7 : decode cX10_pushWord 7 = .ok (.iload_n 2, 1) := by decide +kernel
theorem dX10_pushWord_8 : decode cX10_pushWord 8 = .ok (.bipush 10, 2) := by decide +kernel
theorem dX10_pushWord_10 : decode cX10_pushWord 10 = .ok (.irem, 1) := by decide +kernel
theorem dX10_pushWord_11 : decode cX10_pushWord 11 = .ok (.invokevirtual 123, 3) := by decide +kernel
theorem dX10_pushWord_14 : decode cX10_pushWord 14 = .ok (.iload_n 2, 1) := by decide +kernel
theorem dX10_pushWord_15 : decode cX10_pushWord 15 = .ok (.bipush 10, 2) := by decide +kernel
theorem dX10_pushWord_17 : decode cX10_pushWord 17 = .ok (.idiv, 1) := by decide +kernel
theorem dX10_pushWord_18 : decode cX10_pushWord 18 = .ok (.istore_n 2, 1) := by decide +kernel
theorem dX10_pushWord_19 : decode cX10_pushWord 19 = .ok (.goto (-17), 3) := by decide +kernel
theorem dX10_pushWord_22 : decode cX10_pushWord 22 = .ok (.return_, 1) := by decide +kernel
theorem dX10_start_0 : decode cX10_start 0 = .ok (.iconst 0, 1) := by decide +kernel
theorem dX10_start_1 : decode cX10_start 1 = .ok (.istore_n 1, 1) := by decide +kernel
theorem dX10_start_2 : decode cX10_start 2 = .ok (.iload_n 1, 1) := by decide +kernel
theorem dX10_start_3 : decode cX10_start 3 = .ok (.bipush 11, 2) := by decide +kernel
theorem dX10_start_5 : decode cX10_start 5 = .ok (.if_icmp .ge 30, 3) := by decide +kernel
theorem dX10_start_8 : decode cX10_start 8 = .ok (.aload_n 0, 1) := by decide +kernel
theorem dX10_start_9 : decode cX10_start 9 = .ok (.getfield 26, 3) := by decide +kernel
theorem dX10_start_12 : decode cX10_start 12 = .ok (.iload_n 1, 1) := by decide +kernel
theorem dX10_start_13 : decode cX10_start 13 = .ok (.iload_n 1, 1) := by decide +kernel
theorem dX10_start_14 : decode cX10_start 14 = .ok (.aload_n 0, 1) := by decide +kernel
theorem dX10_start_15 : decode cX10_start 15 = .ok (.getfield 111, 3) := by decide +kernel
theorem dX10_start_18 : decode cX10_start 18 = .ok (.if_icmp .ne 7, 3) := by decide +kernel
theorem dX10_start_21 : decode cX10_start 21 = .ok (.lconst 0, 1) := by decide +kernel
theorem dX10_start_22 : decode cX10_start 22 = .ok (.goto 6, 3) := by decide +kernel
theorem dX10_start_25 : decode cX10_start 25 = .ok (.ldc2_w 91, 3) := by decide +kernel
theorem dX10_start_28 : decode cX10_start 28 = .ok (.lastore, 1) := by decide +kernel
theorem dX10_start_29 : decode cX10_start 29 = .ok (.iinc 1 1, 3) := by decide +kernel
theorem dX10_start_32 : decode cX10_start 32 = .ok (.goto (-30), 3) := by decide +kernel
theorem dX10_start_35 : decode cX10_start 35 = .ok (.aload_n 0, 1) := by decide +kernel
theorem dX10_start_36 : decode cX10_start 36 = .ok (.iconst 0, 1) := by decide +kernel
theorem dX10_start_37 : decode cX10_start 37 = .ok (.putfield 120, 3) := by decide +kernel
theorem dX10_start_40 : decode cX10_start 40 = .ok (.aload_n 0, 1) := by decide +kernel
theorem dX10_start_41 : decode cX10_start 41 = .ok (.aload_n 0, 1) := by decide +kernel
theorem dX10_start_42 : decode cX10_start 42 = .ok (.getfield 7, 3) := by decide +kernel
theorem dX10_start_45 : decode cX10_start 45 = .ok (.iconst 4, 1) := by decide +kernel
theorem dX10_start_46 : decode cX10_start 46 = .ok (.iaload, 1) := by decide +kernel
theorem dX10_start_47 : decode cX10_start 47 = .ok (.invokevirtual 127, 3) := by decide +kernel
theorem dX10_start_50 : decode cX10_start 50 = .ok (.aload_n 0, 1) := by decide +kernel
theorem dX10_start_51 : decode cX10_start 51 = .ok (.getfield 26, 3) := by decide +kernel
theorem dX10_start_54 : decode cX10_start 54 = .ok (.bipush 11, 2) := by decide +kernel
theorem dX10_start_56 : decode cX10_start 56 = .ok (.aload_n 0, 1) := by decide +kernel
theorem dX10_start_57 : decode cX10_start 57 = .ok (.getfield 120, 3) := by decide +kernel
theorem dX10_start_60 : decode cX10_start 60 = .ok (.imul, 1) := by decide +kernel
theorem dX10_start_61 : decode cX10_start 61 = .ok (.aload_n 0, 1) := by decide +kernel
theorem dX10_start_62 : decode cX10_start 62 = .ok (.getfield 7, 3) := by decide +kernel
theorem dX10_start_65 : decode cX10_start 65 = .ok (.iconst 3, 1) := by decide +kernel
theorem dX10_start_66 : decode cX10_start 66 = .ok (.iaload, 1) := by decide +kernel
theorem dX10_start_67 : decode cX10_start 67 = .ok (.iadd, 1) := by decide +kernel
theorem dX10_start_68 : decode cX10_start 68 = .ok (.laload, 1) := by decide +kernel
theorem dX10_start_69 : decode cX10_start 69 = .ok (.lreturn, 1) := by decide +kernel
theorem dX10_costTo_0 : decode cX10_costTo 0 = .ok (.aload_n 0, 1) := by decide +kernel
theorem dX10_costTo_1 : decode cX10_costTo 1 = .ok (.iload_n 1, 1) := by decide +kernel
theorem dX10_costTo_2 : decode cX10_costTo 2 = .ok (.iload_n 2, 1) := by decide +kernel
theorem dX10_costTo_3 : decode cX10_costTo 3 = .ok (.iload_n 3, 1) := by decide +kernel
theorem dX10_costTo_4 : decode cX10_costTo 4 = .ok (.invokevirtual 130, 3) := by decide +kernel
theorem dX10_costTo_7 : decode cX10_costTo 7 = .ok (.aload_n 0, 1) := by decide +kernel
theorem dX10_costTo_8 : decode cX10_costTo 8 = .ok (.invokevirtual 134, 3) := by decide +kernel
theorem dX10_costTo_11 : decode cX10_costTo 11 = .ok (.lstore 4, 2) := by decide +kernel
theorem dX10_costTo_13 : decode cX10_costTo 13 = .ok (.lload 4, 2) := by decide +kernel
theorem dX10_costTo_15 : decode cX10_costTo 15 = .ok (.ldc2_w 93, 3) := by decide +kernel
theorem dX10_costTo_18 : decode cX10_costTo 18 = .ok (.ldiv, 1) := by decide +kernel
theorem dX10_costTo_19 : decode cX10_costTo 19 = .ok (.ldc2_w 138, 3) := by decide +kernel
theorem dX10_costTo_22 : decode cX10_costTo 22 = .ok (.lcmp, 1) := by decide +kernel
theorem dX10_costTo_23 : decode cX10_costTo 23 = .ok (.ifCond .le 9, 3) := by decide +kernel
theorem dX10_costTo_26 : decode cX10_costTo 26 = .ok (.ldc2_w 91, 3) := by decide +kernel
theorem dX10_costTo_29 : decode cX10_costTo 29 = .ok (.goto 5, 3) := by decide +kernel
theorem dX10_costTo_32 : decode cX10_costTo 32 = .ok (.lload 4, 2) := by decide +kernel
theorem dX10_costTo_34 : decode cX10_costTo 34 = .ok (.lreturn, 1) := by decide +kernel
theorem dX10_isAsked_0 : decode cX10_isAsked 0 = .ok (.aload_n 0, 1) := by decide +kernel
theorem dX10_isAsked_1 : decode cX10_isAsked 1 = .ok (.iload_n 1, 1) := by decide +kernel
theorem dX10_isAsked_2 : decode cX10_isAsked 2 = .ok (.invokevirtual 71, 3) := by decide +kernel
theorem dX10_isAsked_5 : decode cX10_isAsked 5 = .ok (.ifCond .eq 18, 3) := by decide +kernel
theorem dX10_isAsked_8 : decode cX10_isAsked 8 = .ok (.aload_n 0, 1) := by decide +kernel
theorem dX10_isAsked_9 : decode cX10_isAsked 9 = .ok (.iload_n 2, 1) := by decide +kernel
theorem dX10_isAsked_10 : decode cX10_isAsked 10 = .ok (.iconst 0, 1) := by decide +kernel
theorem dX10_isAsked_11 : decode cX10_isAsked 11 = .ok (.bipush 6, 2) := by decide +kernel
theorem dX10_isAsked_13 : decode cX10_isAsked 13 = .ok (.invokevirtual 74, 3) := by decide +kernel
theorem dX10_isAsked_16 : decode cX10_isAsked 16 = .ok (.ifCond .eq 7, 3) := by decide +kernel
theorem dX10_isAsked_19 : decode cX10_isAsked 19 = .ok (.iconst 1, 1) := by decide +kernel
theorem dX10_isAsked_20 : decode cX10_isAsked 20 = .ok (.goto 4, 3) := by decide +kernel
theorem dX10_isAsked_23 : decode cX10_isAsked 23 = .ok (.iconst 0, 1) := by decide +kernel
theorem dX10_isAsked_24 : decode cX10_isAsked 24 = .ok (.ireturn, 1) := by decide +kernel
theorem dX10_distanceTo_0 : decode cX10_distanceTo 0 = .ok (.aload_n 0, 1) := by decide +kernel
theorem dX10_distanceTo_1 : decode cX10_distanceTo 1 = .ok (.iload_n 1, 1) := by decide +kernel
theorem dX10_distanceTo_2 : decode cX10_distanceTo 2 = .ok (.iload_n 2, 1) := by decide +kernel
theorem dX10_distanceTo_3 : decode cX10_distanceTo 3 = .ok (.iload_n 3, 1) := by decide +kernel
theorem dX10_distanceTo_4 : decode cX10_distanceTo 4 = .ok (.invokevirtual 140, 3) := by decide +kernel
theorem dX10_distanceTo_7 : decode cX10_distanceTo 7 = .ok (.lstore 4, 2) := by decide +kernel
theorem dX10_distanceTo_9 : decode cX10_distanceTo 9 = .ok (.lload 4, 2) := by decide +kernel
theorem dX10_distanceTo_11 : decode cX10_distanceTo 11 = .ok (.ldc2_w 91, 3) := by decide +kernel
theorem dX10_distanceTo_14 : decode cX10_distanceTo 14 = .ok (.lcmp, 1) := by decide +kernel
theorem dX10_distanceTo_15 : decode cX10_distanceTo 15 = .ok (.ifCond .ne 8, 3) := by decide +kernel
theorem dX10_distanceTo_18 : decode cX10_distanceTo 18 = .ok (.bipush (-6), 2) := by decide +kernel
theorem dX10_distanceTo_20 : decode cX10_distanceTo 20 = .ok (.goto 10, 3) := by decide +kernel
theorem dX10_distanceTo_23 : decode cX10_distanceTo 23 = .ok (.lload 4, 2) := by decide +kernel
theorem dX10_distanceTo_25 : decode cX10_distanceTo 25 = .ok (.ldc2_w 93, 3) := by decide +kernel
theorem dX10_distanceTo_28 : decode cX10_distanceTo 28 = .ok (.ldiv, 1) := by decide +kernel
theorem dX10_distanceTo_29 : decode cX10_distanceTo 29 = .ok (.l2i, 1) := by decide +kernel
theorem dX10_distanceTo_30 : decode cX10_distanceTo 30 = .ok (.ireturn, 1) := by decide +kernel
theorem dX10_distance_0 : decode cX10_distance 0 = .ok (.aload_n 0, 1) := by decide +kernel
theorem dX10_distance_1 : decode cX10_distance 1 = .ok (.iload_n 1, 1) := by decide +kernel
theorem dX10_distance_2 : decode cX10_distance 2 = .ok (.iload_n 2, 1) := by decide +kernel
theorem dX10_distance_3 : decode cX10_distance 3 = .ok (.invokevirtual 143, 3) := by decide +kernel
theorem dX10_distance_6 : decode cX10_distance 6 = .ok (.ifCond .eq 13, 3) := by decide +kernel
theorem dX10_distance_9 : decode cX10_distance 9 = .ok (.aload_n 0, 1) := by decide +kernel
theorem dX10_distance_10 : decode cX10_distance 10 = .ok (.iload_n 1, 1) := by decide +kernel
theorem dX10_distance_11 : decode cX10_distance 11 = .ok (.iload_n 2, 1) := by decide +kernel
theorem dX10_distance_12 : decode cX10_distance 12 = .ok (.iconst (-1), 1) := by decide +kernel
theorem dX10_distance_13 : decode cX10_distance 13 = .ok (.invokevirtual 147, 3) := by decide +kernel
theorem dX10_distance_16 : decode cX10_distance 16 = .ok (.goto 4, 3) := by decide +kernel
theorem dX10_distance_19 : decode cX10_distance 19 = .ok (.iconst (-1), 1) := by decide +kernel
theorem dX10_distance_20 : decode cX10_distance 20 = .ok (.ireturn, 1) := by decide +kernel
theorem dX10_steps_0 : decode cX10_steps 0 = .ok (.aload_n 0, 1) := by decide +kernel
theorem dX10_steps_1 : decode cX10_steps 1 = .ok (.iload_n 1, 1) := by decide +kernel
theorem dX10_steps_2 : decode cX10_steps 2 = .ok (.iload_n 2, 1) := by decide +kernel
theorem dX10_steps_3 : decode cX10_steps 3 = .ok (.invokevirtual 143, 3) := by decide +kernel
theorem dX10_steps_6 : decode cX10_steps 6 = .ok (.ifCond .ne 5, 3) := by decide +kernel
theorem dX10_steps_9 : decode cX10_steps 9 = .ok (.iconst (-1), 1) := by decide +kernel
theorem dX10_steps_10 : decode cX10_steps 10 = .ok (.ireturn, 1) := by decide +kernel
theorem dX10_steps_11 : decode cX10_steps 11 = .ok (.aload_n 0, 1) := by decide +kernel
theorem dX10_steps_12 : decode cX10_steps 12 = .ok (.iload_n 1, 1) := by decide +kernel
theorem dX10_steps_13 : decode cX10_steps 13 = .ok (.iload_n 2, 1) := by decide +kernel
theorem dX10_steps_14 : decode cX10_steps 14 = .ok (.iconst (-1), 1) := by decide +kernel
theorem dX10_steps_15 : decode cX10_steps 15 = .ok (.invokevirtual 140, 3) := by decide +kernel
theorem dX10_steps_18 : decode cX10_steps 18 = .ok (.lstore_n 3, 1) := by decide +kernel
theorem dX10_steps_19 : decode cX10_steps 19 = .ok (.lload_n 3, 1) := by decide +kernel
theorem dX10_steps_20 : decode cX10_steps 20 = .ok (.ldc2_w 91, 3) := by decide +kernel
theorem dX10_steps_23 : decode cX10_steps 23 = .ok (.lcmp, 1) := by decide +kernel
theorem dX10_steps_24 : decode cX10_steps 24 = .ok (.ifCond .ne 8, 3) := by decide +kernel
theorem dX10_steps_27 : decode cX10_steps 27 = .ok (.bipush (-6), 2) := by decide +kernel
theorem dX10_steps_29 : decode cX10_steps 29 = .ok (.goto 9, 3) := by decide +kernel
theorem dX10_steps_32 : decode cX10_steps 32 = .ok (.lload_n 3, 1) := by decide +kernel
theorem dX10_steps_33 : decode cX10_steps 33 = .ok (.ldc2_w 93, 3) := by decide +kernel
theorem dX10_steps_36 : decode cX10_steps 36 = .ok (.lrem, 1) := by decide +kernel
theorem dX10_steps_37 : decode cX10_steps 37 = .ok (.l2i, 1) := by decide +kernel
theorem dX10_steps_38 : decode cX10_steps 38 = .ok (.ireturn, 1) := by decide +kernel
theorem dX10_firstOf_0 : decode cX10_firstOf 0 = .ok (.iconst 0, 1) := by decide +kernel
theorem dX10_firstOf_1 : decode cX10_firstOf 1 = .ok (.istore 5, 2) := by decide +kernel
theorem dX10_firstOf_3 : decode cX10_firstOf 3 = .ok (.iload 5, 2) := by decide +kernel
theorem dX10_firstOf_5 : decode cX10_firstOf 5 = .ok (.aload_n 0, 1) := by decide +kernel
theorem dX10_firstOf_6 : decode cX10_firstOf 6 = .ok (.getfield 7, 3) := by decide +kernel
theorem dX10_firstOf_9 : decode cX10_firstOf 9 = .ok (.iconst 2, 1) := by decide +kernel
theorem dX10_firstOf_10 : decode cX10_firstOf 10 = .ok (.iaload, 1) := by decide +kernel
theorem dX10_firstOf_11 : decode cX10_firstOf 11 = .ok (.if_icmp .ge 187, 3) := by decide +kernel
theorem dX10_firstOf_14 : decode cX10_firstOf 14 = .ok (.aload_n 0, 1) := by decide +kernel
theorem dX10_firstOf_15 : decode cX10_firstOf 15 = .ok (.iload 5, 2) := by decide +kernel
theorem dX10_firstOf_17 : decode cX10_firstOf 17 = .ok (.iconst 0, 1) := by decide +kernel
theorem dX10_firstOf_18 : decode cX10_firstOf 18 = .ok (.invokevirtual 67, 3) := by decide +kernel
theorem dX10_firstOf_21 : decode cX10_firstOf 21 = .ok (.iload_n 1, 1) := by decide +kernel
theorem dX10_firstOf_22 : decode cX10_firstOf 22 = .ok (.if_icmp .ne 170, 3) := by decide +kernel
theorem dX10_firstOf_25 : decode cX10_firstOf 25 = .ok (.aload_n 0, 1) := by decide +kernel
theorem dX10_firstOf_26 : decode cX10_firstOf 26 = .ok (.iload 5, 2) := by decide +kernel
theorem dX10_firstOf_28 : decode cX10_firstOf 28 = .ok (.iconst 1, 1) := by decide +kernel
theorem dX10_firstOf_29 : decode cX10_firstOf 29 = .ok (.invokevirtual 67, 3) := by decide +kernel
theorem dX10_firstOf_32 : decode cX10_firstOf 32 = .ok (.aload_n 0, 1) := by decide +kernel
theorem dX10_firstOf_33 : decode cX10_firstOf 33 = .ok (.getfield 23, 3) := by decide +kernel
theorem dX10_firstOf_36 : decode cX10_firstOf 36 = .ok (.aload_n 0, 1) := by decide +kernel
theorem dX10_firstOf_37 : decode cX10_firstOf 37 = .ok (.getfield 120, 3) := by decide +kernel
theorem dX10_firstOf_40 : decode cX10_firstOf 40 = .ok (.iconst 1, 1) := by decide +kernel
theorem dX10_firstOf_41 : decode cX10_firstOf 41 = .ok (.isub, 1) := by decide +kernel
theorem dX10_firstOf_42 : decode cX10_firstOf 42 = .ok (.iaload, 1) := by decide +kernel
theorem dX10_firstOf_43 : decode cX10_firstOf 43 = .ok (.if_icmp .ne 149, 3) := by decide +kernel
theorem dX10_firstOf_46 : decode cX10_firstOf 46 = .ok (.aload_n 0, 1) := by decide +kernel
theorem dX10_firstOf_47 : decode cX10_firstOf 47 = .ok (.getfield 23, 3) := by decide +kernel
theorem dX10_firstOf_50 : decode cX10_firstOf 50 = .ok (.aload_n 0, 1) := by decide +kernel
theorem dX10_firstOf_51 : decode cX10_firstOf 51 = .ok (.getfield 120, 3) := by decide +kernel
theorem dX10_firstOf_54 : decode cX10_firstOf 54 = .ok (.iconst 1, 1) := by decide +kernel
theorem dX10_firstOf_55 : decode cX10_firstOf 55 = .ok (.isub, 1) := by decide +kernel
theorem dX10_firstOf_56 : decode cX10_firstOf 56 = .ok (.iaload, 1) := by decide +kernel
theorem dX10_firstOf_57 : decode cX10_firstOf 57 = .ok (.istore 6, 2) := by decide +kernel
theorem dX10_firstOf_59 : decode cX10_firstOf 59 = .ok (.aload_n 0, 1) := by decide +kernel
theorem dX10_firstOf_60 : decode cX10_firstOf 60 = .ok (.dup, 1) := by decide +kernel
theorem dX10_firstOf_61 : decode cX10_firstOf 61 = .ok (.getfield 120, 3) := by decide +kernel
theorem dX10_firstOf_64 : decode cX10_firstOf 64 = .ok (.iconst 1, 1) := by decide +kernel
theorem dX10_firstOf_65 : decode cX10_firstOf 65 = .ok (.isub, 1) := by decide +kernel
theorem dX10_firstOf_66 : decode cX10_firstOf 66 = .ok (.putfield 120, 3) := by decide +kernel
theorem dX10_firstOf_69 : decode cX10_firstOf 69 = .ok (.aload_n 0, 1) := by decide +kernel
theorem dX10_firstOf_70 : decode cX10_firstOf 70 = .ok (.aload_n 0, 1) := by decide +kernel
theorem dX10_firstOf_71 : decode cX10_firstOf 71 = .ok (.iload 5, 2) := by decide +kernel
theorem dX10_firstOf_73 : decode cX10_firstOf 73 = .ok (.iconst 3, 1) := by decide +kernel
theorem dX10_firstOf_74 : decode cX10_firstOf 74 = .ok (.invokevirtual 67, 3) := by decide +kernel
theorem dX10_firstOf_77 : decode cX10_firstOf 77 = .ok (.invokevirtual 127, 3) := by decide +kernel
theorem dX10_firstOf_80 : decode cX10_firstOf 80 = .ok (.aload_n 0, 1) := by decide +kernel
theorem dX10_firstOf_81 : decode cX10_firstOf 81 = .ok (.getfield 26, 3) := by decide +kernel
theorem dX10_firstOf_84 : decode cX10_firstOf 84 = .ok (.bipush 11, 2) := by decide +kernel
theorem dX10_firstOf_86 : decode cX10_firstOf 86 = .ok (.aload_n 0, 1) := by decide +kernel
theorem dX10_firstOf_87 : decode cX10_firstOf 87 = .ok (.getfield 120, 3) := by decide +kernel
theorem dX10_firstOf_90 : decode cX10_firstOf 90 = .ok (.imul, 1) := by decide +kernel
theorem dX10_firstOf_91 : decode cX10_firstOf 91 = .ok (.aload_n 0, 1) := by decide +kernel
theorem dX10_firstOf_92 : decode cX10_firstOf 92 = .ok (.iload 5, 2) := by decide +kernel
theorem dX10_firstOf_94 : decode cX10_firstOf 94 = .ok (.iconst 2, 1) := by decide +kernel
theorem dX10_firstOf_95 : decode cX10_firstOf 95 = .ok (.invokevirtual 67, 3) := by decide +kernel
theorem dX10_firstOf_98 : decode cX10_firstOf 98 = .ok (.iadd, 1) := by decide +kernel
theorem dX10_firstOf_99 : decode cX10_firstOf 99 = .ok (.laload, 1) := by decide +kernel
theorem dX10_firstOf_100 : decode cX10_firstOf 100 = .ok (.ldc2_w 91, 3) := by decide +kernel
theorem dX10_firstOf_103 : decode cX10_firstOf 103 = .ok (.lcmp, 1) := by decide +kernel
theorem dX10_firstOf_104 : decode cX10_firstOf 104 = .ok (.ifCond .ge 39, 3) := by decide +kernel
theorem dX10_firstOf_107 : decode cX10_firstOf 107 = .ok (.aload_n 0, 1) := by decide +kernel
theorem dX10_firstOf_108 : decode cX10_firstOf 108 = .ok (.getfield 26, 3) := by decide +kernel
theorem dX10_firstOf_111 : decode cX10_firstOf 111 = .ok (.bipush 11, 2) := by decide +kernel
theorem dX10_firstOf_113 : decode cX10_firstOf 113 = .ok (.aload_n 0, 1) := by decide +kernel
theorem dX10_firstOf_114 : decode cX10_firstOf 114 = .ok (.getfield 120, 3) := by decide +kernel
theorem dX10_firstOf_117 : decode cX10_firstOf 117 = .ok (.imul, 1) := by decide +kernel
theorem dX10_firstOf_118 : decode cX10_firstOf 118 = .ok (.aload_n 0, 1) := by decide +kernel
theorem dX10_firstOf_119 : decode cX10_firstOf 119 = .ok (.iload 5, 2) := by decide +kernel
theorem dX10_firstOf_121 : decode cX10_firstOf 121 = .ok (.iconst 2, 1) := by decide +kernel
theorem dX10_firstOf_122 : decode cX10_firstOf 122 = .ok (.invokevirtual 67, 3) := by decide +kernel
theorem dX10_firstOf_125 : decode cX10_firstOf 125 = .ok (.iadd, 1) := by decide +kernel
theorem dX10_firstOf_126 : decode cX10_firstOf 126 = .ok (.laload, 1) := by decide +kernel
theorem dX10_firstOf_127 : decode cX10_firstOf 127 = .ok (.aload_n 0, 1) := by decide +kernel
theorem dX10_firstOf_128 : decode cX10_firstOf 128 = .ok (.iload 5, 2) := by decide +kernel
theorem dX10_firstOf_130 : decode cX10_firstOf 130 = .ok (.invokevirtual 99, 3) := by decide +kernel
theorem dX10_firstOf_133 : decode cX10_firstOf 133 = .ok (.ladd, 1) := by decide +kernel
theorem dX10_firstOf_134 : decode cX10_firstOf 134 = .ok (.lload_n 2, 1) := by decide +kernel
theorem dX10_firstOf_135 : decode cX10_firstOf 135 = .ok (.lcmp, 1) := by decide +kernel
theorem dX10_firstOf_136 : decode cX10_firstOf 136 = .ok (.ifCond .ne 7, 3) := by decide +kernel
theorem dX10_firstOf_139 : decode cX10_firstOf 139 = .ok (.iconst 1, 1) := by decide +kernel
theorem dX10_firstOf_140 : decode cX10_firstOf 140 = .ok (.goto 4, 3) := by decide +kernel
theorem dX10_firstOf_143 : decode cX10_firstOf 143 = .ok (.iconst 0, 1) := by decide +kernel
theorem dX10_firstOf_144 : decode cX10_firstOf 144 = .ok (.istore 7, 2) := by decide +kernel
theorem dX10_firstOf_146 : decode cX10_firstOf 146 = .ok (.iload 7, 2) := by decide +kernel
theorem dX10_firstOf_148 : decode cX10_firstOf 148 = .ok (.ifCond .eq 11, 3) := by decide +kernel
theorem dX10_firstOf_151 : decode cX10_firstOf 151 = .ok (.iload 4, 2) := by decide +kernel
theorem dX10_firstOf_153 : decode cX10_firstOf 153 = .ok (.ifCond .ne 6, 3) := by decide +kernel
theorem dX10_firstOf_156 : decode cX10_firstOf 156 = .ok (.iload 5, 2) := by decide +kernel
theorem dX10_firstOf_158 : decode cX10_firstOf 158 = .ok (.ireturn, 1) := by decide +kernel
theorem dX10_firstOf_159 : decode cX10_firstOf 159 = .ok (.aload_n 0, 1) := by decide +kernel
theorem dX10_firstOf_160 : decode cX10_firstOf 160 = .ok (.dup, 1) := by decide +kernel
theorem dX10_firstOf_161 : decode cX10_firstOf 161 = .ok (.getfield 120, 3) := by decide +kernel
theorem dX10_firstOf_164 : decode cX10_firstOf 164 = .ok (.aload_n 0, 1) := by decide +kernel
theorem dX10_firstOf_165 : decode cX10_firstOf 165 = .ok (.iload 5, 2) := by decide +kernel
theorem dX10_firstOf_167 : decode cX10_firstOf 167 = .ok (.iconst 3, 1) := by decide +kernel
theorem dX10_firstOf_168 : decode cX10_firstOf 168 = .ok (.invokevirtual 67, 3) := by decide +kernel
theorem dX10_firstOf_171 : decode cX10_firstOf 171 = .ok (.invokestatic 48, 3) := by decide +kernel
theorem dX10_firstOf_174 : decode cX10_firstOf 174 = .ok (.isub, 1) := by decide +kernel
theorem dX10_firstOf_175 : decode cX10_firstOf 175 = .ok (.putfield 120, 3) := by decide +kernel
theorem dX10_firstOf_178 : decode cX10_firstOf 178 = .ok (.aload_n 0, 1) := by decide +kernel
theorem dX10_firstOf_179 : decode cX10_firstOf 179 = .ok (.iload 6, 2) := by decide +kernel
theorem dX10_firstOf_181 : decode cX10_firstOf 181 = .ok (.invokevirtual 123, 3) := by decide +kernel
theorem dX10_firstOf_184 : decode cX10_firstOf 184 = .ok (.iload 7, 2) := by decide +kernel
theorem dX10_firstOf_186 : decode cX10_firstOf 186 = .ok (.ifCond .eq 6, 3) := by decide +kernel
theorem dX10_firstOf_189 : decode cX10_firstOf 189 = .ok (.iload 5, 2) := by decide +kernel
theorem dX10_firstOf_191 : decode cX10_firstOf 191 = .ok (.ireturn, 1) := by decide +kernel
theorem dX10_firstOf_192 : decode cX10_firstOf 192 = .ok (.iinc 5 1, 3) := by decide +kernel
theorem dX10_firstOf_195 : decode cX10_firstOf 195 = .ok (.goto (-192), 3) := by decide +kernel
theorem dX10_firstOf_198 : decode cX10_firstOf 198 = .ok (.bipush (-6), 2) := by decide +kernel
theorem dX10_firstOf_200 : decode cX10_firstOf 200 = .ok (.ireturn, 1) := by decide +kernel
theorem dX10_witness_0 : decode cX10_witness 0 = .ok (.aload_n 0, 1) := by decide +kernel
theorem dX10_witness_1 : decode cX10_witness 1 = .ok (.iload_n 1, 1) := by decide +kernel
theorem dX10_witness_2 : decode cX10_witness 2 = .ok (.iload_n 2, 1) := by decide +kernel
theorem dX10_witness_3 : decode cX10_witness 3 = .ok (.invokevirtual 143, 3) := by decide +kernel
theorem dX10_witness_6 : decode cX10_witness 6 = .ok (.ifCond .ne 5, 3) := by decide +kernel
theorem dX10_witness_9 : decode cX10_witness 9 = .ok (.iconst (-1), 1) := by decide +kernel
theorem dX10_witness_10 : decode cX10_witness 10 = .ok (.ireturn, 1) := by decide +kernel
theorem dX10_witness_11 : decode cX10_witness 11 = .ok (.iload_n 3, 1) := by decide +kernel
theorem dX10_witness_12 : decode cX10_witness 12 = .ok (.iconst 0, 1) := by decide +kernel
theorem dX10_witness_13 : decode cX10_witness 13 = .ok (.sipush 300, 3) := by decide +kernel
theorem dX10_witness_16 : decode cX10_witness 16 = .ok (.invokestatic 44, 3) := by decide +kernel
theorem dX10_witness_19 : decode cX10_witness 19 = .ok (.ifCond .eq 13, 3) := by decide +kernel
theorem dX10_witness_22 : decode cX10_witness 22 = .ok (.iload 4, 2) := by decide +kernel
theorem dX10_witness_24 : decode cX10_witness 24 = .ok (.iconst 0, 1) := by decide +kernel
theorem dX10_witness_25 : decode cX10_witness 25 = .ok (.iconst 3, 1) := by decide +kernel
theorem dX10_witness_26 : decode cX10_witness 26 = .ok (.invokestatic 44, 3) := by decide +kernel
theorem dX10_witness_29 : decode cX10_witness 29 = .ok (.ifCond .ne 6, 3) := by decide +kernel
theorem dX10_witness_32 : decode cX10_witness 32 = .ok (.bipush (-2), 2) := by decide +kernel
theorem dX10_witness_34 : decode cX10_witness 34 = .ok (.ireturn, 1) := by decide +kernel
theorem dX10_witness_35 : decode cX10_witness 35 = .ok (.aload_n 0, 1) := by decide +kernel
theorem dX10_witness_36 : decode cX10_witness 36 = .ok (.iload_n 1, 1) := by decide +kernel
theorem dX10_witness_37 : decode cX10_witness 37 = .ok (.iload_n 2, 1) := by decide +kernel
theorem dX10_witness_38 : decode cX10_witness 38 = .ok (.iconst (-1), 1) := by decide +kernel
theorem dX10_witness_39 : decode cX10_witness 39 = .ok (.invokevirtual 140, 3) := by decide +kernel
theorem dX10_witness_42 : decode cX10_witness 42 = .ok (.lstore 5, 2) := by decide +kernel
theorem dX10_witness_44 : decode cX10_witness 44 = .ok (.lload 5, 2) := by decide +kernel
theorem dX10_witness_46 : decode cX10_witness 46 = .ok (.ldc2_w 91, 3) := by decide +kernel
theorem dX10_witness_49 : decode cX10_witness 49 = .ok (.lcmp, 1) := by decide +kernel
theorem dX10_witness_50 : decode cX10_witness 50 = .ok (.ifCond .eq 15, 3) := by decide +kernel
theorem dX10_witness_53 : decode cX10_witness 53 = .ok (.lload 5, 2) := by decide +kernel
theorem dX10_witness_55 : decode cX10_witness 55 = .ok (.ldc2_w 93, 3) := by decide +kernel
theorem dX10_witness_58 : decode cX10_witness 58 = .ok (.lrem, 1) := by decide +kernel
theorem dX10_witness_59 : decode cX10_witness 59 = .ok (.iload_n 3, 1) := by decide +kernel
theorem dX10_witness_60 : decode cX10_witness 60 = .ok (.i2l, 1) := by decide +kernel
theorem dX10_witness_61 : decode cX10_witness 61 = .ok (.lcmp, 1) := by decide +kernel
theorem dX10_witness_62 : decode cX10_witness 62 = .ok (.ifCond .gt 6, 3) := by decide +kernel
theorem dX10_witness_65 : decode cX10_witness 65 = .ok (.bipush (-6), 2) := by decide +kernel
theorem dX10_witness_67 : decode cX10_witness 67 = .ok (.ireturn, 1) := by decide +kernel
theorem dX10_witness_68 : decode cX10_witness 68 = .ok (.aload_n 0, 1) := by decide +kernel
theorem dX10_witness_69 : decode cX10_witness 69 = .ok (.getfield 7, 3) := by decide +kernel
theorem dX10_witness_72 : decode cX10_witness 72 = .ok (.iconst 3, 1) := by decide +kernel
theorem dX10_witness_73 : decode cX10_witness 73 = .ok (.iaload, 1) := by decide +kernel
theorem dX10_witness_74 : decode cX10_witness 74 = .ok (.istore 7, 2) := by decide +kernel
theorem dX10_witness_76 : decode cX10_witness 76 = .ok (.iconst 0, 1) := by decide +kernel
theorem dX10_witness_77 : decode cX10_witness 77 = .ok (.istore 8, 2) := by decide +kernel
theorem dX10_witness_79 : decode cX10_witness 79 = .ok (.iload 8, 2) := by decide +kernel
theorem dX10_witness_81 : decode cX10_witness 81 = .ok (.iload_n 3, 1) := by decide +kernel
theorem dX10_witness_82 : decode cX10_witness 82 = .ok (.if_icmp .ge 40, 3) := by decide +kernel
theorem dX10_witness_85 : decode cX10_witness 85 = .ok (.aload_n 0, 1) := by decide +kernel
theorem dX10_witness_86 : decode cX10_witness 86 = .ok (.iload 7, 2) := by decide +kernel
theorem dX10_witness_88 : decode cX10_witness 88 = .ok (.lload 5, 2) := by decide +kernel
theorem dX10_witness_90 : decode cX10_witness 90 = .ok (.iconst 0, 1) := by decide +kernel
theorem dX10_witness_91 : decode cX10_witness 91 = .ok (.invokevirtual 150, 3) := by decide +kernel
theorem dX10_witness_94 : decode cX10_witness 94 = .ok (.istore 9, 2) := by decide +kernel
theorem dX10_witness_96 : decode cX10_witness 96 = .ok (.lload 5, 2) := by decide +kernel
theorem dX10_witness_98 : decode cX10_witness 98 = .ok (.aload_n 0, 1) := by decide +kernel
theorem dX10_witness_99 : decode cX10_witness 99 = .ok (.iload 9, 2) := by decide +kernel
theorem dX10_witness_101 : decode cX10_witness 101 = .ok (.invokevirtual 99, 3) := by decide +kernel
theorem dX10_witness_104 : decode cX10_witness 104 = .ok (.lsub, 1) := by decide +kernel
theorem dX10_witness_105 : decode cX10_witness 105 = .ok (.lstore 5, 2) := by decide +kernel
theorem dX10_witness_107 : decode cX10_witness 107 = .ok (.aload_n 0, 1) := by decide +kernel
theorem dX10_witness_108 : decode cX10_witness 108 = .ok (.iload 9, 2) := by decide +kernel
theorem dX10_witness_110 : decode cX10_witness 110 = .ok (.iconst 2, 1) := by decide +kernel
theorem dX10_witness_111 : decode cX10_witness 111 = .ok (.invokevirtual 67, 3) := by decide +kernel
theorem dX10_witness_114 : decode cX10_witness 114 = .ok (.istore 7, 2) := by decide +kernel
theorem dX10_witness_116 : decode cX10_witness 116 = .ok (.iinc 8 1, 3) := by decide +kernel
theorem dX10_witness_119 : decode cX10_witness 119 = .ok (.goto (-40), 3) := by decide +kernel
theorem dX10_witness_122 : decode cX10_witness 122 = .ok (.iload 4, 2) := by decide +kernel
theorem dX10_witness_124 : decode cX10_witness 124 = .ok (.tableswitch 53 0 2 #[28, 38, 41], 28) := by decide +kernel
theorem dX10_witness_152 : decode cX10_witness 152 = .ok (.aload_n 0, 1) := by decide +kernel
theorem dX10_witness_153 : decode cX10_witness 153 = .ok (.iload 7, 2) := by decide +kernel
theorem dX10_witness_155 : decode cX10_witness 155 = .ok (.lload 5, 2) := by decide +kernel
theorem dX10_witness_157 : decode cX10_witness 157 = .ok (.iconst 1, 1) := by decide +kernel
theorem dX10_witness_158 : decode cX10_witness 158 = .ok (.invokevirtual 150, 3) := by decide +kernel
theorem dX10_witness_161 : decode cX10_witness 161 = .ok (.ireturn, 1) := by decide +kernel
theorem dX10_witness_162 : decode cX10_witness 162 = .ok (.iload 7, 2) := by decide +kernel
theorem dX10_witness_164 : decode cX10_witness 164 = .ok (.ireturn, 1) := by decide +kernel
theorem dX10_witness_165 : decode cX10_witness 165 = .ok (.aload_n 0, 1) := by decide +kernel
theorem dX10_witness_166 : decode cX10_witness 166 = .ok (.getfield 23, 3) := by decide +kernel
theorem dX10_witness_169 : decode cX10_witness 169 = .ok (.aload_n 0, 1) := by decide +kernel
theorem dX10_witness_170 : decode cX10_witness 170 = .ok (.getfield 120, 3) := by decide +kernel
theorem dX10_witness_173 : decode cX10_witness 173 = .ok (.iconst 1, 1) := by decide +kernel
theorem dX10_witness_174 : decode cX10_witness 174 = .ok (.isub, 1) := by decide +kernel
theorem dX10_witness_175 : decode cX10_witness 175 = .ok (.iaload, 1) := by decide +kernel
theorem dX10_witness_176 : decode cX10_witness 176 = .ok (.ireturn, 1) := by decide +kernel
theorem dX10_witness_177 : decode cX10_witness 177 = .ok (.aload_n 0, 1) := by decide +kernel
theorem dX10_witness_178 : decode cX10_witness 178 = .ok (.getfield 120, 3) := by decide +kernel
theorem dX10_witness_181 : decode cX10_witness 181 = .ok (.ireturn, 1) := by decide +kernel
theorem dX10_mean_0 : decode cX10_mean 0 = .ok (.aload_n 0, 1) := by decide +kernel
theorem dX10_mean_1 : decode cX10_mean 1 = .ok (.iload_n 1, 1) := by decide +kernel
theorem dX10_mean_2 : decode cX10_mean 2 = .ok (.iload_n 2, 1) := by decide +kernel
theorem dX10_mean_3 : decode cX10_mean 3 = .ok (.invokevirtual 143, 3) := by decide +kernel
theorem dX10_mean_6 : decode cX10_mean 6 = .ok (.ifCond .ne 6, 3) := by decide +kernel
theorem dX10_mean_9 : decode cX10_mean 9 = .ok (.ldc 154, 2) := by decide +kernel
theorem dX10_mean_11 : decode cX10_mean 11 = .ok (.freturn, 1) := by decide +kernel
theorem dX10_mean_12 : decode cX10_mean 12 = .ok (.aload_n 0, 1) := by decide +kernel
theorem dX10_mean_13 : decode cX10_mean 13 = .ok (.iload_n 1, 1) := by decide +kernel
theorem dX10_mean_14 : decode cX10_mean 14 = .ok (.iload_n 2, 1) := by decide +kernel
theorem dX10_mean_15 : decode cX10_mean 15 = .ok (.iconst (-1), 1) := by decide +kernel
theorem dX10_mean_16 : decode cX10_mean 16 = .ok (.invokevirtual 140, 3) := by decide +kernel
theorem dX10_mean_19 : decode cX10_mean 19 = .ok (.lstore_n 3, 1) := by decide +kernel
theorem dX10_mean_20 : decode cX10_mean 20 = .ok (.lload_n 3, 1) := by decide +kernel
theorem dX10_mean_21 : decode cX10_mean 21 = .ok (.ldc2_w 91, 3) := by decide +kernel
theorem dX10_mean_24 : decode cX10_mean 24 = .ok (.lcmp, 1) := by decide +kernel
theorem dX10_mean_25 : decode cX10_mean 25 = .ok (.ifCond .ne 6, 3) := by decide +kernel
theorem dX10_mean_28 : decode cX10_mean 28 = .ok (.ldc 155, 2) := by decide +kernel
theorem dX10_mean_30 : decode cX10_mean 30 = .ok (.freturn, 1) := by decide +kernel
theorem dX10_mean_31 : decode cX10_mean 31 = .ok (.lload_n 3, 1) := by decide +kernel
theorem dX10_mean_32 : decode cX10_mean 32 = .ok (.lconst 0, 1) := by decide +kernel
theorem dX10_mean_33 : decode cX10_mean 33 = .ok (.lcmp, 1) := by decide +kernel
theorem dX10_mean_34 : decode cX10_mean 34 = .ok (.ifCond .ne 7, 3) := by decide +kernel
theorem dX10_mean_37 : decode cX10_mean 37 = .ok (.fconst 0, 1) := by decide +kernel
theorem dX10_mean_38 : decode cX10_mean 38 = .ok (.goto 18, 3) := by decide +kernel
theorem dX10_mean_41 : decode cX10_mean 41 = .ok (.lload_n 3, 1) := by decide +kernel
theorem dX10_mean_42 : decode cX10_mean 42 = .ok (.ldc2_w 93, 3) := by decide +kernel
theorem dX10_mean_45 : decode cX10_mean 45 = .ok (.ldiv, 1) := by decide +kernel
theorem dX10_mean_46 : decode cX10_mean 46 = .ok (.l2i, 1) := by decide +kernel
theorem dX10_mean_47 : decode cX10_mean 47 = .ok (.i2f, 1) := by decide +kernel
theorem dX10_mean_48 : decode cX10_mean 48 = .ok (.lload_n 3, 1) := by decide +kernel
theorem dX10_mean_49 : decode cX10_mean 49 = .ok (.ldc2_w 93, 3) := by decide +kernel
theorem dX10_mean_52 : decode cX10_mean 52 = .ok (.lrem, 1) := by decide +kernel
theorem dX10_mean_53 : decode cX10_mean 53 = .ok (.l2i, 1) := by decide +kernel
theorem dX10_mean_54 : decode cX10_mean 54 = .ok (.i2f, 1) := by decide +kernel
theorem dX10_mean_55 : decode cX10_mean 55 = .ok (.fdiv, 1) := by decide +kernel
theorem dX10_mean_56 : decode cX10_mean 56 = .ok (.freturn, 1) := by decide +kernel
theorem dX10_priceOf_0 : decode cX10_priceOf 0 = .ok (.aload_n 0, 1) := by decide +kernel
theorem dX10_priceOf_1 : decode cX10_priceOf 1 = .ok (.iload_n 3, 1) := by decide +kernel
theorem dX10_priceOf_2 : decode cX10_priceOf 2 = .ok (.iconst 0, 1) := by decide +kernel
theorem dX10_priceOf_3 : decode cX10_priceOf 3 = .ok (.iconst (-1), 1) := by decide +kernel
theorem dX10_priceOf_4 : decode cX10_priceOf 4 = .ok (.invokevirtual 130, 3) := by decide +kernel
theorem dX10_priceOf_7 : decode cX10_priceOf 7 = .ok (.iconst 0, 1) := by decide +kernel
theorem dX10_priceOf_8 : decode cX10_priceOf 8 = .ok (.istore 4, 2) := by decide +kernel
theorem dX10_priceOf_10 : decode cX10_priceOf 10 = .ok (.iload 4, 2) := by decide +kernel
theorem dX10_priceOf_12 : decode cX10_priceOf 12 = .ok (.bipush 11, 2) := by decide +kernel
theorem dX10_priceOf_14 : decode cX10_priceOf 14 = .ok (.if_icmp .ge 32, 3) := by decide +kernel
theorem dX10_priceOf_17 : decode cX10_priceOf 17 = .ok (.aload_n 0, 1) := by decide +kernel
theorem dX10_priceOf_18 : decode cX10_priceOf 18 = .ok (.getfield 26, 3) := by decide +kernel
theorem dX10_priceOf_21 : decode cX10_priceOf 21 = .ok (.iload 4, 2) := by decide +kernel
theorem dX10_priceOf_23 : decode cX10_priceOf 23 = .ok (.iload 4, 2) := by decide +kernel
theorem dX10_priceOf_25 : decode cX10_priceOf 25 = .ok (.aload_n 0, 1) := by decide +kernel
theorem dX10_priceOf_26 : decode cX10_priceOf 26 = .ok (.getfield 111, 3) := by decide +kernel
theorem dX10_priceOf_29 : decode cX10_priceOf 29 = .ok (.if_icmp .ne 7, 3) := by decide +kernel
theorem dX10_priceOf_32 : decode cX10_priceOf 32 = .ok (.lconst 0, 1) := by decide +kernel
theorem dX10_priceOf_33 : decode cX10_priceOf 33 = .ok (.goto 6, 3) := by decide +kernel
theorem dX10_priceOf_36 : decode cX10_priceOf 36 = .ok (.ldc2_w 91, 3) := by decide +kernel
theorem dX10_priceOf_39 : decode cX10_priceOf 39 = .ok (.lastore, 1) := by decide +kernel
theorem dX10_priceOf_40 : decode cX10_priceOf 40 = .ok (.iinc 4 1, 3) := by decide +kernel
theorem dX10_priceOf_43 : decode cX10_priceOf 43 = .ok (.goto (-33), 3) := by decide +kernel
theorem dX10_priceOf_46 : decode cX10_priceOf 46 = .ok (.aload_n 0, 1) := by decide +kernel
theorem dX10_priceOf_47 : decode cX10_priceOf 47 = .ok (.iconst 0, 1) := by decide +kernel
theorem dX10_priceOf_48 : decode cX10_priceOf 48 = .ok (.putfield 120, 3) := by decide +kernel
theorem dX10_priceOf_51 : decode cX10_priceOf 51 = .ok (.aload_n 0, 1) := by decide +kernel
theorem dX10_priceOf_52 : decode cX10_priceOf 52 = .ok (.iload_n 2, 1) := by decide +kernel
theorem dX10_priceOf_53 : decode cX10_priceOf 53 = .ok (.invokevirtual 127, 3) := by decide +kernel
theorem dX10_priceOf_56 : decode cX10_priceOf 56 = .ok (.aload_n 0, 1) := by decide +kernel
theorem dX10_priceOf_57 : decode cX10_priceOf 57 = .ok (.getfield 26, 3) := by decide +kernel
theorem dX10_priceOf_60 : decode cX10_priceOf 60 = .ok (.bipush 11, 2) := by decide +kernel
theorem dX10_priceOf_62 : decode cX10_priceOf 62 = .ok (.aload_n 0, 1) := by decide +kernel
theorem dX10_priceOf_63 : decode cX10_priceOf 63 = .ok (.getfield 120, 3) := by decide +kernel
theorem dX10_priceOf_66 : decode cX10_priceOf 66 = .ok (.imul, 1) := by decide +kernel
theorem dX10_priceOf_67 : decode cX10_priceOf 67 = .ok (.iload_n 1, 1) := by decide +kernel
theorem dX10_priceOf_68 : decode cX10_priceOf 68 = .ok (.iadd, 1) := by decide +kernel
theorem dX10_priceOf_69 : decode cX10_priceOf 69 = .ok (.laload, 1) := by decide +kernel
theorem dX10_priceOf_70 : decode cX10_priceOf 70 = .ok (.lstore 4, 2) := by decide +kernel
theorem dX10_priceOf_72 : decode cX10_priceOf 72 = .ok (.lload 4, 2) := by decide +kernel
theorem dX10_priceOf_74 : decode cX10_priceOf 74 = .ok (.ldc2_w 93, 3) := by decide +kernel
theorem dX10_priceOf_77 : decode cX10_priceOf 77 = .ok (.ldiv, 1) := by decide +kernel
theorem dX10_priceOf_78 : decode cX10_priceOf 78 = .ok (.ldc2_w 138, 3) := by decide +kernel
theorem dX10_priceOf_81 : decode cX10_priceOf 81 = .ok (.lcmp, 1) := by decide +kernel
theorem dX10_priceOf_82 : decode cX10_priceOf 82 = .ok (.ifCond .le 8, 3) := by decide +kernel
theorem dX10_priceOf_85 : decode cX10_priceOf 85 = .ok (.bipush (-6), 2) := by decide +kernel
theorem dX10_priceOf_87 : decode cX10_priceOf 87 = .ok (.goto 10, 3) := by decide +kernel
theorem dX10_priceOf_90 : decode cX10_priceOf 90 = .ok (.lload 4, 2) := by decide +kernel
theorem dX10_priceOf_92 : decode cX10_priceOf 92 = .ok (.ldc2_w 93, 3) := by decide +kernel
theorem dX10_priceOf_95 : decode cX10_priceOf 95 = .ok (.ldiv, 1) := by decide +kernel
theorem dX10_priceOf_96 : decode cX10_priceOf 96 = .ok (.l2i, 1) := by decide +kernel
theorem dX10_priceOf_97 : decode cX10_priceOf 97 = .ok (.ireturn, 1) := by decide +kernel
theorem dX10_price_0 : decode cX10_price 0 = .ok (.aload_n 0, 1) := by decide +kernel
theorem dX10_price_1 : decode cX10_price 1 = .ok (.iload_n 1, 1) := by decide +kernel
theorem dX10_price_2 : decode cX10_price 2 = .ok (.invokevirtual 71, 3) := by decide +kernel
theorem dX10_price_5 : decode cX10_price 5 = .ok (.ifCond .eq 29, 3) := by decide +kernel
theorem dX10_price_8 : decode cX10_price 8 = .ok (.aload_n 0, 1) := by decide +kernel
theorem dX10_price_9 : decode cX10_price 9 = .ok (.iload_n 2, 1) := by decide +kernel
theorem dX10_price_10 : decode cX10_price 10 = .ok (.invokevirtual 52, 3) := by decide +kernel
theorem dX10_price_13 : decode cX10_price 13 = .ok (.ifCond .eq 21, 3) := by decide +kernel
theorem dX10_price_16 : decode cX10_price 16 = .ok (.aload_n 0, 1) := by decide +kernel
theorem dX10_price_17 : decode cX10_price 17 = .ok (.iload_n 3, 1) := by decide +kernel
theorem dX10_price_18 : decode cX10_price 18 = .ok (.invokevirtual 71, 3) := by decide +kernel
theorem dX10_price_21 : decode cX10_price 21 = .ok (.ifCond .eq 13, 3) := by decide +kernel
theorem dX10_price_24 : decode cX10_price 24 = .ok (.aload_n 0, 1) := by decide +kernel
theorem dX10_price_25 : decode cX10_price 25 = .ok (.iload_n 1, 1) := by decide +kernel
theorem dX10_price_26 : decode cX10_price 26 = .ok (.iload_n 2, 1) := by decide +kernel
theorem dX10_price_27 : decode cX10_price 27 = .ok (.iload_n 3, 1) := by decide +kernel
theorem dX10_price_28 : decode cX10_price 28 = .ok (.invokevirtual 156, 3) := by decide +kernel
theorem dX10_price_31 : decode cX10_price 31 = .ok (.goto 4, 3) := by decide +kernel
theorem dX10_price_34 : decode cX10_price 34 = .ok (.iconst (-1), 1) := by decide +kernel
theorem dX10_price_35 : decode cX10_price 35 = .ok (.ireturn, 1) := by decide +kernel
theorem dX10_wordPrice_0 : decode cX10_wordPrice 0 = .ok (.aload_n 0, 1) := by decide +kernel
theorem dX10_wordPrice_1 : decode cX10_wordPrice 1 = .ok (.iload_n 1, 1) := by decide +kernel
theorem dX10_wordPrice_2 : decode cX10_wordPrice 2 = .ok (.iload_n 2, 1) := by decide +kernel
theorem dX10_wordPrice_3 : decode cX10_wordPrice 3 = .ok (.invokevirtual 143, 3) := by decide +kernel
theorem dX10_wordPrice_6 : decode cX10_wordPrice 6 = .ok (.ifCond .eq 21, 3) := by decide +kernel
theorem dX10_wordPrice_9 : decode cX10_wordPrice 9 = .ok (.aload_n 0, 1) := by decide +kernel
theorem dX10_wordPrice_10 : decode cX10_wordPrice 10 = .ok (.iload_n 3, 1) := by decide +kernel
theorem dX10_wordPrice_11 : decode cX10_wordPrice 11 = .ok (.invokevirtual 71, 3) := by decide +kernel
theorem dX10_wordPrice_14 : decode cX10_wordPrice 14 = .ok (.ifCond .eq 13, 3) := by decide +kernel
theorem dX10_wordPrice_17 : decode cX10_wordPrice 17 = .ok (.aload_n 0, 1) := by decide +kernel
theorem dX10_wordPrice_18 : decode cX10_wordPrice 18 = .ok (.iload_n 1, 1) := by decide +kernel
theorem dX10_wordPrice_19 : decode cX10_wordPrice 19 = .ok (.iload_n 2, 1) := by decide +kernel
theorem dX10_wordPrice_20 : decode cX10_wordPrice 20 = .ok (.iload_n 3, 1) := by decide +kernel
theorem dX10_wordPrice_21 : decode cX10_wordPrice 21 = .ok (.invokevirtual 156, 3) := by decide +kernel
theorem dX10_wordPrice_24 : decode cX10_wordPrice 24 = .ok (.goto 4, 3) := by decide +kernel
theorem dX10_wordPrice_27 : decode cX10_wordPrice 27 = .ok (.iconst (-1), 1) := by decide +kernel
theorem dX10_wordPrice_28 : decode cX10_wordPrice 28 = .ok (.ireturn, 1) := by decide +kernel
theorem dX10_arcAt_0 : decode cX10_arcAt 0 = .ok (.sipush 210, 3) := by decide +kernel
theorem dX10_arcAt_3 : decode cX10_arcAt 3 = .ok (.iload_n 0, 1) := by decide +kernel
theorem dX10_arcAt_4 : decode cX10_arcAt 4 = .ok (.imul, 1) := by decide +kernel
theorem dX10_arcAt_5 : decode cX10_arcAt 5 = .ok (.bipush 35, 2) := by decide +kernel
theorem dX10_arcAt_7 : decode cX10_arcAt 7 = .ok (.iload_n 1, 1) := by decide +kernel
theorem dX10_arcAt_8 : decode cX10_arcAt 8 = .ok (.imul, 1) := by decide +kernel
theorem dX10_arcAt_9 : decode cX10_arcAt 9 = .ok (.iadd, 1) := by decide +kernel
theorem dX10_arcAt_10 : decode cX10_arcAt 10 = .ok (.iload_n 2, 1) := by decide +kernel
theorem dX10_arcAt_11 : decode cX10_arcAt 11 = .ok (.iadd, 1) := by decide +kernel
theorem dX10_arcAt_12 : decode cX10_arcAt 12 = .ok (.ireturn, 1) := by decide +kernel
theorem dX10_lessen_0 : decode cX10_lessen 0 = .ok (.iload 4, 2) := by decide +kernel
theorem dX10_lessen_2 : decode cX10_lessen 2 = .ok (.ldc 159, 2) := by decide +kernel
theorem dX10_lessen_4 : decode cX10_lessen 4 = .ok (.if_icmp .gt 23, 3) := by decide +kernel
theorem dX10_lessen_7 : decode cX10_lessen 7 = .ok (.iload 4, 2) := by decide +kernel
theorem dX10_lessen_9 : decode cX10_lessen 9 = .ok (.aload_n 0, 1) := by decide +kernel
theorem dX10_lessen_10 : decode cX10_lessen 10 = .ok (.getfield 29, 3) := by decide +kernel
theorem dX10_lessen_13 : decode cX10_lessen 13 = .ok (.iload_n 1, 1) := by decide +kernel
theorem dX10_lessen_14 : decode cX10_lessen 14 = .ok (.iload_n 2, 1) := by decide +kernel
theorem dX10_lessen_15 : decode cX10_lessen 15 = .ok (.iload_n 3, 1) := by decide +kernel
theorem dX10_lessen_16 : decode cX10_lessen 16 = .ok (.invokestatic 160, 3) := by decide +kernel
theorem dX10_lessen_19 : decode cX10_lessen 19 = .ok (.iaload, 1) := by decide +kernel
theorem dX10_lessen_20 : decode cX10_lessen 20 = .ok (.if_icmp .ge 7, 3) := by decide +kernel
theorem dX10_lessen_23 : decode cX10_lessen 23 = .ok (.iconst 1, 1) := by decide +kernel
theorem dX10_lessen_24 : decode cX10_lessen 24 = .ok (.goto 4, 3) := by decide +kernel
theorem dX10_lessen_27 : decode cX10_lessen 27 = .ok (.iconst 0, 1) := by decide +kernel
theorem dX10_lessen_28 : decode cX10_lessen 28 = .ok (.istore 5, 2) := by decide +kernel
theorem dX10_lessen_30 : decode cX10_lessen 30 = .ok (.aload_n 0, 1) := by decide +kernel
theorem dX10_lessen_31 : decode cX10_lessen 31 = .ok (.getfield 29, 3) := by decide +kernel
theorem dX10_lessen_34 : decode cX10_lessen 34 = .ok (.iload_n 1, 1) := by decide +kernel
theorem dX10_lessen_35 : decode cX10_lessen 35 = .ok (.iload_n 2, 1) := by decide +kernel
theorem dX10_lessen_36 : decode cX10_lessen 36 = .ok (.iload_n 3, 1) := by decide +kernel
theorem dX10_lessen_37 : decode cX10_lessen 37 = .ok (.invokestatic 160, 3) := by decide +kernel
theorem dX10_lessen_40 : decode cX10_lessen 40 = .ok (.iload 5, 2) := by decide +kernel
theorem dX10_lessen_42 : decode cX10_lessen 42 = .ok (.ifCond .eq 8, 3) := by decide +kernel
theorem dX10_lessen_45 : decode cX10_lessen 45 = .ok (.iload 4, 2) := by decide +kernel
theorem dX10_lessen_47 : decode cX10_lessen 47 = .ok (.goto 14, 3) := by decide +kernel
theorem dX10_lessen_50 : decode cX10_lessen 50 = .ok (.aload_n 0, 1) := by decide +kernel
theorem dX10_lessen_51 : decode cX10_lessen 51 = .ok (.getfield 29, 3) := by decide +kernel
theorem dX10_lessen_54 : decode cX10_lessen 54 = .ok (.iload_n 1, 1) := by decide +kernel
theorem dX10_lessen_55 : decode cX10_lessen 55 = .ok (.iload_n 2, 1) := by decide +kernel
theorem dX10_lessen_56 : decode cX10_lessen 56 = .ok (.iload_n 3, 1) := by decide +kernel
theorem dX10_lessen_57 : decode cX10_lessen 57 = .ok (.invokestatic 160, 3) := by decide +kernel
theorem dX10_lessen_60 : decode cX10_lessen 60 = .ok (.iaload, 1) := by decide +kernel
theorem dX10_lessen_61 : decode cX10_lessen 61 = .ok (.iastore, 1) := by decide +kernel
theorem dX10_lessen_62 : decode cX10_lessen 62 = .ok (.iload 5, 2) := by decide +kernel
theorem dX10_lessen_64 : decode cX10_lessen 64 = .ok (.ireturn, 1) := by decide +kernel
theorem dX10_reads_0 : decode cX10_reads 0 = .ok (.aload_n 0, 1) := by decide +kernel
theorem dX10_reads_1 : decode cX10_reads 1 = .ok (.getfield 29, 3) := by decide +kernel
theorem dX10_reads_4 : decode cX10_reads 4 = .ok (.iload_n 1, 1) := by decide +kernel
theorem dX10_reads_5 : decode cX10_reads 5 = .ok (.iload_n 2, 1) := by decide +kernel
theorem dX10_reads_6 : decode cX10_reads 6 = .ok (.iload_n 3, 1) := by decide +kernel
theorem dX10_reads_7 : decode cX10_reads 7 = .ok (.invokestatic 160, 3) := by decide +kernel
theorem dX10_reads_10 : decode cX10_reads 10 = .ok (.iaload, 1) := by decide +kernel
theorem dX10_reads_11 : decode cX10_reads 11 = .ok (.istore 4, 2) := by decide +kernel
theorem dX10_reads_13 : decode cX10_reads 13 = .ok (.iconst 0, 1) := by decide +kernel
theorem dX10_reads_14 : decode cX10_reads 14 = .ok (.istore 5, 2) := by decide +kernel
theorem dX10_reads_16 : decode cX10_reads 16 = .ok (.iload 5, 2) := by decide +kernel
theorem dX10_reads_18 : decode cX10_reads 18 = .ok (.bipush 35, 2) := by decide +kernel
theorem dX10_reads_20 : decode cX10_reads 20 = .ok (.if_icmp .ge 83, 3) := by decide +kernel
theorem dX10_reads_23 : decode cX10_reads 23 = .ok (.aload_n 0, 1) := by decide +kernel
theorem dX10_reads_24 : decode cX10_reads 24 = .ok (.getfield 29, 3) := by decide +kernel
theorem dX10_reads_27 : decode cX10_reads 27 = .ok (.iload_n 1, 1) := by decide +kernel
theorem dX10_reads_28 : decode cX10_reads 28 = .ok (.iconst 0, 1) := by decide +kernel
theorem dX10_reads_29 : decode cX10_reads 29 = .ok (.iload 5, 2) := by decide +kernel
theorem dX10_reads_31 : decode cX10_reads 31 = .ok (.invokestatic 160, 3) := by decide +kernel
theorem dX10_reads_34 : decode cX10_reads 34 = .ok (.iaload, 1) := by decide +kernel
theorem dX10_reads_35 : decode cX10_reads 35 = .ok (.istore 6, 2) := by decide +kernel
theorem dX10_reads_37 : decode cX10_reads 37 = .ok (.aload_n 0, 1) := by decide +kernel
theorem dX10_reads_38 : decode cX10_reads 38 = .ok (.getfield 29, 3) := by decide +kernel
theorem dX10_reads_41 : decode cX10_reads 41 = .ok (.iload 5, 2) := by decide +kernel
theorem dX10_reads_43 : decode cX10_reads 43 = .ok (.iload_n 2, 1) := by decide +kernel
theorem dX10_reads_44 : decode cX10_reads 44 = .ok (.iload_n 3, 1) := by decide +kernel
theorem dX10_reads_45 : decode cX10_reads 45 = .ok (.invokestatic 160, 3) := by decide +kernel
theorem dX10_reads_48 : decode cX10_reads 48 = .ok (.iaload, 1) := by decide +kernel
theorem dX10_reads_49 : decode cX10_reads 49 = .ok (.istore 7, 2) := by decide +kernel
theorem dX10_reads_51 : decode cX10_reads 51 = .ok (.iload 6, 2) := by decide +kernel
theorem dX10_reads_53 : decode cX10_reads 53 = .ok (.ldc 163, 2) := by decide +kernel
theorem dX10_reads_55 : decode cX10_reads 55 = .ok (.if_icmp .ge 38, 3) := by decide +kernel
theorem dX10_reads_58 : decode cX10_reads 58 = .ok (.iload 7, 2) := by decide +kernel
theorem dX10_reads_60 : decode cX10_reads 60 = .ok (.ldc 163, 2) := by decide +kernel
theorem dX10_reads_62 : decode cX10_reads 62 = .ok (.if_icmp .ge 31, 3) := by decide +kernel
theorem dX10_reads_65 : decode cX10_reads 65 = .ok (.iload 6, 2) := by decide +kernel
theorem dX10_reads_67 : decode cX10_reads 67 = .ok (.iload 7, 2) := by decide +kernel
theorem dX10_reads_69 : decode cX10_reads 69 = .ok (.iadd, 1) := by decide +kernel
theorem dX10_reads_70 : decode cX10_reads 70 = .ok (.ldc 159, 2) := by decide +kernel
theorem dX10_reads_72 : decode cX10_reads 72 = .ok (.if_icmp .gt 21, 3) := by decide +kernel
theorem dX10_reads_75 : decode cX10_reads 75 = .ok (.iload 6, 2) := by decide +kernel
theorem dX10_reads_77 : decode cX10_reads 77 = .ok (.iload 7, 2) := by decide +kernel
theorem dX10_reads_79 : decode cX10_reads 79 = .ok (.iadd, 1) := by decide +kernel
theorem dX10_reads_80 : decode cX10_reads 80 = .ok (.iload 4, 2) := by decide +kernel
theorem dX10_reads_82 : decode cX10_reads 82 = .ok (.if_icmp .ge 11, 3) := by decide +kernel
theorem dX10_reads_85 : decode cX10_reads 85 = .ok (.iload 6, 2) := by decide +kernel
theorem dX10_reads_87 : decode cX10_reads 87 = .ok (.iload 7, 2) := by decide +kernel
theorem dX10_reads_89 : decode cX10_reads 89 = .ok (.iadd, 1) := by decide +kernel
theorem dX10_reads_90 : decode cX10_reads 90 = .ok (.goto 5, 3) := by decide +kernel
theorem dX10_reads_93 : decode cX10_reads 93 = .ok (.iload 4, 2) := by decide +kernel
theorem dX10_reads_95 : decode cX10_reads 95 = .ok (.istore 4, 2) := by decide +kernel
theorem dX10_reads_97 : decode cX10_reads 97 = .ok (.iinc 5 1, 3) := by decide +kernel
theorem dX10_reads_100 : decode cX10_reads 100 = .ok (.goto (-84), 3) := by decide +kernel
theorem dX10_reads_103 : decode cX10_reads 103 = .ok (.iload 4, 2) := by decide +kernel
theorem dX10_reads_105 : decode cX10_reads 105 = .ok (.ireturn, 1) := by decide +kernel
theorem dX10_nodeOf_0 : decode cX10_nodeOf 0 = .ok (.bipush 10, 2) := by decide +kernel
theorem dX10_nodeOf_2 : decode cX10_nodeOf 2 = .ok (.iconst 5, 1) := by decide +kernel
theorem dX10_nodeOf_3 : decode cX10_nodeOf 3 = .ok (.iload_n 0, 1) := by decide +kernel
theorem dX10_nodeOf_4 : decode cX10_nodeOf 4 = .ok (.imul, 1) := by decide +kernel
theorem dX10_nodeOf_5 : decode cX10_nodeOf 5 = .ok (.iadd, 1) := by decide +kernel
theorem dX10_nodeOf_6 : decode cX10_nodeOf 6 = .ok (.iload_n 1, 1) := by decide +kernel
theorem dX10_nodeOf_7 : decode cX10_nodeOf 7 = .ok (.iadd, 1) := by decide +kernel
theorem dX10_nodeOf_8 : decode cX10_nodeOf 8 = .ok (.iconst 1, 1) := by decide +kernel
theorem dX10_nodeOf_9 : decode cX10_nodeOf 9 = .ok (.isub, 1) := by decide +kernel
theorem dX10_nodeOf_10 : decode cX10_nodeOf 10 = .ok (.ireturn, 1) := by decide +kernel
theorem dX10_extend_0 : decode cX10_extend 0 = .ok (.aload_n 0, 1) := by decide +kernel
theorem dX10_extend_1 : decode cX10_extend 1 = .ok (.iload_n 1, 1) := by decide +kernel
theorem dX10_extend_2 : decode cX10_extend 2 = .ok (.iconst 2, 1) := by decide +kernel
theorem dX10_extend_3 : decode cX10_extend 3 = .ok (.invokevirtual 67, 3) := by decide +kernel
theorem dX10_extend_6 : decode cX10_extend 6 = .ok (.istore_n 2, 1) := by decide +kernel
theorem dX10_extend_7 : decode cX10_extend 7 = .ok (.aload_n 0, 1) := by decide +kernel
theorem dX10_extend_8 : decode cX10_extend 8 = .ok (.iload_n 1, 1) := by decide +kernel
theorem dX10_extend_9 : decode cX10_extend 9 = .ok (.iconst 3, 1) := by decide +kernel
theorem dX10_extend_10 : decode cX10_extend 10 = .ok (.invokevirtual 67, 3) := by decide +kernel
theorem dX10_extend_13 : decode cX10_extend 13 = .ok (.istore_n 3, 1) := by decide +kernel
theorem dX10_extend_14 : decode cX10_extend 14 = .ok (.iconst 0, 1) := by decide +kernel
theorem dX10_extend_15 : decode cX10_extend 15 = .ok (.istore 4, 2) := by decide +kernel
theorem dX10_extend_17 : decode cX10_extend 17 = .ok (.iconst 0, 1) := by decide +kernel
theorem dX10_extend_18 : decode cX10_extend 18 = .ok (.istore 5, 2) := by decide +kernel
theorem dX10_extend_20 : decode cX10_extend 20 = .ok (.iload 5, 2) := by decide +kernel
theorem dX10_extend_22 : decode cX10_extend 22 = .ok (.bipush 35, 2) := by decide +kernel
theorem dX10_extend_24 : decode cX10_extend 24 = .ok (.if_icmp .ge 162, 3) := by decide +kernel
theorem dX10_extend_27 : decode cX10_extend 27 = .ok (.aload_n 0, 1) := by decide +kernel
theorem dX10_extend_28 : decode cX10_extend 28 = .ok (.aload_n 0, 1) := by decide +kernel
theorem dX10_extend_29 : decode cX10_extend 29 = .ok (.iload_n 1, 1) := by decide +kernel
theorem dX10_extend_30 : decode cX10_extend 30 = .ok (.iconst 0, 1) := by decide +kernel
theorem dX10_extend_31 : decode cX10_extend 31 = .ok (.invokevirtual 67, 3) := by decide +kernel
theorem dX10_extend_34 : decode cX10_extend 34 = .ok (.aload_n 0, 1) := by decide +kernel
theorem dX10_extend_35 : decode cX10_extend 35 = .ok (.iload_n 1, 1) := by decide +kernel
theorem dX10_extend_36 : decode cX10_extend 36 = .ok (.iconst 1, 1) := by decide +kernel
theorem dX10_extend_37 : decode cX10_extend 37 = .ok (.invokevirtual 67, 3) := by decide +kernel
theorem dX10_extend_40 : decode cX10_extend 40 = .ok (.iload 5, 2) := by decide +kernel
theorem dX10_extend_42 : decode cX10_extend 42 = .ok (.invokevirtual 164, 3) := by decide +kernel
theorem dX10_extend_45 : decode cX10_extend 45 = .ok (.istore 6, 2) := by decide +kernel
theorem dX10_extend_47 : decode cX10_extend 47 = .ok (.iload 6, 2) := by decide +kernel
theorem dX10_extend_49 : decode cX10_extend 49 = .ok (.ldc 163, 2) := by decide +kernel
theorem dX10_extend_51 : decode cX10_extend 51 = .ok (.if_icmp .ge 129, 3) := by decide +kernel
theorem dX10_extend_54 : decode cX10_extend 54 = .ok (.iload 6, 2) := by decide +kernel
theorem dX10_extend_56 : decode cX10_extend 56 = .ok (.aload_n 0, 1) := by decide +kernel
theorem dX10_extend_57 : decode cX10_extend 57 = .ok (.iload_n 1, 1) := by decide +kernel
theorem dX10_extend_58 : decode cX10_extend 58 = .ok (.iconst 4, 1) := by decide +kernel
theorem dX10_extend_59 : decode cX10_extend 59 = .ok (.invokevirtual 67, 3) := by decide +kernel
theorem dX10_extend_62 : decode cX10_extend 62 = .ok (.iadd, 1) := by decide +kernel
theorem dX10_extend_63 : decode cX10_extend 63 = .ok (.istore 7, 2) := by decide +kernel
theorem dX10_extend_65 : decode cX10_extend 65 = .ok (.iload_n 3, 1) := by decide +kernel
theorem dX10_extend_66 : decode cX10_extend 66 = .ok (.invokestatic 48, 3) := by decide +kernel
theorem dX10_extend_69 : decode cX10_extend 69 = .ok (.lookupswitch 63 #[(0, 27), (1, 45)], 27) := by decide +kernel
theorem dX10_extend_96 : decode cX10_extend 96 = .ok (.iload 4, 2) := by decide +kernel
theorem dX10_extend_98 : decode cX10_extend 98 = .ok (.aload_n 0, 1) := by decide +kernel
theorem dX10_extend_99 : decode cX10_extend 99 = .ok (.iload_n 2, 1) := by decide +kernel
theorem dX10_extend_100 : decode cX10_extend 100 = .ok (.iconst 0, 1) := by decide +kernel
theorem dX10_extend_101 : decode cX10_extend 101 = .ok (.iload 5, 2) := by decide +kernel
theorem dX10_extend_103 : decode cX10_extend 103 = .ok (.iload 7, 2) := by decide +kernel
theorem dX10_extend_105 : decode cX10_extend 105 = .ok (.invokevirtual 167, 3) := by decide +kernel
theorem dX10_extend_108 : decode cX10_extend 108 = .ok (.ior, 1) := by decide +kernel
theorem dX10_extend_109 : decode cX10_extend 109 = .ok (.istore 4, 2) := by decide +kernel
theorem dX10_extend_111 : decode cX10_extend 111 = .ok (.goto 69, 3) := by decide +kernel
theorem dX10_extend_114 : decode cX10_extend 114 = .ok (.iload 4, 2) := by decide +kernel
theorem dX10_extend_116 : decode cX10_extend 116 = .ok (.aload_n 0, 1) := by decide +kernel
theorem dX10_extend_117 : decode cX10_extend 117 = .ok (.iload_n 2, 1) := by decide +kernel
theorem dX10_extend_118 : decode cX10_extend 118 = .ok (.iload_n 3, 1) := by decide +kernel
theorem dX10_extend_119 : decode cX10_extend 119 = .ok (.iload 5, 2) := by decide +kernel
theorem dX10_extend_121 : decode cX10_extend 121 = .ok (.iload 7, 2) := by decide +kernel
theorem dX10_extend_123 : decode cX10_extend 123 = .ok (.invokevirtual 167, 3) := by decide +kernel
theorem dX10_extend_126 : decode cX10_extend 126 = .ok (.ior, 1) := by decide +kernel
theorem dX10_extend_127 : decode cX10_extend 127 = .ok (.istore 4, 2) := by decide +kernel
theorem dX10_extend_129 : decode cX10_extend 129 = .ok (.goto 51, 3) := by decide +kernel
theorem dX10_extend_132 : decode cX10_extend 132 = .ok (.iload 4, 2) := by decide +kernel
theorem dX10_extend_134 : decode cX10_extend 134 = .ok (.aload_n 0, 1) := by decide +kernel
theorem dX10_extend_135 : decode cX10_extend 135 = .ok (.iload_n 2, 1) := by decide +kernel
theorem dX10_extend_136 : decode cX10_extend 136 = .ok (.iload_n 3, 1) := by decide +kernel
theorem dX10_extend_137 : decode cX10_extend 137 = .ok (.bipush 10, 2) := by decide +kernel
theorem dX10_extend_139 : decode cX10_extend 139 = .ok (.idiv, 1) := by decide +kernel
theorem dX10_extend_140 : decode cX10_extend 140 = .ok (.iload_n 2, 1) := by decide +kernel
theorem dX10_extend_141 : decode cX10_extend 141 = .ok (.iload_n 3, 1) := by decide +kernel
theorem dX10_extend_142 : decode cX10_extend 142 = .ok (.bipush 10, 2) := by decide +kernel
theorem dX10_extend_144 : decode cX10_extend 144 = .ok (.idiv, 1) := by decide +kernel
theorem dX10_extend_145 : decode cX10_extend 145 = .ok (.invokestatic 170, 3) := by decide +kernel
theorem dX10_extend_148 : decode cX10_extend 148 = .ok (.iconst 0, 1) := by decide +kernel
theorem dX10_extend_149 : decode cX10_extend 149 = .ok (.invokevirtual 167, 3) := by decide +kernel
theorem dX10_extend_152 : decode cX10_extend 152 = .ok (.ior, 1) := by decide +kernel
theorem dX10_extend_153 : decode cX10_extend 153 = .ok (.istore 4, 2) := by decide +kernel
theorem dX10_extend_155 : decode cX10_extend 155 = .ok (.iload 4, 2) := by decide +kernel
theorem dX10_extend_157 : decode cX10_extend 157 = .ok (.aload_n 0, 1) := by decide +kernel
theorem dX10_extend_158 : decode cX10_extend 158 = .ok (.iload_n 2, 1) := by decide +kernel
theorem dX10_extend_159 : decode cX10_extend 159 = .ok (.iload_n 3, 1) := by decide +kernel
theorem dX10_extend_160 : decode cX10_extend 160 = .ok (.bipush 10, 2) := by decide +kernel
theorem dX10_extend_162 : decode cX10_extend 162 = .ok (.idiv, 1) := by decide +kernel
theorem dX10_extend_163 : decode cX10_extend 163 = .ok (.invokestatic 170, 3) := by decide +kernel
theorem dX10_extend_166 : decode cX10_extend 166 = .ok (.iload_n 3, 1) := by decide +kernel
theorem dX10_extend_167 : decode cX10_extend 167 = .ok (.bipush 10, 2) := by decide +kernel
theorem dX10_extend_169 : decode cX10_extend 169 = .ok (.irem, 1) := by decide +kernel
theorem dX10_extend_170 : decode cX10_extend 170 = .ok (.iload 5, 2) := by decide +kernel
theorem dX10_extend_172 : decode cX10_extend 172 = .ok (.iload 7, 2) := by decide +kernel
theorem dX10_extend_174 : decode cX10_extend 174 = .ok (.invokevirtual 167, 3) := by decide +kernel
theorem dX10_extend_177 : decode cX10_extend 177 = .ok (.ior, 1) := by decide +kernel
theorem dX10_extend_178 : decode cX10_extend 178 = .ok (.istore 4, 2) := by decide +kernel
theorem dX10_extend_180 : decode cX10_extend 180 = .ok (.iinc 5 1, 3) := by decide +kernel
theorem dX10_extend_183 : decode cX10_extend 183 = .ok (.goto (-163), 3) := by decide +kernel
theorem dX10_extend_186 : decode cX10_extend 186 = .ok (.iload 4, 2) := by decide +kernel
theorem dX10_extend_188 : decode cX10_extend 188 = .ok (.ireturn, 1) := by decide +kernel
theorem dX10_layMachine_0 : decode cX10_layMachine 0 = .ok (.aload_n 0, 1) := by decide +kernel
theorem dX10_layMachine_1 : decode cX10_layMachine 1 = .ok (.getfield 56, 3) := by decide +kernel
theorem dX10_layMachine_4 : decode cX10_layMachine 4 = .ok (.ifCond .eq 4, 3) := by decide +kernel
theorem dX10_layMachine_7 : decode cX10_layMachine 7 = .ok (.return_, 1) := by decide +kernel
theorem dX10_layMachine_8 : decode cX10_layMachine 8 = .ok (.aload_n 0, 1) := by decide +kernel
theorem dX10_layMachine_9 : decode cX10_layMachine 9 = .ok (.iconst 1, 1) := by decide +kernel
theorem dX10_layMachine_10 : decode cX10_layMachine 10 = .ok (.putfield 56, 3) := by decide +kernel
theorem dX10_layMachine_13 : decode cX10_layMachine 13 = .ok (.iconst 0, 1) := by decide +kernel
theorem dX10_layMachine_14 : decode cX10_layMachine 14 = .ok (.istore_n 1, 1) := by decide +kernel
theorem dX10_layMachine_15 : decode cX10_layMachine 15 = .ok (.iload_n 1, 1) := by decide +kernel
theorem dX10_layMachine_16 : decode cX10_layMachine 16 = .ok (.sipush 7350, 3) := by decide +kernel
theorem dX10_layMachine_19 : decode cX10_layMachine 19 = .ok (.if_icmp .ge 17, 3) := by decide +kernel
theorem dX10_layMachine_22 : decode cX10_layMachine 22 = .ok (.aload_n 0, 1) := by decide +kernel
theorem dX10_layMachine_23 : decode cX10_layMachine 23 = .ok (.getfield 29, 3) := by decide +kernel
theorem dX10_layMachine_26 : decode cX10_layMachine 26 = .ok (.iload_n 1, 1) := by decide +kernel
theorem dX10_layMachine_27 : decode cX10_layMachine 27 = .ok (.ldc 163, 2) := by decide +kernel
theorem dX10_layMachine_29 : decode cX10_layMachine 29 = .ok (.iastore, 1) := by decide +kernel
theorem dX10_layMachine_30 : decode cX10_layMachine 30 = .ok (.iinc 1 1, 3) := by decide +kernel
theorem dX10_layMachine_33 : decode cX10_layMachine 33 = .ok (.goto (-18), 3) := by decide +kernel
theorem dX10_layMachine_36 : decode cX10_layMachine 36 = .ok (.aload_n 0, 1) := by decide +kernel
theorem dX10_layMachine_37 : decode cX10_layMachine 37 = .ok (.getfield 7, 3) := by decide +kernel
theorem dX10_layMachine_40 : decode cX10_layMachine 40 = .ok (.iconst 4, 1) := by decide +kernel
theorem dX10_layMachine_41 : decode cX10_layMachine 41 = .ok (.iaload, 1) := by decide +kernel
theorem dX10_layMachine_42 : decode cX10_layMachine 42 = .ok (.invokestatic 48, 3) := by decide +kernel
theorem dX10_layMachine_45 : decode cX10_layMachine 45 = .ok (.istore_n 1, 1) := by decide +kernel
theorem dX10_layMachine_46 : decode cX10_layMachine 46 = .ok (.iconst 0, 1) := by decide +kernel
theorem dX10_layMachine_47 : decode cX10_layMachine 47 = .ok (.istore_n 2, 1) := by decide +kernel
theorem dX10_layMachine_48 : decode cX10_layMachine 48 = .ok (.iload_n 2, 1) := by decide +kernel
theorem dX10_layMachine_49 : decode cX10_layMachine 49 = .ok (.iload_n 1, 1) := by decide +kernel
theorem dX10_layMachine_50 : decode cX10_layMachine 50 = .ok (.if_icmp .ge 47, 3) := by decide +kernel
theorem dX10_layMachine_53 : decode cX10_layMachine 53 = .ok (.aload_n 0, 1) := by decide +kernel
theorem dX10_layMachine_54 : decode cX10_layMachine 54 = .ok (.iload_n 2, 1) := by decide +kernel
theorem dX10_layMachine_55 : decode cX10_layMachine 55 = .ok (.ifCond .ne 12, 3) := by decide +kernel
theorem dX10_layMachine_58 : decode cX10_layMachine 58 = .ok (.aload_n 0, 1) := by decide +kernel
theorem dX10_layMachine_59 : decode cX10_layMachine 59 = .ok (.getfield 7, 3) := by decide +kernel
theorem dX10_layMachine_62 : decode cX10_layMachine 62 = .ok (.iconst 3, 1) := by decide +kernel
theorem dX10_layMachine_63 : decode cX10_layMachine 63 = .ok (.iaload, 1) := by decide +kernel
theorem dX10_layMachine_64 : decode cX10_layMachine 64 = .ok (.goto 7, 3) := by decide +kernel
theorem dX10_layMachine_67 : decode cX10_layMachine 67 = .ok (.bipush 30, 2) := by decide +kernel
theorem dX10_layMachine_69 : decode cX10_layMachine 69 = .ok (.iload_n 2, 1) := by decide +kernel
theorem dX10_layMachine_70 : decode cX10_layMachine 70 = .ok (.iadd, 1) := by decide +kernel
theorem dX10_layMachine_71 : decode cX10_layMachine 71 = .ok (.aload_n 0, 1) := by decide +kernel
theorem dX10_layMachine_72 : decode cX10_layMachine 72 = .ok (.getfield 7, 3) := by decide +kernel
theorem dX10_layMachine_75 : decode cX10_layMachine 75 = .ok (.iconst 4, 1) := by decide +kernel
theorem dX10_layMachine_76 : decode cX10_layMachine 76 = .ok (.iaload, 1) := by decide +kernel
theorem dX10_layMachine_77 : decode cX10_layMachine 77 = .ok (.iload_n 1, 1) := by decide +kernel
theorem dX10_layMachine_78 : decode cX10_layMachine 78 = .ok (.iload_n 2, 1) := by decide +kernel
theorem dX10_layMachine_79 : decode cX10_layMachine 79 = .ok (.invokestatic 107, 3) := by decide +kernel
theorem dX10_layMachine_82 : decode cX10_layMachine 82 = .ok (.bipush 31, 2) := by decide +kernel
theorem dX10_layMachine_84 : decode cX10_layMachine 84 = .ok (.iload_n 2, 1) := by decide +kernel
theorem dX10_layMachine_85 : decode cX10_layMachine 85 = .ok (.iadd, 1) := by decide +kernel
theorem dX10_layMachine_86 : decode cX10_layMachine 86 = .ok (.iconst 0, 1) := by decide +kernel
theorem dX10_layMachine_87 : decode cX10_layMachine 87 = .ok (.invokevirtual 167, 3) := by decide +kernel
theorem dX10_layMachine_90 : decode cX10_layMachine 90 = .ok (.istore_n 3, 1) := by decide +kernel
theorem dX10_layMachine_91 : decode cX10_layMachine 91 = .ok (.iinc 2 1, 3) := by decide +kernel
theorem dX10_layMachine_94 : decode cX10_layMachine 94 = .ok (.goto (-46), 3) := by decide +kernel
theorem dX10_layMachine_97 : decode cX10_layMachine 97 = .ok (.iconst 1, 1) := by decide +kernel
theorem dX10_layMachine_98 : decode cX10_layMachine 98 = .ok (.istore_n 2, 1) := by decide +kernel
theorem dX10_layMachine_99 : decode cX10_layMachine 99 = .ok (.iload_n 2, 1) := by decide +kernel
theorem dX10_layMachine_100 : decode cX10_layMachine 100 = .ok (.ifCond .eq 34, 3) := by decide +kernel
theorem dX10_layMachine_103 : decode cX10_layMachine 103 = .ok (.iconst 0, 1) := by decide +kernel
theorem dX10_layMachine_104 : decode cX10_layMachine 104 = .ok (.istore_n 2, 1) := by decide +kernel
theorem dX10_layMachine_105 : decode cX10_layMachine 105 = .ok (.iconst 0, 1) := by decide +kernel
theorem dX10_layMachine_106 : decode cX10_layMachine 106 = .ok (.istore_n 3, 1) := by decide +kernel
theorem dX10_layMachine_107 : decode cX10_layMachine 107 = .ok (.iload_n 3, 1) := by decide +kernel
theorem dX10_layMachine_108 : decode cX10_layMachine 108 = .ok (.aload_n 0, 1) := by decide +kernel
theorem dX10_layMachine_109 : decode cX10_layMachine 109 = .ok (.getfield 7, 3) := by decide +kernel
theorem dX10_layMachine_112 : decode cX10_layMachine 112 = .ok (.iconst 2, 1) := by decide +kernel
theorem dX10_layMachine_113 : decode cX10_layMachine 113 = .ok (.iaload, 1) := by decide +kernel
theorem dX10_layMachine_114 : decode cX10_layMachine 114 = .ok (.if_icmp .ge 17, 3) := by decide +kernel
theorem dX10_layMachine_117 : decode cX10_layMachine 117 = .ok (.iload_n 2, 1) := by decide +kernel
theorem dX10_layMachine_118 : decode cX10_layMachine 118 = .ok (.aload_n 0, 1) := by decide +kernel
theorem dX10_layMachine_119 : decode cX10_layMachine 119 = .ok (.iload_n 3, 1) := by decide +kernel
theorem dX10_layMachine_120 : decode cX10_layMachine 120 = .ok (.invokevirtual 173, 3) := by decide +kernel
theorem dX10_layMachine_123 : decode cX10_layMachine 123 = .ok (.ior, 1) := by decide +kernel
theorem dX10_layMachine_124 : decode cX10_layMachine 124 = .ok (.istore_n 2, 1) := by decide +kernel
theorem dX10_layMachine_125 : decode cX10_layMachine 125 = .ok (.iinc 3 1, 3) := by decide +kernel
theorem dX10_layMachine_128 : decode cX10_layMachine 128 = .ok (.goto (-21), 3) := by decide +kernel
theorem dX10_layMachine_131 : decode cX10_layMachine 131 = .ok (.goto (-32), 3) := by decide +kernel
theorem dX10_layMachine_134 : decode cX10_layMachine 134 = .ok (.return_, 1) := by decide +kernel
theorem dX10_restOf_0 : decode cX10_restOf 0 = .ok (.aload_n 0, 1) := by decide +kernel
theorem dX10_restOf_1 : decode cX10_restOf 1 = .ok (.getfield 32, 3) := by decide +kernel
theorem dX10_restOf_4 : decode cX10_restOf 4 = .ok (.bipush 35, 2) := by decide +kernel
theorem dX10_restOf_6 : decode cX10_restOf 6 = .ok (.iload_n 2, 1) := by decide +kernel
theorem dX10_restOf_7 : decode cX10_restOf 7 = .ok (.imul, 1) := by decide +kernel
theorem dX10_restOf_8 : decode cX10_restOf 8 = .ok (.iload_n 1, 1) := by decide +kernel
theorem dX10_restOf_9 : decode cX10_restOf 9 = .ok (.iadd, 1) := by decide +kernel
theorem dX10_restOf_10 : decode cX10_restOf 10 = .ok (.iaload, 1) := by decide +kernel
theorem dX10_restOf_11 : decode cX10_restOf 11 = .ok (.ireturn, 1) := by decide +kernel
theorem dX10_layRests_0 : decode cX10_layRests 0 = .ok (.bipush 30, 2) := by decide +kernel
theorem dX10_layRests_2 : decode cX10_layRests 2 = .ok (.aload_n 0, 1) := by decide +kernel
theorem dX10_layRests_3 : decode cX10_layRests 3 = .ok (.getfield 7, 3) := by decide +kernel
theorem dX10_layRests_6 : decode cX10_layRests 6 = .ok (.iconst 4, 1) := by decide +kernel
theorem dX10_layRests_7 : decode cX10_layRests 7 = .ok (.iaload, 1) := by decide +kernel
theorem dX10_layRests_8 : decode cX10_layRests 8 = .ok (.invokestatic 48, 3) := by decide +kernel
theorem dX10_layRests_11 : decode cX10_layRests 11 = .ok (.iadd, 1) := by decide +kernel
theorem dX10_layRests_12 : decode cX10_layRests 12 = .ok (.istore_n 1, 1) := by decide +kernel
theorem dX10_layRests_13 : decode cX10_layRests 13 = .ok (.iconst 0, 1) := by decide +kernel
theorem dX10_layRests_14 : decode cX10_layRests 14 = .ok (.istore_n 2, 1) := by decide +kernel
theorem dX10_layRests_15 : decode cX10_layRests 15 = .ok (.iload_n 2, 1) := by decide +kernel
theorem dX10_layRests_16 : decode cX10_layRests 16 = .ok (.bipush 35, 2) := by decide +kernel
theorem dX10_layRests_18 : decode cX10_layRests 18 = .ok (.if_icmp .ge 42, 3) := by decide +kernel
theorem dX10_layRests_21 : decode cX10_layRests 21 = .ok (.aload_n 0, 1) := by decide +kernel
theorem dX10_layRests_22 : decode cX10_layRests 22 = .ok (.getfield 32, 3) := by decide +kernel
theorem dX10_layRests_25 : decode cX10_layRests 25 = .ok (.iload_n 2, 1) := by decide +kernel
theorem dX10_layRests_26 : decode cX10_layRests 26 = .ok (.iload_n 2, 1) := by decide +kernel
theorem dX10_layRests_27 : decode cX10_layRests 27 = .ok (.iload_n 1, 1) := by decide +kernel
theorem dX10_layRests_28 : decode cX10_layRests 28 = .ok (.if_icmp .ne 7, 3) := by decide +kernel
theorem dX10_layRests_31 : decode cX10_layRests 31 = .ok (.iconst 0, 1) := by decide +kernel
theorem dX10_layRests_32 : decode cX10_layRests 32 = .ok (.goto 5, 3) := by decide +kernel
theorem dX10_layRests_35 : decode cX10_layRests 35 = .ok (.ldc 163, 2) := by decide +kernel
theorem dX10_layRests_37 : decode cX10_layRests 37 = .ok (.iastore, 1) := by decide +kernel
theorem dX10_layRests_38 : decode cX10_layRests 38 = .ok (.aload_n 0, 1) := by decide +kernel
theorem dX10_layRests_39 : decode cX10_layRests 39 = .ok (.getfield 32, 3) := by decide +kernel
theorem dX10_layRests_42 : decode cX10_layRests 42 = .ok (.sipush 245, 3) := by decide +kernel
theorem dX10_layRests_45 : decode cX10_layRests 45 = .ok (.iload_n 2, 1) := by decide +kernel
theorem dX10_layRests_46 : decode cX10_layRests 46 = .ok (.iadd, 1) := by decide +kernel
theorem dX10_layRests_47 : decode cX10_layRests 47 = .ok (.aload_n 0, 1) := by decide +kernel
theorem dX10_layRests_48 : decode cX10_layRests 48 = .ok (.getfield 32, 3) := by decide +kernel
theorem dX10_layRests_51 : decode cX10_layRests 51 = .ok (.iload_n 2, 1) := by decide +kernel
theorem dX10_layRests_52 : decode cX10_layRests 52 = .ok (.iaload, 1) := by decide +kernel
theorem dX10_layRests_53 : decode cX10_layRests 53 = .ok (.iastore, 1) := by decide +kernel
theorem dX10_layRests_54 : decode cX10_layRests 54 = .ok (.iinc 2 1, 3) := by decide +kernel
theorem dX10_layRests_57 : decode cX10_layRests 57 = .ok (.goto (-42), 3) := by decide +kernel
theorem dX10_layRests_60 : decode cX10_layRests 60 = .ok (.iconst 1, 1) := by decide +kernel
theorem dX10_layRests_61 : decode cX10_layRests 61 = .ok (.istore_n 2, 1) := by decide +kernel
theorem dX10_layRests_62 : decode cX10_layRests 62 = .ok (.iload_n 2, 1) := by decide +kernel
theorem dX10_layRests_63 : decode cX10_layRests 63 = .ok (.bipush 7, 2) := by decide +kernel
theorem dX10_layRests_65 : decode cX10_layRests 65 = .ok (.if_icmp .ge 42, 3) := by decide +kernel
theorem dX10_layRests_68 : decode cX10_layRests 68 = .ok (.iconst 0, 1) := by decide +kernel
theorem dX10_layRests_69 : decode cX10_layRests 69 = .ok (.istore_n 3, 1) := by decide +kernel
theorem dX10_layRests_70 : decode cX10_layRests 70 = .ok (.iload_n 3, 1) := by decide +kernel
theorem dX10_layRests_71 : decode cX10_layRests 71 = .ok (.bipush 35, 2) := by decide +kernel
theorem dX10_layRests_73 : decode cX10_layRests 73 = .ok (.if_icmp .ge 28, 3) := by decide +kernel
theorem dX10_layRests_76 : decode cX10_layRests 76 = .ok (.aload_n 0, 1) := by decide +kernel
theorem dX10_layRests_77 : decode cX10_layRests 77 = .ok (.getfield 32, 3) := by decide +kernel
theorem dX10_layRests_80 : decode cX10_layRests 80 = .ok (.bipush 35, 2) := by decide +kernel
theorem dX10_layRests_82 : decode cX10_layRests 82 = .ok (.iload_n 2, 1) := by decide +kernel
theorem dX10_layRests_83 : decode cX10_layRests 83 = .ok (.imul, 1) := by decide +kernel
theorem dX10_layRests_84 : decode cX10_layRests 84 = .ok (.iload_n 3, 1) := by decide +kernel
theorem dX10_layRests_85 : decode cX10_layRests 85 = .ok (.iadd, 1) := by decide +kernel
theorem dX10_layRests_86 : decode cX10_layRests 86 = .ok (.aload_n 0, 1) := by decide +kernel
theorem dX10_layRests_87 : decode cX10_layRests 87 = .ok (.iload_n 3, 1) := by decide +kernel
theorem dX10_layRests_88 : decode cX10_layRests 88 = .ok (.iload_n 2, 1) := by decide +kernel
theorem dX10_layRests_89 : decode cX10_layRests 89 = .ok (.iconst 1, 1) := by decide +kernel
theorem dX10_layRests_90 : decode cX10_layRests 90 = .ok (.isub, 1) := by decide +kernel
theorem dX10_layRests_91 : decode cX10_layRests 91 = .ok (.invokevirtual 176, 3) := by decide +kernel
theorem dX10_layRests_94 : decode cX10_layRests 94 = .ok (.iastore, 1) := by decide +kernel
theorem dX10_layRests_95 : decode cX10_layRests 95 = .ok (.iinc 3 1, 3) := by decide +kernel
theorem dX10_layRests_98 : decode cX10_layRests 98 = .ok (.goto (-28), 3) := by decide +kernel
theorem dX10_layRests_101 : decode cX10_layRests 101 = .ok (.iinc 2 1, 3) := by decide +kernel
theorem dX10_layRests_104 : decode cX10_layRests 104 = .ok (.goto (-42), 3) := by decide +kernel
theorem dX10_layRests_107 : decode cX10_layRests 107 = .ok (.iconst 1, 1) := by decide +kernel
theorem dX10_layRests_108 : decode cX10_layRests 108 = .ok (.istore_n 2, 1) := by decide +kernel
theorem dX10_layRests_109 : decode cX10_layRests 109 = .ok (.iload_n 2, 1) := by decide +kernel
theorem dX10_layRests_110 : decode cX10_layRests 110 = .ok (.ifCond .eq 85, 3) := by decide +kernel
theorem dX10_layRests_113 : decode cX10_layRests 113 = .ok (.iconst 0, 1) := by decide +kernel
theorem dX10_layRests_114 : decode cX10_layRests 114 = .ok (.istore_n 2, 1) := by decide +kernel
theorem dX10_layRests_115 : decode cX10_layRests 115 = .ok (.iconst 0, 1) := by decide +kernel
theorem dX10_layRests_116 : decode cX10_layRests 116 = .ok (.istore_n 3, 1) := by decide +kernel
theorem dX10_layRests_117 : decode cX10_layRests 117 = .ok (.iload_n 3, 1) := by decide +kernel
theorem dX10_layRests_118 : decode cX10_layRests 118 = .ok (.bipush 35, 2) := by decide +kernel
theorem dX10_layRests_120 : decode cX10_layRests 120 = .ok (.if_icmp .ge 72, 3) := by decide +kernel
theorem dX10_layRests_123 : decode cX10_layRests 123 = .ok (.aload_n 0, 1) := by decide +kernel
theorem dX10_layRests_124 : decode cX10_layRests 124 = .ok (.iload_n 3, 1) := by decide +kernel
theorem dX10_layRests_125 : decode cX10_layRests 125 = .ok (.bipush 7, 2) := by decide +kernel
theorem dX10_layRests_127 : decode cX10_layRests 127 = .ok (.invokevirtual 176, 3) := by decide +kernel
theorem dX10_layRests_130 : decode cX10_layRests 130 = .ok (.istore 4, 2) := by decide +kernel
theorem dX10_layRests_132 : decode cX10_layRests 132 = .ok (.iload_n 2, 1) := by decide +kernel
theorem dX10_layRests_133 : decode cX10_layRests 133 = .ok (.iload 4, 2) := by decide +kernel
theorem dX10_layRests_135 : decode cX10_layRests 135 = .ok (.aload_n 0, 1) := by decide +kernel
theorem dX10_layRests_136 : decode cX10_layRests 136 = .ok (.iload_n 3, 1) := by decide +kernel
theorem dX10_layRests_137 : decode cX10_layRests 137 = .ok (.bipush 7, 2) := by decide +kernel
theorem dX10_layRests_139 : decode cX10_layRests 139 = .ok (.invokevirtual 179, 3) := by decide +kernel
theorem dX10_layRests_142 : decode cX10_layRests 142 = .ok (.if_icmp .ge 7, 3) := by decide +kernel
theorem dX10_layRests_145 : decode cX10_layRests 145 = .ok (.iconst 1, 1) := by decide +kernel
theorem dX10_layRests_146 : decode cX10_layRests 146 = .ok (.goto 4, 3) := by decide +kernel
theorem dX10_layRests_149 : decode cX10_layRests 149 = .ok (.iconst 0, 1) := by decide +kernel
theorem dX10_layRests_150 : decode cX10_layRests 150 = .ok (.ior, 1) := by decide +kernel
theorem dX10_layRests_151 : decode cX10_layRests 151 = .ok (.istore_n 2, 1) := by decide +kernel
theorem dX10_layRests_152 : decode cX10_layRests 152 = .ok (.aload_n 0, 1) := by decide +kernel
theorem dX10_layRests_153 : decode cX10_layRests 153 = .ok (.getfield 32, 3) := by decide +kernel
theorem dX10_layRests_156 : decode cX10_layRests 156 = .ok (.sipush 245, 3) := by decide +kernel
theorem dX10_layRests_159 : decode cX10_layRests 159 = .ok (.iload_n 3, 1) := by decide +kernel
theorem dX10_layRests_160 : decode cX10_layRests 160 = .ok (.iadd, 1) := by decide +kernel
theorem dX10_layRests_161 : decode cX10_layRests 161 = .ok (.iload 4, 2) := by decide +kernel
theorem dX10_layRests_163 : decode cX10_layRests 163 = .ok (.aload_n 0, 1) := by decide +kernel
theorem dX10_layRests_164 : decode cX10_layRests 164 = .ok (.iload_n 3, 1) := by decide +kernel
theorem dX10_layRests_165 : decode cX10_layRests 165 = .ok (.bipush 7, 2) := by decide +kernel
theorem dX10_layRests_167 : decode cX10_layRests 167 = .ok (.invokevirtual 179, 3) := by decide +kernel
theorem dX10_layRests_170 : decode cX10_layRests 170 = .ok (.if_icmp .ge 8, 3) := by decide +kernel
theorem dX10_layRests_173 : decode cX10_layRests 173 = .ok (.iload 4, 2) := by decide +kernel
theorem dX10_layRests_175 : decode cX10_layRests 175 = .ok (.goto 10, 3) := by decide +kernel
theorem dX10_layRests_178 : decode cX10_layRests 178 = .ok (.aload_n 0, 1) := by decide +kernel
theorem dX10_layRests_179 : decode cX10_layRests 179 = .ok (.iload_n 3, 1) := by decide +kernel
theorem dX10_layRests_180 : decode cX10_layRests 180 = .ok (.bipush 7, 2) := by decide +kernel
theorem dX10_layRests_182 : decode cX10_layRests 182 = .ok (.invokevirtual 179, 3) := by decide +kernel
theorem dX10_layRests_185 : decode cX10_layRests 185 = .ok (.iastore, 1) := by decide +kernel
theorem dX10_layRests_186 : decode cX10_layRests 186 = .ok (.iinc 3 1, 3) := by decide +kernel
theorem dX10_layRests_189 : decode cX10_layRests 189 = .ok (.goto (-72), 3) := by decide +kernel
theorem dX10_layRests_192 : decode cX10_layRests 192 = .ok (.goto (-83), 3) := by decide +kernel
theorem dX10_layRests_195 : decode cX10_layRests 195 = .ok (.return_, 1) := by decide +kernel
theorem dX10_throughOne_0 : decode cX10_throughOne 0 = .ok (.ldc 163, 2) := by decide +kernel
theorem dX10_throughOne_2 : decode cX10_throughOne 2 = .ok (.istore_n 3, 1) := by decide +kernel
theorem dX10_throughOne_3 : decode cX10_throughOne 3 = .ok (.iconst 1, 1) := by decide +kernel
theorem dX10_throughOne_4 : decode cX10_throughOne 4 = .ok (.istore 4, 2) := by decide +kernel
theorem dX10_throughOne_6 : decode cX10_throughOne 6 = .ok (.iload 4, 2) := by decide +kernel
theorem dX10_throughOne_8 : decode cX10_throughOne 8 = .ok (.aload_n 0, 1) := by decide +kernel
theorem dX10_throughOne_9 : decode cX10_throughOne 9 = .ok (.getfield 7, 3) := by decide +kernel
theorem dX10_throughOne_12 : decode cX10_throughOne 12 = .ok (.iconst 1, 1) := by decide +kernel
theorem dX10_throughOne_13 : decode cX10_throughOne 13 = .ok (.iaload, 1) := by decide +kernel
theorem dX10_throughOne_14 : decode cX10_throughOne 14 = .ok (.if_icmp .gt 82, 3) := by decide +kernel
theorem dX10_throughOne_17 : decode cX10_throughOne 17 = .ok (.iconst 0, 1) := by decide +kernel
theorem dX10_throughOne_18 : decode cX10_throughOne 18 = .ok (.istore 5, 2) := by decide +kernel
theorem dX10_throughOne_20 : decode cX10_throughOne 20 = .ok (.iload 5, 2) := by decide +kernel
theorem dX10_throughOne_22 : decode cX10_throughOne 22 = .ok (.bipush 35, 2) := by decide +kernel
theorem dX10_throughOne_24 : decode cX10_throughOne 24 = .ok (.if_icmp .ge 66, 3) := by decide +kernel
theorem dX10_throughOne_27 : decode cX10_throughOne 27 = .ok (.aload_n 0, 1) := by decide +kernel
theorem dX10_throughOne_28 : decode cX10_throughOne 28 = .ok (.getfield 29, 3) := by decide +kernel
theorem dX10_throughOne_31 : decode cX10_throughOne 31 = .ok (.iload_n 1, 1) := by decide +kernel
theorem dX10_throughOne_32 : decode cX10_throughOne 32 = .ok (.iload 4, 2) := by decide +kernel
theorem dX10_throughOne_34 : decode cX10_throughOne 34 = .ok (.iload 5, 2) := by decide +kernel
theorem dX10_throughOne_36 : decode cX10_throughOne 36 = .ok (.invokestatic 160, 3) := by decide +kernel
theorem dX10_throughOne_39 : decode cX10_throughOne 39 = .ok (.iaload, 1) := by decide +kernel
theorem dX10_throughOne_40 : decode cX10_throughOne 40 = .ok (.istore 6, 2) := by decide +kernel
theorem dX10_throughOne_42 : decode cX10_throughOne 42 = .ok (.aload_n 0, 1) := by decide +kernel
theorem dX10_throughOne_43 : decode cX10_throughOne 43 = .ok (.iload 5, 2) := by decide +kernel
theorem dX10_throughOne_45 : decode cX10_throughOne 45 = .ok (.iload_n 2, 1) := by decide +kernel
theorem dX10_throughOne_46 : decode cX10_throughOne 46 = .ok (.invokevirtual 179, 3) := by decide +kernel
theorem dX10_throughOne_49 : decode cX10_throughOne 49 = .ok (.istore 7, 2) := by decide +kernel
theorem dX10_throughOne_51 : decode cX10_throughOne 51 = .ok (.iload 6, 2) := by decide +kernel
theorem dX10_throughOne_53 : decode cX10_throughOne 53 = .ok (.ldc 163, 2) := by decide +kernel
theorem dX10_throughOne_55 : decode cX10_throughOne 55 = .ok (.if_icmp .ge 27, 3) := by decide +kernel
theorem dX10_throughOne_58 : decode cX10_throughOne 58 = .ok (.iload 7, 2) := by decide +kernel
theorem dX10_throughOne_60 : decode cX10_throughOne 60 = .ok (.ldc 163, 2) := by decide +kernel
theorem dX10_throughOne_62 : decode cX10_throughOne 62 = .ok (.if_icmp .ge 20, 3) := by decide +kernel
theorem dX10_throughOne_65 : decode cX10_throughOne 65 = .ok (.iload 6, 2) := by decide +kernel
theorem dX10_throughOne_67 : decode cX10_throughOne 67 = .ok (.iload 7, 2) := by decide +kernel
theorem dX10_throughOne_69 : decode cX10_throughOne 69 = .ok (.iadd, 1) := by decide +kernel
theorem dX10_throughOne_70 : decode cX10_throughOne 70 = .ok (.iload_n 3, 1) := by decide +kernel
theorem dX10_throughOne_71 : decode cX10_throughOne 71 = .ok (.if_icmp .ge 11, 3) := by decide +kernel
theorem dX10_throughOne_74 : decode cX10_throughOne 74 = .ok (.iload 6, 2) := by decide +kernel
theorem dX10_throughOne_76 : decode cX10_throughOne 76 = .ok (.iload 7, 2) := by decide +kernel
theorem dX10_throughOne_78 : decode cX10_throughOne 78 = .ok (.iadd, 1) := by decide +kernel
theorem dX10_throughOne_79 : decode cX10_throughOne 79 = .ok (.goto 4, 3) := by decide +kernel
theorem dX10_throughOne_82 : decode cX10_throughOne 82 = .ok (.iload_n 3, 1) := by decide +kernel
theorem dX10_throughOne_83 : decode cX10_throughOne 83 = .ok (.istore_n 3, 1) := by decide +kernel
theorem dX10_throughOne_84 : decode cX10_throughOne 84 = .ok (.iinc 5 1, 3) := by decide +kernel
theorem dX10_throughOne_87 : decode cX10_throughOne 87 = .ok (.goto (-67), 3) := by decide +kernel
theorem dX10_throughOne_90 : decode cX10_throughOne 90 = .ok (.iinc 4 1, 3) := by decide +kernel
theorem dX10_throughOne_93 : decode cX10_throughOne 93 = .ok (.goto (-87), 3) := by decide +kernel
theorem dX10_throughOne_96 : decode cX10_throughOne 96 = .ok (.iload_n 3, 1) := by decide +kernel
theorem dX10_throughOne_97 : decode cX10_throughOne 97 = .ok (.ireturn, 1) := by decide +kernel
theorem dX10_meet_0 : decode cX10_meet 0 = .ok (.ldc 163, 2) := by decide +kernel
theorem dX10_meet_2 : decode cX10_meet 2 = .ok (.istore_n 3, 1) := by decide +kernel
theorem dX10_meet_3 : decode cX10_meet 3 = .ok (.iconst 0, 1) := by decide +kernel
theorem dX10_meet_4 : decode cX10_meet 4 = .ok (.istore 4, 2) := by decide +kernel
theorem dX10_meet_6 : decode cX10_meet 6 = .ok (.iload 4, 2) := by decide +kernel
theorem dX10_meet_8 : decode cX10_meet 8 = .ok (.bipush 35, 2) := by decide +kernel
theorem dX10_meet_10 : decode cX10_meet 10 = .ok (.if_icmp .ge 57, 3) := by decide +kernel
theorem dX10_meet_13 : decode cX10_meet 13 = .ok (.aload_n 0, 1) := by decide +kernel
theorem dX10_meet_14 : decode cX10_meet 14 = .ok (.iload 4, 2) := by decide +kernel
theorem dX10_meet_16 : decode cX10_meet 16 = .ok (.iload_n 2, 1) := by decide +kernel
theorem dX10_meet_17 : decode cX10_meet 17 = .ok (.invokevirtual 179, 3) := by decide +kernel
theorem dX10_meet_20 : decode cX10_meet 20 = .ok (.istore 5, 2) := by decide +kernel
theorem dX10_meet_22 : decode cX10_meet 22 = .ok (.aload_n 1, 1) := by decide +kernel
theorem dX10_meet_23 : decode cX10_meet 23 = .ok (.iload 4, 2) := by decide +kernel
theorem dX10_meet_25 : decode cX10_meet 25 = .ok (.iaload, 1) := by decide +kernel
theorem dX10_meet_26 : decode cX10_meet 26 = .ok (.ldc 163, 2) := by decide +kernel
theorem dX10_meet_28 : decode cX10_meet 28 = .ok (.if_icmp .ge 31, 3) := by decide +kernel
theorem dX10_meet_31 : decode cX10_meet 31 = .ok (.iload 5, 2) := by decide +kernel
theorem dX10_meet_33 : decode cX10_meet 33 = .ok (.ldc 163, 2) := by decide +kernel
theorem dX10_meet_35 : decode cX10_meet 35 = .ok (.if_icmp .ge 24, 3) := by decide +kernel
theorem dX10_meet_38 : decode cX10_meet 38 = .ok (.aload_n 1, 1) := by decide +kernel
theorem dX10_meet_39 : decode cX10_meet 39 = .ok (.iload 4, 2) := by decide +kernel
theorem dX10_meet_41 : decode cX10_meet 41 = .ok (.iaload, 1) := by decide +kernel
theorem dX10_meet_42 : decode cX10_meet 42 = .ok (.iload 5, 2) := by decide +kernel
theorem dX10_meet_44 : decode cX10_meet 44 = .ok (.iadd, 1) := by decide +kernel
theorem dX10_meet_45 : decode cX10_meet 45 = .ok (.iload_n 3, 1) := by decide +kernel
theorem dX10_meet_46 : decode cX10_meet 46 = .ok (.if_icmp .ge 13, 3) := by decide +kernel
theorem dX10_meet_49 : decode cX10_meet 49 = .ok (.aload_n 1, 1) := by decide +kernel
theorem dX10_meet_50 : decode cX10_meet 50 = .ok (.iload 4, 2) := by decide +kernel
theorem dX10_meet_52 : decode cX10_meet 52 = .ok (.iaload, 1) := by decide +kernel
theorem dX10_meet_53 : decode cX10_meet 53 = .ok (.iload 5, 2) := by decide +kernel
theorem dX10_meet_55 : decode cX10_meet 55 = .ok (.iadd, 1) := by decide +kernel
theorem dX10_meet_56 : decode cX10_meet 56 = .ok (.goto 4, 3) := by decide +kernel
theorem dX10_meet_59 : decode cX10_meet 59 = .ok (.iload_n 3, 1) := by decide +kernel
theorem dX10_meet_60 : decode cX10_meet 60 = .ok (.istore_n 3, 1) := by decide +kernel
theorem dX10_meet_61 : decode cX10_meet 61 = .ok (.iinc 4 1, 3) := by decide +kernel
theorem dX10_meet_64 : decode cX10_meet 64 = .ok (.goto (-58), 3) := by decide +kernel
theorem dX10_meet_67 : decode cX10_meet 67 = .ok (.iload_n 3, 1) := by decide +kernel
theorem dX10_meet_68 : decode cX10_meet 68 = .ok (.ireturn, 1) := by decide +kernel
theorem dX10_readFront_0 : decode cX10_readFront 0 = .ok (.iconst 0, 1) := by decide +kernel
theorem dX10_readFront_1 : decode cX10_readFront 1 = .ok (.istore_n 2, 1) := by decide +kernel
theorem dX10_readFront_2 : decode cX10_readFront 2 = .ok (.iload_n 2, 1) := by decide +kernel
theorem dX10_readFront_3 : decode cX10_readFront 3 = .ok (.bipush 35, 2) := by decide +kernel
theorem dX10_readFront_5 : decode cX10_readFront 5 = .ok (.if_icmp .ge 104, 3) := by decide +kernel
theorem dX10_readFront_8 : decode cX10_readFront 8 = .ok (.aload_n 0, 1) := by decide +kernel
theorem dX10_readFront_9 : decode cX10_readFront 9 = .ok (.getfield 38, 3) := by decide +kernel
theorem dX10_readFront_12 : decode cX10_readFront 12 = .ok (.iload_n 2, 1) := by decide +kernel
theorem dX10_readFront_13 : decode cX10_readFront 13 = .ok (.ldc 163, 2) := by decide +kernel
theorem dX10_readFront_15 : decode cX10_readFront 15 = .ok (.iastore, 1) := by decide +kernel
theorem dX10_readFront_16 : decode cX10_readFront 16 = .ok (.iconst 0, 1) := by decide +kernel
theorem dX10_readFront_17 : decode cX10_readFront 17 = .ok (.istore_n 3, 1) := by decide +kernel
theorem dX10_readFront_18 : decode cX10_readFront 18 = .ok (.iload_n 3, 1) := by decide +kernel
theorem dX10_readFront_19 : decode cX10_readFront 19 = .ok (.bipush 35, 2) := by decide +kernel
theorem dX10_readFront_21 : decode cX10_readFront 21 = .ok (.if_icmp .ge 82, 3) := by decide +kernel
theorem dX10_readFront_24 : decode cX10_readFront 24 = .ok (.aload_n 0, 1) := by decide +kernel
theorem dX10_readFront_25 : decode cX10_readFront 25 = .ok (.getfield 29, 3) := by decide +kernel
theorem dX10_readFront_28 : decode cX10_readFront 28 = .ok (.iload_n 3, 1) := by decide +kernel
theorem dX10_readFront_29 : decode cX10_readFront 29 = .ok (.iload_n 1, 1) := by decide +kernel
theorem dX10_readFront_30 : decode cX10_readFront 30 = .ok (.iload_n 2, 1) := by decide +kernel
theorem dX10_readFront_31 : decode cX10_readFront 31 = .ok (.invokestatic 160, 3) := by decide +kernel
theorem dX10_readFront_34 : decode cX10_readFront 34 = .ok (.iaload, 1) := by decide +kernel
theorem dX10_readFront_35 : decode cX10_readFront 35 = .ok (.istore 4, 2) := by decide +kernel
theorem dX10_readFront_37 : decode cX10_readFront 37 = .ok (.aload_n 0, 1) := by decide +kernel
theorem dX10_readFront_38 : decode cX10_readFront 38 = .ok (.getfield 38, 3) := by decide +kernel
theorem dX10_readFront_41 : decode cX10_readFront 41 = .ok (.iload_n 2, 1) := by decide +kernel
theorem dX10_readFront_42 : decode cX10_readFront 42 = .ok (.aload_n 0, 1) := by decide +kernel
theorem dX10_readFront_43 : decode cX10_readFront 43 = .ok (.getfield 35, 3) := by decide +kernel
theorem dX10_readFront_46 : decode cX10_readFront 46 = .ok (.iload_n 3, 1) := by decide +kernel
theorem dX10_readFront_47 : decode cX10_readFront 47 = .ok (.iaload, 1) := by decide +kernel
theorem dX10_readFront_48 : decode cX10_readFront 48 = .ok (.ldc 163, 2) := by decide +kernel
theorem dX10_readFront_50 : decode cX10_readFront 50 = .ok (.if_icmp .ge 40, 3) := by decide +kernel
theorem dX10_readFront_53 : decode cX10_readFront 53 = .ok (.iload 4, 2) := by decide +kernel
theorem dX10_readFront_55 : decode cX10_readFront 55 = .ok (.ldc 163, 2) := by decide +kernel
theorem dX10_readFront_57 : decode cX10_readFront 57 = .ok (.if_icmp .ge 33, 3) := by decide +kernel
theorem dX10_readFront_60 : decode cX10_readFront 60 = .ok (.aload_n 0, 1) := by decide +kernel
theorem dX10_readFront_61 : decode cX10_readFront 61 = .ok (.getfield 35, 3) := by decide +kernel
theorem dX10_readFront_64 : decode cX10_readFront 64 = .ok (.iload_n 3, 1) := by decide +kernel
theorem dX10_readFront_65 : decode cX10_readFront 65 = .ok (.iaload, 1) := by decide +kernel
theorem dX10_readFront_66 : decode cX10_readFront 66 = .ok (.iload 4, 2) := by decide +kernel
theorem dX10_readFront_68 : decode cX10_readFront 68 = .ok (.iadd, 1) := by decide +kernel
theorem dX10_readFront_69 : decode cX10_readFront 69 = .ok (.aload_n 0, 1) := by decide +kernel
theorem dX10_readFront_70 : decode cX10_readFront 70 = .ok (.getfield 38, 3) := by decide +kernel
theorem dX10_readFront_73 : decode cX10_readFront 73 = .ok (.iload_n 2, 1) := by decide +kernel
theorem dX10_readFront_74 : decode cX10_readFront 74 = .ok (.iaload, 1) := by decide +kernel
theorem dX10_readFront_75 : decode cX10_readFront 75 = .ok (.if_icmp .ge 15, 3) := by decide +kernel
theorem dX10_readFront_78 : decode cX10_readFront 78 = .ok (.aload_n 0, 1) := by decide +kernel
theorem dX10_readFront_79 : decode cX10_readFront 79 = .ok (.getfield 35, 3) := by decide +kernel
theorem dX10_readFront_82 : decode cX10_readFront 82 = .ok (.iload_n 3, 1) := by decide +kernel
theorem dX10_readFront_83 : decode cX10_readFront 83 = .ok (.iaload, 1) := by decide +kernel
theorem dX10_readFront_84 : decode cX10_readFront 84 = .ok (.iload 4, 2) := by decide +kernel
theorem dX10_readFront_86 : decode cX10_readFront 86 = .ok (.iadd, 1) := by decide +kernel
theorem dX10_readFront_87 : decode cX10_readFront 87 = .ok (.goto 9, 3) := by decide +kernel
theorem dX10_readFront_90 : decode cX10_readFront 90 = .ok (.aload_n 0, 1) := by decide +kernel
theorem dX10_readFront_91 : decode cX10_readFront 91 = .ok (.getfield 38, 3) := by decide +kernel
theorem dX10_readFront_94 : decode cX10_readFront 94 = .ok (.iload_n 2, 1) := by decide +kernel
theorem dX10_readFront_95 : decode cX10_readFront 95 = .ok (.iaload, 1) := by decide +kernel
theorem dX10_readFront_96 : decode cX10_readFront 96 = .ok (.iastore, 1) := by decide +kernel
theorem dX10_readFront_97 : decode cX10_readFront 97 = .ok (.iinc 3 1, 3) := by decide +kernel
theorem dX10_readFront_100 : decode cX10_readFront 100 = .ok (.goto (-82), 3) := by decide +kernel
theorem dX10_readFront_103 : decode cX10_readFront 103 = .ok (.iinc 2 1, 3) := by decide +kernel
theorem dX10_readFront_106 : decode cX10_readFront 106 = .ok (.goto (-104), 3) := by decide +kernel
theorem dX10_readFront_109 : decode cX10_readFront 109 = .ok (.return_, 1) := by decide +kernel
theorem dX10_layFront_0 : decode cX10_layFront 0 = .ok (.iconst 0, 1) := by decide +kernel
theorem dX10_layFront_1 : decode cX10_layFront 1 = .ok (.istore_n 3, 1) := by decide +kernel
theorem dX10_layFront_2 : decode cX10_layFront 2 = .ok (.iload_n 3, 1) := by decide +kernel
theorem dX10_layFront_3 : decode cX10_layFront 3 = .ok (.bipush 35, 2) := by decide +kernel
theorem dX10_layFront_5 : decode cX10_layFront 5 = .ok (.if_icmp .ge 22, 3) := by decide +kernel
theorem dX10_layFront_8 : decode cX10_layFront 8 = .ok (.aload_n 0, 1) := by decide +kernel
theorem dX10_layFront_9 : decode cX10_layFront 9 = .ok (.getfield 35, 3) := by decide +kernel
theorem dX10_layFront_12 : decode cX10_layFront 12 = .ok (.iload_n 3, 1) := by decide +kernel
theorem dX10_layFront_13 : decode cX10_layFront 13 = .ok (.aload_n 0, 1) := by decide +kernel
theorem dX10_layFront_14 : decode cX10_layFront 14 = .ok (.iload_n 1, 1) := by decide +kernel
theorem dX10_layFront_15 : decode cX10_layFront 15 = .ok (.iload_n 2, 1) := by decide +kernel
theorem dX10_layFront_16 : decode cX10_layFront 16 = .ok (.iload_n 3, 1) := by decide +kernel
theorem dX10_layFront_17 : decode cX10_layFront 17 = .ok (.invokevirtual 164, 3) := by decide +kernel
theorem dX10_layFront_20 : decode cX10_layFront 20 = .ok (.iastore, 1) := by decide +kernel
theorem dX10_layFront_21 : decode cX10_layFront 21 = .ok (.iinc 3 1, 3) := by decide +kernel
theorem dX10_layFront_24 : decode cX10_layFront 24 = .ok (.goto (-22), 3) := by decide +kernel
theorem dX10_layFront_27 : decode cX10_layFront 27 = .ok (.return_, 1) := by decide +kernel
theorem dX10_headOf_0 : decode cX10_headOf 0 = .ok (.aload_n 0, 1) := by decide +kernel
theorem dX10_headOf_1 : decode cX10_headOf 1 = .ok (.iload_n 1, 1) := by decide +kernel
theorem dX10_headOf_2 : decode cX10_headOf 2 = .ok (.iload_n 2, 1) := by decide +kernel
theorem dX10_headOf_3 : decode cX10_headOf 3 = .ok (.invokevirtual 182, 3) := by decide +kernel
theorem dX10_headOf_6 : decode cX10_headOf 6 = .ok (.aload_n 0, 1) := by decide +kernel
theorem dX10_headOf_7 : decode cX10_headOf 7 = .ok (.aload_n 0, 1) := by decide +kernel
theorem dX10_headOf_8 : decode cX10_headOf 8 = .ok (.getfield 35, 3) := by decide +kernel
theorem dX10_headOf_11 : decode cX10_headOf 11 = .ok (.bipush 7, 2) := by decide +kernel
theorem dX10_headOf_13 : decode cX10_headOf 13 = .ok (.invokevirtual 186, 3) := by decide +kernel
theorem dX10_headOf_16 : decode cX10_headOf 16 = .ok (.istore_n 3, 1) := by decide +kernel
theorem dX10_headOf_17 : decode cX10_headOf 17 = .ok (.iload_n 3, 1) := by decide +kernel
theorem dX10_headOf_18 : decode cX10_headOf 18 = .ok (.ldc 159, 2) := by decide +kernel
theorem dX10_headOf_20 : decode cX10_headOf 20 = .ok (.if_icmp .le 8, 3) := by decide +kernel
theorem dX10_headOf_23 : decode cX10_headOf 23 = .ok (.bipush (-6), 2) := by decide +kernel
theorem dX10_headOf_25 : decode cX10_headOf 25 = .ok (.goto 4, 3) := by decide +kernel
theorem dX10_headOf_28 : decode cX10_headOf 28 = .ok (.iload_n 3, 1) := by decide +kernel
theorem dX10_headOf_29 : decode cX10_headOf 29 = .ok (.ireturn, 1) := by decide +kernel
theorem dX10_isHead_0 : decode cX10_isHead 0 = .ok (.aload_n 0, 1) := by decide +kernel
theorem dX10_isHead_1 : decode cX10_isHead 1 = .ok (.iload_n 1, 1) := by decide +kernel
theorem dX10_isHead_2 : decode cX10_isHead 2 = .ok (.invokevirtual 71, 3) := by decide +kernel
theorem dX10_isHead_5 : decode cX10_isHead 5 = .ok (.ifCond .eq 15, 3) := by decide +kernel
theorem dX10_isHead_8 : decode cX10_isHead 8 = .ok (.aload_n 0, 1) := by decide +kernel
theorem dX10_isHead_9 : decode cX10_isHead 9 = .ok (.iload_n 2, 1) := by decide +kernel
theorem dX10_isHead_10 : decode cX10_isHead 10 = .ok (.invokevirtual 52, 3) := by decide +kernel
theorem dX10_isHead_13 : decode cX10_isHead 13 = .ok (.ifCond .eq 7, 3) := by decide +kernel
theorem dX10_isHead_16 : decode cX10_isHead 16 = .ok (.iconst 1, 1) := by decide +kernel
theorem dX10_isHead_17 : decode cX10_isHead 17 = .ok (.goto 4, 3) := by decide +kernel
theorem dX10_isHead_20 : decode cX10_isHead 20 = .ok (.iconst 0, 1) := by decide +kernel
theorem dX10_isHead_21 : decode cX10_isHead 21 = .ok (.ireturn, 1) := by decide +kernel
theorem dX10_headDistance_0 : decode cX10_headDistance 0 = .ok (.aload_n 0, 1) := by decide +kernel
theorem dX10_headDistance_1 : decode cX10_headDistance 1 = .ok (.iload_n 1, 1) := by decide +kernel
theorem dX10_headDistance_2 : decode cX10_headDistance 2 = .ok (.iload_n 2, 1) := by decide +kernel
theorem dX10_headDistance_3 : decode cX10_headDistance 3 = .ok (.invokevirtual 190, 3) := by decide +kernel
theorem dX10_headDistance_6 : decode cX10_headDistance 6 = .ok (.ifCond .ne 5, 3) := by decide +kernel
theorem dX10_headDistance_9 : decode cX10_headDistance 9 = .ok (.iconst (-1), 1) := by decide +kernel
theorem dX10_headDistance_10 : decode cX10_headDistance 10 = .ok (.ireturn, 1) := by decide +kernel
theorem dX10_headDistance_11 : decode cX10_headDistance 11 = .ok (.aload_n 0, 1) := by decide +kernel
theorem dX10_headDistance_12 : decode cX10_headDistance 12 = .ok (.invokevirtual 193, 3) := by decide +kernel
theorem dX10_headDistance_15 : decode cX10_headDistance 15 = .ok (.aload_n 0, 1) := by decide +kernel
theorem dX10_headDistance_16 : decode cX10_headDistance 16 = .ok (.invokevirtual 196, 3) := by decide +kernel
theorem dX10_headDistance_19 : decode cX10_headDistance 19 = .ok (.aload_n 0, 1) := by decide +kernel
theorem dX10_headDistance_20 : decode cX10_headDistance 20 = .ok (.iload_n 1, 1) := by decide +kernel
theorem dX10_headDistance_21 : decode cX10_headDistance 21 = .ok (.iload_n 2, 1) := by decide +kernel
theorem dX10_headDistance_22 : decode cX10_headDistance 22 = .ok (.invokevirtual 199, 3) := by decide +kernel
theorem dX10_headDistance_25 : decode cX10_headDistance 25 = .ok (.ireturn, 1) := by decide +kernel
theorem dX10_nearestStack_0 : decode cX10_nearestStack 0 = .ok (.aload_n 0, 1) := by decide +kernel
theorem dX10_nearestStack_1 : decode cX10_nearestStack 1 = .ok (.iload_n 1, 1) := by decide +kernel
theorem dX10_nearestStack_2 : decode cX10_nearestStack 2 = .ok (.iload_n 2, 1) := by decide +kernel
theorem dX10_nearestStack_3 : decode cX10_nearestStack 3 = .ok (.invokevirtual 190, 3) := by decide +kernel
theorem dX10_nearestStack_6 : decode cX10_nearestStack 6 = .ok (.ifCond .ne 5, 3) := by decide +kernel
theorem dX10_nearestStack_9 : decode cX10_nearestStack 9 = .ok (.iconst (-1), 1) := by decide +kernel
theorem dX10_nearestStack_10 : decode cX10_nearestStack 10 = .ok (.ireturn, 1) := by decide +kernel
theorem dX10_nearestStack_11 : decode cX10_nearestStack 11 = .ok (.aload_n 0, 1) := by decide +kernel
theorem dX10_nearestStack_12 : decode cX10_nearestStack 12 = .ok (.invokevirtual 193, 3) := by decide +kernel
theorem dX10_nearestStack_15 : decode cX10_nearestStack 15 = .ok (.aload_n 0, 1) := by decide +kernel
theorem dX10_nearestStack_16 : decode cX10_nearestStack 16 = .ok (.invokevirtual 196, 3) := by decide +kernel
theorem dX10_nearestStack_19 : decode cX10_nearestStack 19 = .ok (.aload_n 0, 1) := by decide +kernel
theorem dX10_nearestStack_20 : decode cX10_nearestStack 20 = .ok (.iload_n 1, 1) := by decide +kernel
theorem dX10_nearestStack_21 : decode cX10_nearestStack 21 = .ok (.iload_n 2, 1) := by decide +kernel
theorem dX10_nearestStack_22 : decode cX10_nearestStack 22 = .ok (.invokevirtual 199, 3) := by decide +kernel
theorem dX10_nearestStack_25 : decode cX10_nearestStack 25 = .ok (.istore_n 3, 1) := by decide +kernel
theorem dX10_nearestStack_26 : decode cX10_nearestStack 26 = .ok (.iconst 0, 1) := by decide +kernel
theorem dX10_nearestStack_27 : decode cX10_nearestStack 27 = .ok (.istore 4, 2) := by decide +kernel
theorem dX10_nearestStack_29 : decode cX10_nearestStack 29 = .ok (.iload 4, 2) := by decide +kernel
theorem dX10_nearestStack_31 : decode cX10_nearestStack 31 = .ok (.bipush 6, 2) := by decide +kernel
theorem dX10_nearestStack_33 : decode cX10_nearestStack 33 = .ok (.if_icmp .ge 29, 3) := by decide +kernel
theorem dX10_nearestStack_36 : decode cX10_nearestStack 36 = .ok (.iload_n 3, 1) := by decide +kernel
theorem dX10_nearestStack_37 : decode cX10_nearestStack 37 = .ok (.bipush (-6), 2) := by decide +kernel
theorem dX10_nearestStack_39 : decode cX10_nearestStack 39 = .ok (.if_icmp .eq 17, 3) := by decide +kernel
theorem dX10_nearestStack_42 : decode cX10_nearestStack 42 = .ok (.aload_n 0, 1) := by decide +kernel
theorem dX10_nearestStack_43 : decode cX10_nearestStack 43 = .ok (.aload_n 0, 1) := by decide +kernel
theorem dX10_nearestStack_44 : decode cX10_nearestStack 44 = .ok (.getfield 35, 3) := by decide +kernel
theorem dX10_nearestStack_47 : decode cX10_nearestStack 47 = .ok (.iload 4, 2) := by decide +kernel
theorem dX10_nearestStack_49 : decode cX10_nearestStack 49 = .ok (.invokevirtual 186, 3) := by decide +kernel
theorem dX10_nearestStack_52 : decode cX10_nearestStack 52 = .ok (.iload_n 3, 1) := by decide +kernel
theorem dX10_nearestStack_53 : decode cX10_nearestStack 53 = .ok (.if_icmp .eq 9, 3) := by decide +kernel
theorem dX10_nearestStack_56 : decode cX10_nearestStack 56 = .ok (.iinc 4 1, 3) := by decide +kernel
theorem dX10_nearestStack_59 : decode cX10_nearestStack 59 = .ok (.goto (-30), 3) := by decide +kernel
theorem dX10_nearestStack_62 : decode cX10_nearestStack 62 = .ok (.iload 4, 2) := by decide +kernel
theorem dX10_nearestStack_64 : decode cX10_nearestStack 64 = .ok (.bipush 6, 2) := by decide +kernel
theorem dX10_nearestStack_66 : decode cX10_nearestStack 66 = .ok (.if_icmp .ne 6, 3) := by decide +kernel
theorem dX10_nearestStack_69 : decode cX10_nearestStack 69 = .ok (.bipush (-6), 2) := by decide +kernel
theorem dX10_nearestStack_71 : decode cX10_nearestStack 71 = .ok (.ireturn, 1) := by decide +kernel
theorem dX10_nearestStack_72 : decode cX10_nearestStack 72 = .ok (.iload_n 2, 1) := by decide +kernel
theorem dX10_nearestStack_73 : decode cX10_nearestStack 73 = .ok (.istore 5, 2) := by decide +kernel
theorem dX10_nearestStack_75 : decode cX10_nearestStack 75 = .ok (.iload 4, 2) := by decide +kernel
theorem dX10_nearestStack_77 : decode cX10_nearestStack 77 = .ok (.iconst 1, 1) := by decide +kernel
theorem dX10_nearestStack_78 : decode cX10_nearestStack 78 = .ok (.isub, 1) := by decide +kernel
theorem dX10_nearestStack_79 : decode cX10_nearestStack 79 = .ok (.istore 6, 2) := by decide +kernel
theorem dX10_nearestStack_81 : decode cX10_nearestStack 81 = .ok (.iload 6, 2) := by decide +kernel
theorem dX10_nearestStack_83 : decode cX10_nearestStack 83 = .ok (.ifCond .lt 84, 3) := by decide +kernel
theorem dX10_nearestStack_86 : decode cX10_nearestStack 86 = .ok (.iconst 1, 1) := by decide +kernel
theorem dX10_nearestStack_87 : decode cX10_nearestStack 87 = .ok (.istore 7, 2) := by decide +kernel
theorem dX10_nearestStack_89 : decode cX10_nearestStack 89 = .ok (.aload_n 0, 1) := by decide +kernel
theorem dX10_nearestStack_90 : decode cX10_nearestStack 90 = .ok (.iload 7, 2) := by decide +kernel
theorem dX10_nearestStack_92 : decode cX10_nearestStack 92 = .ok (.invokevirtual 202, 3) := by decide +kernel
theorem dX10_nearestStack_95 : decode cX10_nearestStack 95 = .ok (.aload_n 0, 1) := by decide +kernel
theorem dX10_nearestStack_96 : decode cX10_nearestStack 96 = .ok (.aload_n 0, 1) := by decide +kernel
theorem dX10_nearestStack_97 : decode cX10_nearestStack 97 = .ok (.getfield 38, 3) := by decide +kernel
theorem dX10_nearestStack_100 : decode cX10_nearestStack 100 = .ok (.iload 6, 2) := by decide +kernel
theorem dX10_nearestStack_102 : decode cX10_nearestStack 102 = .ok (.invokevirtual 186, 3) := by decide +kernel
theorem dX10_nearestStack_105 : decode cX10_nearestStack 105 = .ok (.iload_n 3, 1) := by decide +kernel
theorem dX10_nearestStack_106 : decode cX10_nearestStack 106 = .ok (.if_icmp .eq 15, 3) := by decide +kernel
theorem dX10_nearestStack_109 : decode cX10_nearestStack 109 = .ok (.iinc 7 1, 3) := by decide +kernel
theorem dX10_nearestStack_112 : decode cX10_nearestStack 112 = .ok (.aload_n 0, 1) := by decide +kernel
theorem dX10_nearestStack_113 : decode cX10_nearestStack 113 = .ok (.iload 7, 2) := by decide +kernel
theorem dX10_nearestStack_115 : decode cX10_nearestStack 115 = .ok (.invokevirtual 202, 3) := by decide +kernel
theorem dX10_nearestStack_118 : decode cX10_nearestStack 118 = .ok (.goto (-23), 3) := by decide +kernel
theorem dX10_nearestStack_121 : decode cX10_nearestStack 121 = .ok (.iconst 0, 1) := by decide +kernel
theorem dX10_nearestStack_122 : decode cX10_nearestStack 122 = .ok (.istore 8, 2) := by decide +kernel
theorem dX10_nearestStack_124 : decode cX10_nearestStack 124 = .ok (.iload 8, 2) := by decide +kernel
theorem dX10_nearestStack_126 : decode cX10_nearestStack 126 = .ok (.bipush 35, 2) := by decide +kernel
theorem dX10_nearestStack_128 : decode cX10_nearestStack 128 = .ok (.if_icmp .ge 23, 3) := by decide +kernel
theorem dX10_nearestStack_131 : decode cX10_nearestStack 131 = .ok (.aload_n 0, 1) := by decide +kernel
theorem dX10_nearestStack_132 : decode cX10_nearestStack 132 = .ok (.getfield 35, 3) := by decide +kernel
theorem dX10_nearestStack_135 : decode cX10_nearestStack 135 = .ok (.iload 8, 2) := by decide +kernel
theorem dX10_nearestStack_137 : decode cX10_nearestStack 137 = .ok (.aload_n 0, 1) := by decide +kernel
theorem dX10_nearestStack_138 : decode cX10_nearestStack 138 = .ok (.getfield 38, 3) := by decide +kernel
theorem dX10_nearestStack_141 : decode cX10_nearestStack 141 = .ok (.iload 8, 2) := by decide +kernel
theorem dX10_nearestStack_143 : decode cX10_nearestStack 143 = .ok (.iaload, 1) := by decide +kernel
theorem dX10_nearestStack_144 : decode cX10_nearestStack 144 = .ok (.iastore, 1) := by decide +kernel
theorem dX10_nearestStack_145 : decode cX10_nearestStack 145 = .ok (.iinc 8 1, 3) := by decide +kernel
theorem dX10_nearestStack_148 : decode cX10_nearestStack 148 = .ok (.goto (-24), 3) := by decide +kernel
theorem dX10_nearestStack_151 : decode cX10_nearestStack 151 = .ok (.bipush 10, 2) := by decide +kernel
theorem dX10_nearestStack_153 : decode cX10_nearestStack 153 = .ok (.iload 5, 2) := by decide +kernel
theorem dX10_nearestStack_155 : decode cX10_nearestStack 155 = .ok (.imul, 1) := by decide +kernel
theorem dX10_nearestStack_156 : decode cX10_nearestStack 156 = .ok (.iload 7, 2) := by decide +kernel
theorem dX10_nearestStack_158 : decode cX10_nearestStack 158 = .ok (.iadd, 1) := by decide +kernel
theorem dX10_nearestStack_159 : decode cX10_nearestStack 159 = .ok (.istore 5, 2) := by decide +kernel
theorem dX10_nearestStack_161 : decode cX10_nearestStack 161 = .ok (.iinc 6 (-1), 3) := by decide +kernel
theorem dX10_nearestStack_164 : decode cX10_nearestStack 164 = .ok (.goto (-83), 3) := by decide +kernel
theorem dX10_nearestStack_167 : decode cX10_nearestStack 167 = .ok (.iload 5, 2) := by decide +kernel
theorem dX10_nearestStack_169 : decode cX10_nearestStack 169 = .ok (.ireturn, 1) := by decide +kernel
theorem dX10_heads_0 : decode cX10_heads 0 = .ok (.aload_n 0, 1) := by decide +kernel
theorem dX10_heads_1 : decode cX10_heads 1 = .ok (.invokevirtual 193, 3) := by decide +kernel
theorem dX10_heads_4 : decode cX10_heads 4 = .ok (.aload_n 0, 1) := by decide +kernel
theorem dX10_heads_5 : decode cX10_heads 5 = .ok (.invokevirtual 196, 3) := by decide +kernel
theorem dX10_heads_8 : decode cX10_heads 8 = .ok (.iconst 0, 1) := by decide +kernel
theorem dX10_heads_9 : decode cX10_heads 9 = .ok (.istore_n 1, 1) := by decide +kernel
theorem dX10_heads_10 : decode cX10_heads 10 = .ok (.iconst 0, 1) := by decide +kernel
theorem dX10_heads_11 : decode cX10_heads 11 = .ok (.istore_n 2, 1) := by decide +kernel
theorem dX10_heads_12 : decode cX10_heads 12 = .ok (.iload_n 2, 1) := by decide +kernel
theorem dX10_heads_13 : decode cX10_heads 13 = .ok (.aload_n 0, 1) := by decide +kernel
theorem dX10_heads_14 : decode cX10_heads 14 = .ok (.getfield 7, 3) := by decide +kernel
theorem dX10_heads_17 : decode cX10_heads 17 = .ok (.iconst 0, 1) := by decide +kernel
theorem dX10_heads_18 : decode cX10_heads 18 = .ok (.iaload, 1) := by decide +kernel
theorem dX10_heads_19 : decode cX10_heads 19 = .ok (.if_icmp .ge 46, 3) := by decide +kernel
theorem dX10_heads_22 : decode cX10_heads 22 = .ok (.iconst 1, 1) := by decide +kernel
theorem dX10_heads_23 : decode cX10_heads 23 = .ok (.istore_n 3, 1) := by decide +kernel
theorem dX10_heads_24 : decode cX10_heads 24 = .ok (.iload_n 3, 1) := by decide +kernel
theorem dX10_heads_25 : decode cX10_heads 25 = .ok (.aload_n 0, 1) := by decide +kernel
theorem dX10_heads_26 : decode cX10_heads 26 = .ok (.getfield 7, 3) := by decide +kernel
theorem dX10_heads_29 : decode cX10_heads 29 = .ok (.iconst 1, 1) := by decide +kernel
theorem dX10_heads_30 : decode cX10_heads 30 = .ok (.iaload, 1) := by decide +kernel
theorem dX10_heads_31 : decode cX10_heads 31 = .ok (.if_icmp .gt 28, 3) := by decide +kernel
theorem dX10_heads_34 : decode cX10_heads 34 = .ok (.iload_n 1, 1) := by decide +kernel
theorem dX10_heads_35 : decode cX10_heads 35 = .ok (.aload_n 0, 1) := by decide +kernel
theorem dX10_heads_36 : decode cX10_heads 36 = .ok (.iload_n 2, 1) := by decide +kernel
theorem dX10_heads_37 : decode cX10_heads 37 = .ok (.iload_n 3, 1) := by decide +kernel
theorem dX10_heads_38 : decode cX10_heads 38 = .ok (.invokevirtual 199, 3) := by decide +kernel
theorem dX10_heads_41 : decode cX10_heads 41 = .ok (.bipush (-6), 2) := by decide +kernel
theorem dX10_heads_43 : decode cX10_heads 43 = .ok (.if_icmp .eq 7, 3) := by decide +kernel
theorem dX10_heads_46 : decode cX10_heads 46 = .ok (.iconst 1, 1) := by decide +kernel
theorem dX10_heads_47 : decode cX10_heads 47 = .ok (.goto 4, 3) := by decide +kernel
theorem dX10_heads_50 : decode cX10_heads 50 = .ok (.iconst 0, 1) := by decide +kernel
theorem dX10_heads_51 : decode cX10_heads 51 = .ok (.iadd, 1) := by decide +kernel
theorem dX10_heads_52 : decode cX10_heads 52 = .ok (.istore_n 1, 1) := by decide +kernel
theorem dX10_heads_53 : decode cX10_heads 53 = .ok (.iinc 3 1, 3) := by decide +kernel
theorem dX10_heads_56 : decode cX10_heads 56 = .ok (.goto (-32), 3) := by decide +kernel
theorem dX10_heads_59 : decode cX10_heads 59 = .ok (.iinc 2 1, 3) := by decide +kernel
theorem dX10_heads_62 : decode cX10_heads 62 = .ok (.goto (-50), 3) := by decide +kernel
theorem dX10_heads_65 : decode cX10_heads 65 = .ok (.iload_n 1, 1) := by decide +kernel
theorem dX10_heads_66 : decode cX10_heads 66 = .ok (.ireturn, 1) := by decide +kernel
theorem dX10_arcs_0 : decode cX10_arcs 0 = .ok (.aload_n 0, 1) := by decide +kernel
theorem dX10_arcs_1 : decode cX10_arcs 1 = .ok (.invokevirtual 193, 3) := by decide +kernel
theorem dX10_arcs_4 : decode cX10_arcs 4 = .ok (.iconst 0, 1) := by decide +kernel
theorem dX10_arcs_5 : decode cX10_arcs 5 = .ok (.istore_n 1, 1) := by decide +kernel
theorem dX10_arcs_6 : decode cX10_arcs 6 = .ok (.iconst 0, 1) := by decide +kernel
theorem dX10_arcs_7 : decode cX10_arcs 7 = .ok (.istore_n 2, 1) := by decide +kernel
theorem dX10_arcs_8 : decode cX10_arcs 8 = .ok (.iload_n 2, 1) := by decide +kernel
theorem dX10_arcs_9 : decode cX10_arcs 9 = .ok (.sipush 7350, 3) := by decide +kernel
theorem dX10_arcs_12 : decode cX10_arcs 12 = .ok (.if_icmp .ge 28, 3) := by decide +kernel
theorem dX10_arcs_15 : decode cX10_arcs 15 = .ok (.iload_n 1, 1) := by decide +kernel
theorem dX10_arcs_16 : decode cX10_arcs 16 = .ok (.aload_n 0, 1) := by decide +kernel
theorem dX10_arcs_17 : decode cX10_arcs 17 = .ok (.getfield 29, 3) := by decide +kernel
theorem dX10_arcs_20 : decode cX10_arcs 20 = .ok (.iload_n 2, 1) := by decide +kernel
theorem dX10_arcs_21 : decode cX10_arcs 21 = .ok (.iaload, 1) := by decide +kernel
theorem dX10_arcs_22 : decode cX10_arcs 22 = .ok (.ldc 163, 2) := by decide +kernel
theorem dX10_arcs_24 : decode cX10_arcs 24 = .ok (.if_icmp .ge 7, 3) := by decide +kernel
theorem dX10_arcs_27 : decode cX10_arcs 27 = .ok (.iconst 1, 1) := by decide +kernel
theorem dX10_arcs_28 : decode cX10_arcs 28 = .ok (.goto 4, 3) := by decide +kernel
theorem dX10_arcs_31 : decode cX10_arcs 31 = .ok (.iconst 0, 1) := by decide +kernel
theorem dX10_arcs_32 : decode cX10_arcs 32 = .ok (.iadd, 1) := by decide +kernel
theorem dX10_arcs_33 : decode cX10_arcs 33 = .ok (.istore_n 1, 1) := by decide +kernel
theorem dX10_arcs_34 : decode cX10_arcs 34 = .ok (.iinc 2 1, 3) := by decide +kernel
theorem dX10_arcs_37 : decode cX10_arcs 37 = .ok (.goto (-29), 3) := by decide +kernel
theorem dX10_arcs_40 : decode cX10_arcs 40 = .ok (.iload_n 1, 1) := by decide +kernel
theorem dX10_arcs_41 : decode cX10_arcs 41 = .ok (.ireturn, 1) := by decide +kernel
theorem dX10_arc_0 : decode cX10_arc 0 = .ok (.iload_n 1, 1) := by decide +kernel
theorem dX10_arc_1 : decode cX10_arc 1 = .ok (.ifCond .lt 12, 3) := by decide +kernel
theorem dX10_arc_4 : decode cX10_arc 4 = .ok (.iload_n 2, 1) := by decide +kernel
theorem dX10_arc_5 : decode cX10_arc 5 = .ok (.iconst 0, 1) := by decide +kernel
theorem dX10_arc_6 : decode cX10_arc 6 = .ok (.iconst 3, 1) := by decide +kernel
theorem dX10_arc_7 : decode cX10_arc 7 = .ok (.invokestatic 44, 3) := by decide +kernel
theorem dX10_arc_10 : decode cX10_arc 10 = .ok (.ifCond .ne 6, 3) := by decide +kernel
theorem dX10_arc_13 : decode cX10_arc 13 = .ok (.bipush (-2), 2) := by decide +kernel
theorem dX10_arc_15 : decode cX10_arc 15 = .ok (.ireturn, 1) := by decide +kernel
theorem dX10_arc_16 : decode cX10_arc 16 = .ok (.aload_n 0, 1) := by decide +kernel
theorem dX10_arc_17 : decode cX10_arc 17 = .ok (.invokevirtual 193, 3) := by decide +kernel
theorem dX10_arc_20 : decode cX10_arc 20 = .ok (.iload_n 1, 1) := by decide +kernel
theorem dX10_arc_21 : decode cX10_arc 21 = .ok (.istore_n 3, 1) := by decide +kernel
theorem dX10_arc_22 : decode cX10_arc 22 = .ok (.iconst 0, 1) := by decide +kernel
theorem dX10_arc_23 : decode cX10_arc 23 = .ok (.istore 4, 2) := by decide +kernel
theorem dX10_arc_25 : decode cX10_arc 25 = .ok (.iload 4, 2) := by decide +kernel
theorem dX10_arc_27 : decode cX10_arc 27 = .ok (.sipush 7350, 3) := by decide +kernel
theorem dX10_arc_30 : decode cX10_arc 30 = .ok (.if_icmp .ge 78, 3) := by decide +kernel
theorem dX10_arc_33 : decode cX10_arc 33 = .ok (.aload_n 0, 1) := by decide +kernel
theorem dX10_arc_34 : decode cX10_arc 34 = .ok (.getfield 29, 3) := by decide +kernel
theorem dX10_arc_37 : decode cX10_arc 37 = .ok (.iload 4, 2) := by decide +kernel
theorem dX10_arc_39 : decode cX10_arc 39 = .ok (.iaload, 1) := by decide +kernel
theorem dX10_arc_40 : decode cX10_arc 40 = .ok (.ldc 163, 2) := by decide +kernel
theorem dX10_arc_42 : decode cX10_arc 42 = .ok (.if_icmp .ge 60, 3) := by decide +kernel
theorem dX10_arc_45 : decode cX10_arc 45 = .ok (.iload_n 3, 1) := by decide +kernel
theorem dX10_arc_46 : decode cX10_arc 46 = .ok (.ifCond .ne 53, 3) := by decide +kernel
theorem dX10_arc_49 : decode cX10_arc 49 = .ok (.iload_n 2, 1) := by decide +kernel
theorem dX10_arc_50 : decode cX10_arc 50 = .ok (.ifCond .ne 12, 3) := by decide +kernel
theorem dX10_arc_53 : decode cX10_arc 53 = .ok (.iload 4, 2) := by decide +kernel
theorem dX10_arc_55 : decode cX10_arc 55 = .ok (.sipush 210, 3) := by decide +kernel
theorem dX10_arc_58 : decode cX10_arc 58 = .ok (.idiv, 1) := by decide +kernel
theorem dX10_arc_59 : decode cX10_arc 59 = .ok (.goto 39, 3) := by decide +kernel
theorem dX10_arc_62 : decode cX10_arc 62 = .ok (.iload_n 2, 1) := by decide +kernel
theorem dX10_arc_63 : decode cX10_arc 63 = .ok (.iconst 1, 1) := by decide +kernel
theorem dX10_arc_64 : decode cX10_arc 64 = .ok (.if_icmp .ne 14, 3) := by decide +kernel
theorem dX10_arc_67 : decode cX10_arc 67 = .ok (.iload 4, 2) := by decide +kernel
theorem dX10_arc_69 : decode cX10_arc 69 = .ok (.bipush 35, 2) := by decide +kernel
theorem dX10_arc_71 : decode cX10_arc 71 = .ok (.idiv, 1) := by decide +kernel
theorem dX10_arc_72 : decode cX10_arc 72 = .ok (.bipush 6, 2) := by decide +kernel
theorem dX10_arc_74 : decode cX10_arc 74 = .ok (.irem, 1) := by decide +kernel
theorem dX10_arc_75 : decode cX10_arc 75 = .ok (.goto 23, 3) := by decide +kernel
theorem dX10_arc_78 : decode cX10_arc 78 = .ok (.iload_n 2, 1) := by decide +kernel
theorem dX10_arc_79 : decode cX10_arc 79 = .ok (.iconst 2, 1) := by decide +kernel
theorem dX10_arc_80 : decode cX10_arc 80 = .ok (.if_icmp .ne 11, 3) := by decide +kernel
theorem dX10_arc_83 : decode cX10_arc 83 = .ok (.iload 4, 2) := by decide +kernel
theorem dX10_arc_85 : decode cX10_arc 85 = .ok (.bipush 35, 2) := by decide +kernel
theorem dX10_arc_87 : decode cX10_arc 87 = .ok (.irem, 1) := by decide +kernel
theorem dX10_arc_88 : decode cX10_arc 88 = .ok (.goto 10, 3) := by decide +kernel
theorem dX10_arc_91 : decode cX10_arc 91 = .ok (.aload_n 0, 1) := by decide +kernel
theorem dX10_arc_92 : decode cX10_arc 92 = .ok (.getfield 29, 3) := by decide +kernel
theorem dX10_arc_95 : decode cX10_arc 95 = .ok (.iload 4, 2) := by decide +kernel
theorem dX10_arc_97 : decode cX10_arc 97 = .ok (.iaload, 1) := by decide +kernel
theorem dX10_arc_98 : decode cX10_arc 98 = .ok (.ireturn, 1) := by decide +kernel
theorem dX10_arc_99 : decode cX10_arc 99 = .ok (.iinc 3 (-1), 3) := by decide +kernel
theorem dX10_arc_102 : decode cX10_arc 102 = .ok (.iinc 4 1, 3) := by decide +kernel
theorem dX10_arc_105 : decode cX10_arc 105 = .ok (.goto (-80), 3) := by decide +kernel
theorem dX10_arc_108 : decode cX10_arc 108 = .ok (.bipush (-6), 2) := by decide +kernel
theorem dX10_arc_110 : decode cX10_arc 110 = .ok (.ireturn, 1) := by decide +kernel
theorem dX10_arcWeight_0 : decode cX10_arcWeight 0 = .ok (.iload_n 1, 1) := by decide +kernel
theorem dX10_arcWeight_1 : decode cX10_arcWeight 1 = .ok (.iconst 0, 1) := by decide +kernel
theorem dX10_arcWeight_2 : decode cX10_arcWeight 2 = .ok (.bipush 34, 2) := by decide +kernel
theorem dX10_arcWeight_4 : decode cX10_arcWeight 4 = .ok (.invokestatic 44, 3) := by decide +kernel
theorem dX10_arcWeight_7 : decode cX10_arcWeight 7 = .ok (.ifCond .eq 22, 3) := by decide +kernel
theorem dX10_arcWeight_10 : decode cX10_arcWeight 10 = .ok (.iload_n 2, 1) := by decide +kernel
theorem dX10_arcWeight_11 : decode cX10_arcWeight 11 = .ok (.iconst 0, 1) := by decide +kernel
theorem dX10_arcWeight_12 : decode cX10_arcWeight 12 = .ok (.iconst 5, 1) := by decide +kernel
theorem dX10_arcWeight_13 : decode cX10_arcWeight 13 = .ok (.invokestatic 44, 3) := by decide +kernel
theorem dX10_arcWeight_16 : decode cX10_arcWeight 16 = .ok (.ifCond .eq 13, 3) := by decide +kernel
theorem dX10_arcWeight_19 : decode cX10_arcWeight 19 = .ok (.iload_n 3, 1) := by decide +kernel
theorem dX10_arcWeight_20 : decode cX10_arcWeight 20 = .ok (.iconst 0, 1) := by decide +kernel
theorem dX10_arcWeight_21 : decode cX10_arcWeight 21 = .ok (.bipush 34, 2) := by decide +kernel
theorem dX10_arcWeight_23 : decode cX10_arcWeight 23 = .ok (.invokestatic 44, 3) := by decide +kernel
theorem dX10_arcWeight_26 : decode cX10_arcWeight 26 = .ok (.ifCond .ne 6, 3) := by decide +kernel
theorem dX10_arcWeight_29 : decode cX10_arcWeight 29 = .ok (.bipush (-6), 2) := by decide +kernel
theorem dX10_arcWeight_31 : decode cX10_arcWeight 31 = .ok (.ireturn, 1) := by decide +kernel
theorem dX10_arcWeight_32 : decode cX10_arcWeight 32 = .ok (.aload_n 0, 1) := by decide +kernel
theorem dX10_arcWeight_33 : decode cX10_arcWeight 33 = .ok (.invokevirtual 193, 3) := by decide +kernel
theorem dX10_arcWeight_36 : decode cX10_arcWeight 36 = .ok (.aload_n 0, 1) := by decide +kernel
theorem dX10_arcWeight_37 : decode cX10_arcWeight 37 = .ok (.getfield 29, 3) := by decide +kernel
theorem dX10_arcWeight_40 : decode cX10_arcWeight 40 = .ok (.iload_n 1, 1) := by decide +kernel
theorem dX10_arcWeight_41 : decode cX10_arcWeight 41 = .ok (.iload_n 2, 1) := by decide +kernel
theorem dX10_arcWeight_42 : decode cX10_arcWeight 42 = .ok (.iload_n 3, 1) := by decide +kernel
theorem dX10_arcWeight_43 : decode cX10_arcWeight 43 = .ok (.invokestatic 160, 3) := by decide +kernel
theorem dX10_arcWeight_46 : decode cX10_arcWeight 46 = .ok (.iaload, 1) := by decide +kernel
theorem dX10_arcWeight_47 : decode cX10_arcWeight 47 = .ok (.istore 4, 2) := by decide +kernel
theorem dX10_arcWeight_49 : decode cX10_arcWeight 49 = .ok (.iload 4, 2) := by decide +kernel
theorem dX10_arcWeight_51 : decode cX10_arcWeight 51 = .ok (.ldc 163, 2) := by decide +kernel
theorem dX10_arcWeight_53 : decode cX10_arcWeight 53 = .ok (.if_icmp .ge 8, 3) := by decide +kernel
theorem dX10_arcWeight_56 : decode cX10_arcWeight 56 = .ok (.iload 4, 2) := by decide +kernel
theorem dX10_arcWeight_58 : decode cX10_arcWeight 58 = .ok (.goto 5, 3) := by decide +kernel
theorem dX10_arcWeight_61 : decode cX10_arcWeight 61 = .ok (.bipush (-6), 2) := by decide +kernel
theorem dX10_arcWeight_63 : decode cX10_arcWeight 63 = .ok (.ireturn, 1) := by decide +kernel
theorem dX10_distanceWithout_0 : decode cX10_distanceWithout 0 = .ok (.aload_n 0, 1) := by decide +kernel
theorem dX10_distanceWithout_1 : decode cX10_distanceWithout 1 = .ok (.iload_n 1, 1) := by decide +kernel
theorem dX10_distanceWithout_2 : decode cX10_distanceWithout 2 = .ok (.invokevirtual 85, 3) := by decide +kernel
theorem dX10_distanceWithout_5 : decode cX10_distanceWithout 5 = .ok (.ifCond .eq 22, 3) := by decide +kernel
theorem dX10_distanceWithout_8 : decode cX10_distanceWithout 8 = .ok (.aload_n 0, 1) := by decide +kernel
theorem dX10_distanceWithout_9 : decode cX10_distanceWithout 9 = .ok (.iload_n 2, 1) := by decide +kernel
theorem dX10_distanceWithout_10 : decode cX10_distanceWithout 10 = .ok (.iload_n 3, 1) := by decide +kernel
theorem dX10_distanceWithout_11 : decode cX10_distanceWithout 11 = .ok (.invokevirtual 143, 3) := by decide +kernel
theorem dX10_distanceWithout_14 : decode cX10_distanceWithout 14 = .ok (.ifCond .eq 13, 3) := by decide +kernel
theorem dX10_distanceWithout_17 : decode cX10_distanceWithout 17 = .ok (.aload_n 0, 1) := by decide +kernel
theorem dX10_distanceWithout_18 : decode cX10_distanceWithout 18 = .ok (.iload_n 2, 1) := by decide +kernel
theorem dX10_distanceWithout_19 : decode cX10_distanceWithout 19 = .ok (.iload_n 3, 1) := by decide +kernel
theorem dX10_distanceWithout_20 : decode cX10_distanceWithout 20 = .ok (.iload_n 1, 1) := by decide +kernel
theorem dX10_distanceWithout_21 : decode cX10_distanceWithout 21 = .ok (.invokevirtual 147, 3) := by decide +kernel
theorem dX10_distanceWithout_24 : decode cX10_distanceWithout 24 = .ok (.goto 4, 3) := by decide +kernel
theorem dX10_distanceWithout_27 : decode cX10_distanceWithout 27 = .ok (.iconst (-1), 1) := by decide +kernel
theorem dX10_distanceWithout_28 : decode cX10_distanceWithout 28 = .ok (.ireturn, 1) := by decide +kernel
theorem dX10_critical_0 : decode cX10_critical 0 = .ok (.aload_n 0, 1) := by decide +kernel
theorem dX10_critical_1 : decode cX10_critical 1 = .ok (.iload_n 1, 1) := by decide +kernel
theorem dX10_critical_2 : decode cX10_critical 2 = .ok (.iload_n 2, 1) := by decide +kernel
theorem dX10_critical_3 : decode cX10_critical 3 = .ok (.invokevirtual 143, 3) := by decide +kernel
theorem dX10_critical_6 : decode cX10_critical 6 = .ok (.ifCond .ne 5, 3) := by decide +kernel
theorem dX10_critical_9 : decode cX10_critical 9 = .ok (.iconst (-1), 1) := by decide +kernel
theorem dX10_critical_10 : decode cX10_critical 10 = .ok (.ireturn, 1) := by decide +kernel
theorem dX10_critical_11 : decode cX10_critical 11 = .ok (.aload_n 0, 1) := by decide +kernel
theorem dX10_critical_12 : decode cX10_critical 12 = .ok (.iload_n 1, 1) := by decide +kernel
theorem dX10_critical_13 : decode cX10_critical 13 = .ok (.iload_n 2, 1) := by decide +kernel
theorem dX10_critical_14 : decode cX10_critical 14 = .ok (.iconst (-1), 1) := by decide +kernel
theorem dX10_critical_15 : decode cX10_critical 15 = .ok (.invokevirtual 147, 3) := by decide +kernel
theorem dX10_critical_18 : decode cX10_critical 18 = .ok (.istore_n 3, 1) := by decide +kernel
theorem dX10_critical_19 : decode cX10_critical 19 = .ok (.iload_n 3, 1) := by decide +kernel
theorem dX10_critical_20 : decode cX10_critical 20 = .ok (.bipush (-6), 2) := by decide +kernel
theorem dX10_critical_22 : decode cX10_critical 22 = .ok (.if_icmp .ne 6, 3) := by decide +kernel
theorem dX10_critical_25 : decode cX10_critical 25 = .ok (.bipush (-6), 2) := by decide +kernel
theorem dX10_critical_27 : decode cX10_critical 27 = .ok (.ireturn, 1) := by decide +kernel
theorem dX10_critical_28 : decode cX10_critical 28 = .ok (.iconst 0, 1) := by decide +kernel
theorem dX10_critical_29 : decode cX10_critical 29 = .ok (.istore 4, 2) := by decide +kernel
theorem dX10_critical_31 : decode cX10_critical 31 = .ok (.iconst 0, 1) := by decide +kernel
theorem dX10_critical_32 : decode cX10_critical 32 = .ok (.istore 5, 2) := by decide +kernel
theorem dX10_critical_34 : decode cX10_critical 34 = .ok (.iload 5, 2) := by decide +kernel
theorem dX10_critical_36 : decode cX10_critical 36 = .ok (.aload_n 0, 1) := by decide +kernel
theorem dX10_critical_37 : decode cX10_critical 37 = .ok (.getfield 7, 3) := by decide +kernel
theorem dX10_critical_40 : decode cX10_critical 40 = .ok (.iconst 2, 1) := by decide +kernel
theorem dX10_critical_41 : decode cX10_critical 41 = .ok (.iaload, 1) := by decide +kernel
theorem dX10_critical_42 : decode cX10_critical 42 = .ok (.if_icmp .ge 34, 3) := by decide +kernel
theorem dX10_critical_45 : decode cX10_critical 45 = .ok (.iload 4, 2) := by decide +kernel
theorem dX10_critical_47 : decode cX10_critical 47 = .ok (.aload_n 0, 1) := by decide +kernel
theorem dX10_critical_48 : decode cX10_critical 48 = .ok (.iload_n 1, 1) := by decide +kernel
theorem dX10_critical_49 : decode cX10_critical 49 = .ok (.iload_n 2, 1) := by decide +kernel
theorem dX10_critical_50 : decode cX10_critical 50 = .ok (.iload 5, 2) := by decide +kernel
theorem dX10_critical_52 : decode cX10_critical 52 = .ok (.invokevirtual 147, 3) := by decide +kernel
theorem dX10_critical_55 : decode cX10_critical 55 = .ok (.iload_n 3, 1) := by decide +kernel
theorem dX10_critical_56 : decode cX10_critical 56 = .ok (.if_icmp .eq 10, 3) := by decide +kernel
theorem dX10_critical_59 : decode cX10_critical 59 = .ok (.iconst 1, 1) := by decide +kernel
theorem dX10_critical_60 : decode cX10_critical 60 = .ok (.iload 5, 2) := by decide +kernel
theorem dX10_critical_62 : decode cX10_critical 62 = .ok (.ishl, 1) := by decide +kernel
theorem dX10_critical_63 : decode cX10_critical 63 = .ok (.goto 4, 3) := by decide +kernel
theorem dX10_critical_66 : decode cX10_critical 66 = .ok (.iconst 0, 1) := by decide +kernel
theorem dX10_critical_67 : decode cX10_critical 67 = .ok (.ior, 1) := by decide +kernel
theorem dX10_critical_68 : decode cX10_critical 68 = .ok (.istore 4, 2) := by decide +kernel
theorem dX10_critical_70 : decode cX10_critical 70 = .ok (.iinc 5 1, 3) := by decide +kernel
theorem dX10_critical_73 : decode cX10_critical 73 = .ok (.goto (-39), 3) := by decide +kernel
theorem dX10_critical_76 : decode cX10_critical 76 = .ok (.iload 4, 2) := by decide +kernel
theorem dX10_critical_78 : decode cX10_critical 78 = .ok (.ireturn, 1) := by decide +kernel
theorem dX10_tolerance_0 : decode cX10_tolerance 0 = .ok (.aload_n 0, 1) := by decide +kernel
theorem dX10_tolerance_1 : decode cX10_tolerance 1 = .ok (.iload_n 1, 1) := by decide +kernel
theorem dX10_tolerance_2 : decode cX10_tolerance 2 = .ok (.invokevirtual 85, 3) := by decide +kernel
theorem dX10_tolerance_5 : decode cX10_tolerance 5 = .ok (.ifCond .eq 12, 3) := by decide +kernel
theorem dX10_tolerance_8 : decode cX10_tolerance 8 = .ok (.aload_n 0, 1) := by decide +kernel
theorem dX10_tolerance_9 : decode cX10_tolerance 9 = .ok (.iload_n 2, 1) := by decide +kernel
theorem dX10_tolerance_10 : decode cX10_tolerance 10 = .ok (.iload_n 3, 1) := by decide +kernel
theorem dX10_tolerance_11 : decode cX10_tolerance 11 = .ok (.invokevirtual 143, 3) := by decide +kernel
theorem dX10_tolerance_14 : decode cX10_tolerance 14 = .ok (.ifCond .ne 5, 3) := by decide +kernel
theorem dX10_tolerance_17 : decode cX10_tolerance 17 = .ok (.iconst (-1), 1) := by decide +kernel
theorem dX10_tolerance_18 : decode cX10_tolerance 18 = .ok (.ireturn, 1) := by decide +kernel
theorem dX10_tolerance_19 : decode cX10_tolerance 19 = .ok (.aload_n 0, 1) := by decide +kernel
theorem dX10_tolerance_20 : decode cX10_tolerance 20 = .ok (.iload_n 2, 1) := by decide +kernel
theorem dX10_tolerance_21 : decode cX10_tolerance 21 = .ok (.iload_n 3, 1) := by decide +kernel
theorem dX10_tolerance_22 : decode cX10_tolerance 22 = .ok (.iconst (-1), 1) := by decide +kernel
theorem dX10_tolerance_23 : decode cX10_tolerance 23 = .ok (.invokevirtual 147, 3) := by decide +kernel
theorem dX10_tolerance_26 : decode cX10_tolerance 26 = .ok (.istore 4, 2) := by decide +kernel
theorem dX10_tolerance_28 : decode cX10_tolerance 28 = .ok (.iload 4, 2) := by decide +kernel
theorem dX10_tolerance_30 : decode cX10_tolerance 30 = .ok (.bipush (-6), 2) := by decide +kernel
theorem dX10_tolerance_32 : decode cX10_tolerance 32 = .ok (.if_icmp .ne 6, 3) := by decide +kernel
theorem dX10_tolerance_35 : decode cX10_tolerance 35 = .ok (.bipush (-6), 2) := by decide +kernel
theorem dX10_tolerance_37 : decode cX10_tolerance 37 = .ok (.ireturn, 1) := by decide +kernel
theorem dX10_tolerance_38 : decode cX10_tolerance 38 = .ok (.aload_n 0, 1) := by decide +kernel
theorem dX10_tolerance_39 : decode cX10_tolerance 39 = .ok (.iload_n 1, 1) := by decide +kernel
theorem dX10_tolerance_40 : decode cX10_tolerance 40 = .ok (.iconst 4, 1) := by decide +kernel
theorem dX10_tolerance_41 : decode cX10_tolerance 41 = .ok (.invokevirtual 67, 3) := by decide +kernel
theorem dX10_tolerance_44 : decode cX10_tolerance 44 = .ok (.istore 5, 2) := by decide +kernel
theorem dX10_tolerance_46 : decode cX10_tolerance 46 = .ok (.bipush 20, 2) := by decide +kernel
theorem dX10_tolerance_48 : decode cX10_tolerance 48 = .ok (.iload 5, 2) := by decide +kernel
theorem dX10_tolerance_50 : decode cX10_tolerance 50 = .ok (.isub, 1) := by decide +kernel
theorem dX10_tolerance_51 : decode cX10_tolerance 51 = .ok (.istore 6, 2) := by decide +kernel
theorem dX10_tolerance_53 : decode cX10_tolerance 53 = .ok (.iconst 0, 1) := by decide +kernel
theorem dX10_tolerance_54 : decode cX10_tolerance 54 = .ok (.istore 7, 2) := by decide +kernel
theorem dX10_tolerance_56 : decode cX10_tolerance 56 = .ok (.iload 7, 2) := by decide +kernel
theorem dX10_tolerance_58 : decode cX10_tolerance 58 = .ok (.ifCond .ne 57, 3) := by decide +kernel
theorem dX10_tolerance_61 : decode cX10_tolerance 61 = .ok (.aload_n 0, 1) := by decide +kernel
theorem dX10_tolerance_62 : decode cX10_tolerance 62 = .ok (.getfield 7, 3) := by decide +kernel
theorem dX10_tolerance_65 : decode cX10_tolerance 65 = .ok (.iconst 5, 1) := by decide +kernel
theorem dX10_tolerance_66 : decode cX10_tolerance 66 = .ok (.iconst 5, 1) := by decide +kernel
theorem dX10_tolerance_67 : decode cX10_tolerance 67 = .ok (.iload_n 1, 1) := by decide +kernel
theorem dX10_tolerance_68 : decode cX10_tolerance 68 = .ok (.imul, 1) := by decide +kernel
theorem dX10_tolerance_69 : decode cX10_tolerance 69 = .ok (.iadd, 1) := by decide +kernel
theorem dX10_tolerance_70 : decode cX10_tolerance 70 = .ok (.iconst 4, 1) := by decide +kernel
theorem dX10_tolerance_71 : decode cX10_tolerance 71 = .ok (.iadd, 1) := by decide +kernel
theorem dX10_tolerance_72 : decode cX10_tolerance 72 = .ok (.iload 5, 2) := by decide +kernel
theorem dX10_tolerance_74 : decode cX10_tolerance 74 = .ok (.iload 6, 2) := by decide +kernel
theorem dX10_tolerance_76 : decode cX10_tolerance 76 = .ok (.iadd, 1) := by decide +kernel
theorem dX10_tolerance_77 : decode cX10_tolerance 77 = .ok (.iastore, 1) := by decide +kernel
theorem dX10_tolerance_78 : decode cX10_tolerance 78 = .ok (.aload_n 0, 1) := by decide +kernel
theorem dX10_tolerance_79 : decode cX10_tolerance 79 = .ok (.iload_n 2, 1) := by decide +kernel
theorem dX10_tolerance_80 : decode cX10_tolerance 80 = .ok (.iload_n 3, 1) := by decide +kernel
theorem dX10_tolerance_81 : decode cX10_tolerance 81 = .ok (.iconst (-1), 1) := by decide +kernel
theorem dX10_tolerance_82 : decode cX10_tolerance 82 = .ok (.invokevirtual 147, 3) := by decide +kernel
theorem dX10_tolerance_85 : decode cX10_tolerance 85 = .ok (.iload 4, 2) := by decide +kernel
theorem dX10_tolerance_87 : decode cX10_tolerance 87 = .ok (.if_icmp .ne 7, 3) := by decide +kernel
theorem dX10_tolerance_90 : decode cX10_tolerance 90 = .ok (.iconst 1, 1) := by decide +kernel
theorem dX10_tolerance_91 : decode cX10_tolerance 91 = .ok (.goto 4, 3) := by decide +kernel
theorem dX10_tolerance_94 : decode cX10_tolerance 94 = .ok (.iconst 0, 1) := by decide +kernel
theorem dX10_tolerance_95 : decode cX10_tolerance 95 = .ok (.istore 7, 2) := by decide +kernel
theorem dX10_tolerance_97 : decode cX10_tolerance 97 = .ok (.iload 6, 2) := by decide +kernel
theorem dX10_tolerance_99 : decode cX10_tolerance 99 = .ok (.iload 7, 2) := by decide +kernel
theorem dX10_tolerance_101 : decode cX10_tolerance 101 = .ok (.ifCond .eq 7, 3) := by decide +kernel
theorem dX10_tolerance_104 : decode cX10_tolerance 104 = .ok (.iconst 0, 1) := by decide +kernel
theorem dX10_tolerance_105 : decode cX10_tolerance 105 = .ok (.goto 4, 3) := by decide +kernel
theorem dX10_tolerance_108 : decode cX10_tolerance 108 = .ok (.iconst 1, 1) := by decide +kernel
theorem dX10_tolerance_109 : decode cX10_tolerance 109 = .ok (.isub, 1) := by decide +kernel
theorem dX10_tolerance_110 : decode cX10_tolerance 110 = .ok (.istore 6, 2) := by decide +kernel
theorem dX10_tolerance_112 : decode cX10_tolerance 112 = .ok (.goto (-56), 3) := by decide +kernel
theorem dX10_tolerance_115 : decode cX10_tolerance 115 = .ok (.aload_n 0, 1) := by decide +kernel
theorem dX10_tolerance_116 : decode cX10_tolerance 116 = .ok (.getfield 7, 3) := by decide +kernel
theorem dX10_tolerance_119 : decode cX10_tolerance 119 = .ok (.iconst 5, 1) := by decide +kernel
theorem dX10_tolerance_120 : decode cX10_tolerance 120 = .ok (.iconst 5, 1) := by decide +kernel
theorem dX10_tolerance_121 : decode cX10_tolerance 121 = .ok (.iload_n 1, 1) := by decide +kernel
theorem dX10_tolerance_122 : decode cX10_tolerance 122 = .ok (.imul, 1) := by decide +kernel
theorem dX10_tolerance_123 : decode cX10_tolerance 123 = .ok (.iadd, 1) := by decide +kernel
theorem dX10_tolerance_124 : decode cX10_tolerance 124 = .ok (.iconst 4, 1) := by decide +kernel
theorem dX10_tolerance_125 : decode cX10_tolerance 125 = .ok (.iadd, 1) := by decide +kernel
theorem dX10_tolerance_126 : decode cX10_tolerance 126 = .ok (.iload 5, 2) := by decide +kernel
theorem dX10_tolerance_128 : decode cX10_tolerance 128 = .ok (.iastore, 1) := by decide +kernel
theorem dX10_tolerance_129 : decode cX10_tolerance 129 = .ok (.iload 6, 2) := by decide +kernel
theorem dX10_tolerance_131 : decode cX10_tolerance 131 = .ok (.ireturn, 1) := by decide +kernel
theorem dX10_write_0 : decode cX10_write 0 = .ok (.iload_n 1, 1) := by decide +kernel
theorem dX10_write_1 : decode cX10_write 1 = .ok (.bipush 32, 2) := by decide +kernel
theorem dX10_write_3 : decode cX10_write 3 = .ok (.bipush 126, 2) := by decide +kernel
theorem dX10_write_5 : decode cX10_write 5 = .ok (.invokestatic 44, 3) := by decide +kernel
theorem dX10_write_8 : decode cX10_write 8 = .ok (.ifCond .ne 6, 3) := by decide +kernel
theorem dX10_write_11 : decode cX10_write 11 = .ok (.bipush (-2), 2) := by decide +kernel
theorem dX10_write_13 : decode cX10_write 13 = .ok (.ireturn, 1) := by decide +kernel
theorem dX10_write_14 : decode cX10_write 14 = .ok (.aload_n 0, 1) := by decide +kernel
theorem dX10_write_15 : decode cX10_write 15 = .ok (.getfield 205, 3) := by decide +kernel
theorem dX10_write_18 : decode cX10_write 18 = .ok (.sipush 200, 3) := by decide +kernel
theorem dX10_write_21 : decode cX10_write 21 = .ok (.if_icmp .ne 6, 3) := by decide +kernel
theorem dX10_write_24 : decode cX10_write 24 = .ok (.bipush (-4), 2) := by decide +kernel
theorem dX10_write_26 : decode cX10_write 26 = .ok (.ireturn, 1) := by decide +kernel
theorem dX10_write_27 : decode cX10_write 27 = .ok (.aload_n 0, 1) := by decide +kernel
theorem dX10_write_28 : decode cX10_write 28 = .ok (.getfield 16, 3) := by decide +kernel
theorem dX10_write_31 : decode cX10_write 31 = .ok (.aload_n 0, 1) := by decide +kernel
theorem dX10_write_32 : decode cX10_write 32 = .ok (.getfield 205, 3) := by decide +kernel
theorem dX10_write_35 : decode cX10_write 35 = .ok (.iload_n 1, 1) := by decide +kernel
theorem dX10_write_36 : decode cX10_write 36 = .ok (.iastore, 1) := by decide +kernel
theorem dX10_write_37 : decode cX10_write 37 = .ok (.aload_n 0, 1) := by decide +kernel
theorem dX10_write_38 : decode cX10_write 38 = .ok (.dup, 1) := by decide +kernel
theorem dX10_write_39 : decode cX10_write 39 = .ok (.getfield 205, 3) := by decide +kernel
theorem dX10_write_42 : decode cX10_write 42 = .ok (.iconst 1, 1) := by decide +kernel
theorem dX10_write_43 : decode cX10_write 43 = .ok (.iadd, 1) := by decide +kernel
theorem dX10_write_44 : decode cX10_write 44 = .ok (.putfield 205, 3) := by decide +kernel
theorem dX10_write_47 : decode cX10_write 47 = .ok (.aload_n 0, 1) := by decide +kernel
theorem dX10_write_48 : decode cX10_write 48 = .ok (.getfield 205, 3) := by decide +kernel
theorem dX10_write_51 : decode cX10_write 51 = .ok (.ireturn, 1) := by decide +kernel
theorem dX10_wipe_0 : decode cX10_wipe 0 = .ok (.aload_n 0, 1) := by decide +kernel
theorem dX10_wipe_1 : decode cX10_wipe 1 = .ok (.getfield 205, 3) := by decide +kernel
theorem dX10_wipe_4 : decode cX10_wipe 4 = .ok (.istore_n 1, 1) := by decide +kernel
theorem dX10_wipe_5 : decode cX10_wipe 5 = .ok (.aload_n 0, 1) := by decide +kernel
theorem dX10_wipe_6 : decode cX10_wipe 6 = .ok (.iconst 0, 1) := by decide +kernel
theorem dX10_wipe_7 : decode cX10_wipe 7 = .ok (.putfield 205, 3) := by decide +kernel
theorem dX10_wipe_10 : decode cX10_wipe 10 = .ok (.iload_n 1, 1) := by decide +kernel
theorem dX10_wipe_11 : decode cX10_wipe 11 = .ok (.ireturn, 1) := by decide +kernel
theorem dX10_here_0 : decode cX10_here 0 = .ok (.aload_n 0, 1) := by decide +kernel
theorem dX10_here_1 : decode cX10_here 1 = .ok (.getfield 208, 3) := by decide +kernel
theorem dX10_here_4 : decode cX10_here 4 = .ok (.aload_n 0, 1) := by decide +kernel
theorem dX10_here_5 : decode cX10_here 5 = .ok (.getfield 205, 3) := by decide +kernel
theorem dX10_here_8 : decode cX10_here 8 = .ok (.if_icmp .ge 15, 3) := by decide +kernel
theorem dX10_here_11 : decode cX10_here 11 = .ok (.aload_n 0, 1) := by decide +kernel
theorem dX10_here_12 : decode cX10_here 12 = .ok (.getfield 16, 3) := by decide +kernel
theorem dX10_here_15 : decode cX10_here 15 = .ok (.aload_n 0, 1) := by decide +kernel
theorem dX10_here_16 : decode cX10_here 16 = .ok (.getfield 208, 3) := by decide +kernel
theorem dX10_here_19 : decode cX10_here 19 = .ok (.iaload, 1) := by decide +kernel
theorem dX10_here_20 : decode cX10_here 20 = .ok (.goto 4, 3) := by decide +kernel
theorem dX10_here_23 : decode cX10_here 23 = .ok (.iconst 0, 1) := by decide +kernel
theorem dX10_here_24 : decode cX10_here 24 = .ok (.ireturn, 1) := by decide +kernel
theorem dX10_fails_0 : decode cX10_fails 0 = .ok (.aload_n 0, 1) := by decide +kernel
theorem dX10_fails_1 : decode cX10_fails 1 = .ok (.aload_n 0, 1) := by decide +kernel
theorem dX10_fails_2 : decode cX10_fails 2 = .ok (.getfield 211, 3) := by decide +kernel
theorem dX10_fails_5 : decode cX10_fails 5 = .ok (.bipush (-6), 2) := by decide +kernel
theorem dX10_fails_7 : decode cX10_fails 7 = .ok (.if_icmp .ne 7, 3) := by decide +kernel
theorem dX10_fails_10 : decode cX10_fails 10 = .ok (.iload_n 1, 1) := by decide +kernel
theorem dX10_fails_11 : decode cX10_fails 11 = .ok (.goto 7, 3) := by decide +kernel
theorem dX10_fails_14 : decode cX10_fails 14 = .ok (.aload_n 0, 1) := by decide +kernel
theorem dX10_fails_15 : decode cX10_fails 15 = .ok (.getfield 211, 3) := by decide +kernel
theorem dX10_fails_18 : decode cX10_fails 18 = .ok (.putfield 211, 3) := by decide +kernel
theorem dX10_fails_21 : decode cX10_fails 21 = .ok (.return_, 1) := by decide +kernel
theorem dX10_take_0 : decode cX10_take 0 = .ok (.aload_n 0, 1) := by decide +kernel
theorem dX10_take_1 : decode cX10_take 1 = .ok (.getfield 211, 3) := by decide +kernel
theorem dX10_take_4 : decode cX10_take 4 = .ok (.bipush (-6), 2) := by decide +kernel
theorem dX10_take_6 : decode cX10_take 6 = .ok (.if_icmp .eq 5, 3) := by decide +kernel
theorem dX10_take_9 : decode cX10_take 9 = .ok (.iconst 0, 1) := by decide +kernel
theorem dX10_take_10 : decode cX10_take 10 = .ok (.ireturn, 1) := by decide +kernel
theorem dX10_take_11 : decode cX10_take 11 = .ok (.aload_n 0, 1) := by decide +kernel
theorem dX10_take_12 : decode cX10_take 12 = .ok (.invokevirtual 214, 3) := by decide +kernel
theorem dX10_take_15 : decode cX10_take 15 = .ok (.iload_n 1, 1) := by decide +kernel
theorem dX10_take_16 : decode cX10_take 16 = .ok (.iload_n 2, 1) := by decide +kernel
theorem dX10_take_17 : decode cX10_take 17 = .ok (.invokestatic 44, 3) := by decide +kernel
theorem dX10_take_20 : decode cX10_take 20 = .ok (.ifCond .ne 13, 3) := by decide +kernel
theorem dX10_take_23 : decode cX10_take 23 = .ok (.aload_n 0, 1) := by decide +kernel
theorem dX10_take_24 : decode cX10_take 24 = .ok (.aload_n 0, 1) := by decide +kernel
theorem dX10_take_25 : decode cX10_take 25 = .ok (.getfield 208, 3) := by decide +kernel
theorem dX10_take_28 : decode cX10_take 28 = .ok (.invokevirtual 218, 3) := by decide +kernel
theorem dX10_take_31 : decode cX10_take 31 = .ok (.iconst 0, 1) := by decide +kernel
theorem dX10_take_32 : decode cX10_take 32 = .ok (.ireturn, 1) := by decide +kernel
theorem dX10_take_33 : decode cX10_take 33 = .ok (.aload_n 0, 1) := by decide +kernel
theorem dX10_take_34 : decode cX10_take 34 = .ok (.dup, 1) := by decide +kernel
theorem dX10_take_35 : decode cX10_take 35 = .ok (.getfield 208, 3) := by decide +kernel
theorem dX10_take_38 : decode cX10_take 38 = .ok (.iconst 1, 1) := by decide +kernel
theorem dX10_take_39 : decode cX10_take 39 = .ok (.iadd, 1) := by decide +kernel
theorem dX10_take_40 : decode cX10_take 40 = .ok (.putfield 208, 3) := by decide +kernel
theorem dX10_take_43 : decode cX10_take 43 = .ok (.aload_n 0, 1) := by decide +kernel
theorem dX10_take_44 : decode cX10_take 44 = .ok (.getfield 16, 3) := by decide +kernel
theorem dX10_take_47 : decode cX10_take 47 = .ok (.aload_n 0, 1) := by decide +kernel
theorem dX10_take_48 : decode cX10_take 48 = .ok (.getfield 208, 3) := by decide +kernel
theorem dX10_take_51 : decode cX10_take 51 = .ok (.iconst 1, 1) := by decide +kernel
theorem dX10_take_52 : decode cX10_take 52 = .ok (.isub, 1) := by decide +kernel
theorem dX10_take_53 : decode cX10_take 53 = .ok (.iaload, 1) := by decide +kernel
theorem dX10_take_54 : decode cX10_take 54 = .ok (.iload_n 1, 1) := by decide +kernel
theorem dX10_take_55 : decode cX10_take 55 = .ok (.isub, 1) := by decide +kernel
theorem dX10_take_56 : decode cX10_take 56 = .ok (.ireturn, 1) := by decide +kernel
theorem dX10_readItem_0 : decode cX10_readItem 0 = .ok (.aload_n 0, 1) := by decide +kernel
theorem dX10_readItem_1 : decode cX10_readItem 1 = .ok (.getfield 221, 3) := by decide +kernel
theorem dX10_readItem_4 : decode cX10_readItem 4 = .ok (.bipush 20, 2) := by decide +kernel
theorem dX10_readItem_6 : decode cX10_readItem 6 = .ok (.if_icmp .ne 12, 3) := by decide +kernel
theorem dX10_readItem_9 : decode cX10_readItem 9 = .ok (.aload_n 0, 1) := by decide +kernel
theorem dX10_readItem_10 : decode cX10_readItem 10 = .ok (.aload_n 0, 1) := by decide +kernel
theorem dX10_readItem_11 : decode cX10_readItem 11 = .ok (.getfield 208, 3) := by decide +kernel
theorem dX10_readItem_14 : decode cX10_readItem 14 = .ok (.invokevirtual 218, 3) := by decide +kernel
theorem dX10_readItem_17 : decode cX10_readItem 17 = .ok (.return_, 1) := by decide +kernel
theorem dX10_readItem_18 : decode cX10_readItem 18 = .ok (.aload_n 0, 1) := by decide +kernel
theorem dX10_readItem_19 : decode cX10_readItem 19 = .ok (.getfield 7, 3) := by decide +kernel
theorem dX10_readItem_22 : decode cX10_readItem 22 = .ok (.iconst 1, 1) := by decide +kernel
theorem dX10_readItem_23 : decode cX10_readItem 23 = .ok (.iaload, 1) := by decide +kernel
theorem dX10_readItem_24 : decode cX10_readItem 24 = .ok (.iconst 1, 1) := by decide +kernel
theorem dX10_readItem_25 : decode cX10_readItem 25 = .ok (.isub, 1) := by decide +kernel
theorem dX10_readItem_26 : decode cX10_readItem 26 = .ok (.istore_n 1, 1) := by decide +kernel
theorem dX10_readItem_27 : decode cX10_readItem 27 = .ok (.aload_n 0, 1) := by decide +kernel
theorem dX10_readItem_28 : decode cX10_readItem 28 = .ok (.bipush 48, 2) := by decide +kernel
theorem dX10_readItem_30 : decode cX10_readItem 30 = .ok (.bipush 48, 2) := by decide +kernel
theorem dX10_readItem_32 : decode cX10_readItem 32 = .ok (.aload_n 0, 1) := by decide +kernel
theorem dX10_readItem_33 : decode cX10_readItem 33 = .ok (.getfield 7, 3) := by decide +kernel
theorem dX10_readItem_36 : decode cX10_readItem 36 = .ok (.iconst 0, 1) := by decide +kernel
theorem dX10_readItem_37 : decode cX10_readItem 37 = .ok (.iaload, 1) := by decide +kernel
theorem dX10_readItem_38 : decode cX10_readItem 38 = .ok (.iadd, 1) := by decide +kernel
theorem dX10_readItem_39 : decode cX10_readItem 39 = .ok (.iconst 1, 1) := by decide +kernel
theorem dX10_readItem_40 : decode cX10_readItem 40 = .ok (.isub, 1) := by decide +kernel
theorem dX10_readItem_41 : decode cX10_readItem 41 = .ok (.invokevirtual 224, 3) := by decide +kernel
theorem dX10_readItem_44 : decode cX10_readItem 44 = .ok (.istore_n 2, 1) := by decide +kernel
theorem dX10_readItem_45 : decode cX10_readItem 45 = .ok (.aload_n 0, 1) := by decide +kernel
theorem dX10_readItem_46 : decode cX10_readItem 46 = .ok (.bipush 97, 2) := by decide +kernel
theorem dX10_readItem_48 : decode cX10_readItem 48 = .ok (.bipush 97, 2) := by decide +kernel
theorem dX10_readItem_50 : decode cX10_readItem 50 = .ok (.iload_n 1, 1) := by decide +kernel
theorem dX10_readItem_51 : decode cX10_readItem 51 = .ok (.iadd, 1) := by decide +kernel
theorem dX10_readItem_52 : decode cX10_readItem 52 = .ok (.invokevirtual 224, 3) := by decide +kernel
theorem dX10_readItem_55 : decode cX10_readItem 55 = .ok (.iconst 1, 1) := by decide +kernel
theorem dX10_readItem_56 : decode cX10_readItem 56 = .ok (.iadd, 1) := by decide +kernel
theorem dX10_readItem_57 : decode cX10_readItem 57 = .ok (.istore_n 3, 1) := by decide +kernel
theorem dX10_readItem_58 : decode cX10_readItem 58 = .ok (.aload_n 0, 1) := by decide +kernel
theorem dX10_readItem_59 : decode cX10_readItem 59 = .ok (.bipush 62, 2) := by decide +kernel
theorem dX10_readItem_61 : decode cX10_readItem 61 = .ok (.bipush 62, 2) := by decide +kernel
theorem dX10_readItem_63 : decode cX10_readItem 63 = .ok (.invokevirtual 224, 3) := by decide +kernel
theorem dX10_readItem_66 : decode cX10_readItem 66 = .ok (.istore 4, 2) := by decide +kernel
theorem dX10_readItem_68 : decode cX10_readItem 68 = .ok (.aload_n 0, 1) := by decide +kernel
theorem dX10_readItem_69 : decode cX10_readItem 69 = .ok (.bipush 48, 2) := by decide +kernel
theorem dX10_readItem_71 : decode cX10_readItem 71 = .ok (.bipush 48, 2) := by decide +kernel
theorem dX10_readItem_73 : decode cX10_readItem 73 = .ok (.aload_n 0, 1) := by decide +kernel
theorem dX10_readItem_74 : decode cX10_readItem 74 = .ok (.getfield 7, 3) := by decide +kernel
theorem dX10_readItem_77 : decode cX10_readItem 77 = .ok (.iconst 0, 1) := by decide +kernel
theorem dX10_readItem_78 : decode cX10_readItem 78 = .ok (.iaload, 1) := by decide +kernel
theorem dX10_readItem_79 : decode cX10_readItem 79 = .ok (.iadd, 1) := by decide +kernel
theorem dX10_readItem_80 : decode cX10_readItem 80 = .ok (.iconst 1, 1) := by decide +kernel
theorem dX10_readItem_81 : decode cX10_readItem 81 = .ok (.isub, 1) := by decide +kernel
theorem dX10_readItem_82 : decode cX10_readItem 82 = .ok (.invokevirtual 224, 3) := by decide +kernel
theorem dX10_readItem_85 : decode cX10_readItem 85 = .ok (.istore 5, 2) := by decide +kernel
theorem dX10_readItem_87 : decode cX10_readItem 87 = .ok (.iconst 0, 1) := by decide +kernel
theorem dX10_readItem_88 : decode cX10_readItem 88 = .ok (.istore 6, 2) := by decide +kernel
theorem dX10_readItem_90 : decode cX10_readItem 90 = .ok (.iconst 0, 1) := by decide +kernel
theorem dX10_readItem_91 : decode cX10_readItem 91 = .ok (.istore 7, 2) := by decide +kernel
theorem dX10_readItem_93 : decode cX10_readItem 93 = .ok (.iload 7, 2) := by decide +kernel
theorem dX10_readItem_95 : decode cX10_readItem 95 = .ok (.iconst 2, 1) := by decide +kernel
theorem dX10_readItem_96 : decode cX10_readItem 96 = .ok (.if_icmp .ge 54, 3) := by decide +kernel
theorem dX10_readItem_99 : decode cX10_readItem 99 = .ok (.aload_n 0, 1) := by decide +kernel
theorem dX10_readItem_100 : decode cX10_readItem 100 = .ok (.getfield 211, 3) := by decide +kernel
theorem dX10_readItem_103 : decode cX10_readItem 103 = .ok (.bipush (-6), 2) := by decide +kernel
theorem dX10_readItem_105 : decode cX10_readItem 105 = .ok (.if_icmp .ne 45, 3) := by decide +kernel
theorem dX10_readItem_108 : decode cX10_readItem 108 = .ok (.aload_n 0, 1) := by decide +kernel
theorem dX10_readItem_109 : decode cX10_readItem 109 = .ok (.invokevirtual 214, 3) := by decide +kernel
theorem dX10_readItem_112 : decode cX10_readItem 112 = .ok (.bipush 97, 2) := by decide +kernel
theorem dX10_readItem_114 : decode cX10_readItem 114 = .ok (.bipush 97, 2) := by decide +kernel
theorem dX10_readItem_116 : decode cX10_readItem 116 = .ok (.iload_n 1, 1) := by decide +kernel
theorem dX10_readItem_117 : decode cX10_readItem 117 = .ok (.iadd, 1) := by decide +kernel
theorem dX10_readItem_118 : decode cX10_readItem 118 = .ok (.invokestatic 44, 3) := by decide +kernel
theorem dX10_readItem_121 : decode cX10_readItem 121 = .ok (.ifCond .eq 29, 3) := by decide +kernel
theorem dX10_readItem_124 : decode cX10_readItem 124 = .ok (.bipush 10, 2) := by decide +kernel
theorem dX10_readItem_126 : decode cX10_readItem 126 = .ok (.iload 6, 2) := by decide +kernel
theorem dX10_readItem_128 : decode cX10_readItem 128 = .ok (.imul, 1) := by decide +kernel
theorem dX10_readItem_129 : decode cX10_readItem 129 = .ok (.aload_n 0, 1) := by decide +kernel
theorem dX10_readItem_130 : decode cX10_readItem 130 = .ok (.bipush 97, 2) := by decide +kernel
theorem dX10_readItem_132 : decode cX10_readItem 132 = .ok (.bipush 97, 2) := by decide +kernel
theorem dX10_readItem_134 : decode cX10_readItem 134 = .ok (.iload_n 1, 1) := by decide +kernel
theorem dX10_readItem_135 : decode cX10_readItem 135 = .ok (.iadd, 1) := by decide +kernel
theorem dX10_readItem_136 : decode cX10_readItem 136 = .ok (.invokevirtual 224, 3) := by decide +kernel
theorem dX10_readItem_139 : decode cX10_readItem 139 = .ok (.iadd, 1) := by decide +kernel
theorem dX10_readItem_140 : decode cX10_readItem 140 = .ok (.iconst 1, 1) := by decide +kernel
theorem dX10_readItem_141 : decode cX10_readItem 141 = .ok (.iadd, 1) := by decide +kernel
theorem dX10_readItem_142 : decode cX10_readItem 142 = .ok (.istore 6, 2) := by decide +kernel
theorem dX10_readItem_144 : decode cX10_readItem 144 = .ok (.iinc 7 1, 3) := by decide +kernel
theorem dX10_readItem_147 : decode cX10_readItem 147 = .ok (.goto (-54), 3) := by decide +kernel
theorem dX10_readItem_150 : decode cX10_readItem 150 = .ok (.aload_n 0, 1) := by decide +kernel
theorem dX10_readItem_151 : decode cX10_readItem 151 = .ok (.bipush 58, 2) := by decide +kernel
theorem dX10_readItem_153 : decode cX10_readItem 153 = .ok (.bipush 58, 2) := by decide +kernel
theorem dX10_readItem_155 : decode cX10_readItem 155 = .ok (.invokevirtual 224, 3) := by decide +kernel
theorem dX10_readItem_158 : decode cX10_readItem 158 = .ok (.istore 4, 2) := by decide +kernel
theorem dX10_readItem_160 : decode cX10_readItem 160 = .ok (.aload_n 0, 1) := by decide +kernel
theorem dX10_readItem_161 : decode cX10_readItem 161 = .ok (.getfield 208, 3) := by decide +kernel
theorem dX10_readItem_164 : decode cX10_readItem 164 = .ok (.istore 7, 2) := by decide +kernel
theorem dX10_readItem_166 : decode cX10_readItem 166 = .ok (.aload_n 0, 1) := by decide +kernel
theorem dX10_readItem_167 : decode cX10_readItem 167 = .ok (.bipush 48, 2) := by decide +kernel
theorem dX10_readItem_169 : decode cX10_readItem 169 = .ok (.bipush 57, 2) := by decide +kernel
theorem dX10_readItem_171 : decode cX10_readItem 171 = .ok (.invokevirtual 224, 3) := by decide +kernel
theorem dX10_readItem_174 : decode cX10_readItem 174 = .ok (.istore 8, 2) := by decide +kernel
theorem dX10_readItem_176 : decode cX10_readItem 176 = .ok (.aload_n 0, 1) := by decide +kernel
theorem dX10_readItem_177 : decode cX10_readItem 177 = .ok (.getfield 211, 3) := by decide +kernel
theorem dX10_readItem_180 : decode cX10_readItem 180 = .ok (.bipush (-6), 2) := by decide +kernel
theorem dX10_readItem_182 : decode cX10_readItem 182 = .ok (.if_icmp .ne 33, 3) := by decide +kernel
theorem dX10_readItem_185 : decode cX10_readItem 185 = .ok (.aload_n 0, 1) := by decide +kernel
theorem dX10_readItem_186 : decode cX10_readItem 186 = .ok (.invokevirtual 214, 3) := by decide +kernel
theorem dX10_readItem_189 : decode cX10_readItem 189 = .ok (.bipush 48, 2) := by decide +kernel
theorem dX10_readItem_191 : decode cX10_readItem 191 = .ok (.bipush 57, 2) := by decide +kernel
theorem dX10_readItem_193 : decode cX10_readItem 193 = .ok (.invokestatic 44, 3) := by decide +kernel
theorem dX10_readItem_196 : decode cX10_readItem 196 = .ok (.ifCond .eq 19, 3) := by decide +kernel
theorem dX10_readItem_199 : decode cX10_readItem 199 = .ok (.bipush 10, 2) := by decide +kernel
theorem dX10_readItem_201 : decode cX10_readItem 201 = .ok (.iload 8, 2) := by decide +kernel
theorem dX10_readItem_203 : decode cX10_readItem 203 = .ok (.imul, 1) := by decide +kernel
theorem dX10_readItem_204 : decode cX10_readItem 204 = .ok (.aload_n 0, 1) := by decide +kernel
theorem dX10_readItem_205 : decode cX10_readItem 205 = .ok (.bipush 48, 2) := by decide +kernel
theorem dX10_readItem_207 : decode cX10_readItem 207 = .ok (.bipush 57, 2) := by decide +kernel
theorem dX10_readItem_209 : decode cX10_readItem 209 = .ok (.invokevirtual 224, 3) := by decide +kernel
theorem dX10_readItem_212 : decode cX10_readItem 212 = .ok (.iadd, 1) := by decide +kernel
theorem dX10_readItem_213 : decode cX10_readItem 213 = .ok (.istore 8, 2) := by decide +kernel
theorem dX10_readItem_215 : decode cX10_readItem 215 = .ok (.aload_n 0, 1) := by decide +kernel
theorem dX10_readItem_216 : decode cX10_readItem 216 = .ok (.getfield 211, 3) := by decide +kernel
theorem dX10_readItem_219 : decode cX10_readItem 219 = .ok (.bipush (-6), 2) := by decide +kernel
theorem dX10_readItem_221 : decode cX10_readItem 221 = .ok (.if_icmp .ne 20, 3) := by decide +kernel
theorem dX10_readItem_224 : decode cX10_readItem 224 = .ok (.iload 8, 2) := by decide +kernel
theorem dX10_readItem_226 : decode cX10_readItem 226 = .ok (.iconst 1, 1) := by decide +kernel
theorem dX10_readItem_227 : decode cX10_readItem 227 = .ok (.bipush 20, 2) := by decide +kernel
theorem dX10_readItem_229 : decode cX10_readItem 229 = .ok (.invokestatic 44, 3) := by decide +kernel
theorem dX10_readItem_232 : decode cX10_readItem 232 = .ok (.ifCond .ne 9, 3) := by decide +kernel
theorem dX10_readItem_235 : decode cX10_readItem 235 = .ok (.aload_n 0, 1) := by decide +kernel
theorem dX10_readItem_236 : decode cX10_readItem 236 = .ok (.iload 7, 2) := by decide +kernel
theorem dX10_readItem_238 : decode cX10_readItem 238 = .ok (.invokevirtual 218, 3) := by decide +kernel
theorem dX10_readItem_241 : decode cX10_readItem 241 = .ok (.aload_n 0, 1) := by decide +kernel
theorem dX10_readItem_242 : decode cX10_readItem 242 = .ok (.bipush 59, 2) := by decide +kernel
theorem dX10_readItem_244 : decode cX10_readItem 244 = .ok (.bipush 59, 2) := by decide +kernel
theorem dX10_readItem_246 : decode cX10_readItem 246 = .ok (.invokevirtual 224, 3) := by decide +kernel
theorem dX10_readItem_249 : decode cX10_readItem 249 = .ok (.istore 4, 2) := by decide +kernel
theorem dX10_readItem_251 : decode cX10_readItem 251 = .ok (.iconst 0, 1) := by decide +kernel
theorem dX10_readItem_252 : decode cX10_readItem 252 = .ok (.istore 9, 2) := by decide +kernel
theorem dX10_readItem_254 : decode cX10_readItem 254 = .ok (.iload 9, 2) := by decide +kernel
theorem dX10_readItem_256 : decode cX10_readItem 256 = .ok (.aload_n 0, 1) := by decide +kernel
theorem dX10_readItem_257 : decode cX10_readItem 257 = .ok (.getfield 221, 3) := by decide +kernel
theorem dX10_readItem_260 : decode cX10_readItem 260 = .ok (.if_icmp .ge 88, 3) := by decide +kernel
theorem dX10_readItem_263 : decode cX10_readItem 263 = .ok (.aload_n 0, 1) := by decide +kernel
theorem dX10_readItem_264 : decode cX10_readItem 264 = .ok (.getfield 211, 3) := by decide +kernel
theorem dX10_readItem_267 : decode cX10_readItem 267 = .ok (.bipush (-6), 2) := by decide +kernel
theorem dX10_readItem_269 : decode cX10_readItem 269 = .ok (.if_icmp .ne 79, 3) := by decide +kernel
theorem dX10_readItem_272 : decode cX10_readItem 272 = .ok (.aload_n 0, 1) := by decide +kernel
theorem dX10_readItem_273 : decode cX10_readItem 273 = .ok (.getfield 41, 3) := by decide +kernel
theorem dX10_readItem_276 : decode cX10_readItem 276 = .ok (.iconst 5, 1) := by decide +kernel
theorem dX10_readItem_277 : decode cX10_readItem 277 = .ok (.iload 9, 2) := by decide +kernel
theorem dX10_readItem_279 : decode cX10_readItem 279 = .ok (.imul, 1) := by decide +kernel
theorem dX10_readItem_280 : decode cX10_readItem 280 = .ok (.iaload, 1) := by decide +kernel
theorem dX10_readItem_281 : decode cX10_readItem 281 = .ok (.iload_n 2, 1) := by decide +kernel
theorem dX10_readItem_282 : decode cX10_readItem 282 = .ok (.if_icmp .ne 60, 3) := by decide +kernel
theorem dX10_readItem_285 : decode cX10_readItem 285 = .ok (.aload_n 0, 1) := by decide +kernel
theorem dX10_readItem_286 : decode cX10_readItem 286 = .ok (.getfield 41, 3) := by decide +kernel
theorem dX10_readItem_289 : decode cX10_readItem 289 = .ok (.iconst 5, 1) := by decide +kernel
theorem dX10_readItem_290 : decode cX10_readItem 290 = .ok (.iload 9, 2) := by decide +kernel
theorem dX10_readItem_292 : decode cX10_readItem 292 = .ok (.imul, 1) := by decide +kernel
theorem dX10_readItem_293 : decode cX10_readItem 293 = .ok (.iconst 1, 1) := by decide +kernel
theorem dX10_readItem_294 : decode cX10_readItem 294 = .ok (.iadd, 1) := by decide +kernel
theorem dX10_readItem_295 : decode cX10_readItem 295 = .ok (.iaload, 1) := by decide +kernel
theorem dX10_readItem_296 : decode cX10_readItem 296 = .ok (.iload_n 3, 1) := by decide +kernel
theorem dX10_readItem_297 : decode cX10_readItem 297 = .ok (.if_icmp .ne 45, 3) := by decide +kernel
theorem dX10_readItem_300 : decode cX10_readItem 300 = .ok (.aload_n 0, 1) := by decide +kernel
theorem dX10_readItem_301 : decode cX10_readItem 301 = .ok (.getfield 41, 3) := by decide +kernel
theorem dX10_readItem_304 : decode cX10_readItem 304 = .ok (.iconst 5, 1) := by decide +kernel
theorem dX10_readItem_305 : decode cX10_readItem 305 = .ok (.iload 9, 2) := by decide +kernel
theorem dX10_readItem_307 : decode cX10_readItem 307 = .ok (.imul, 1) := by decide +kernel
theorem dX10_readItem_308 : decode cX10_readItem 308 = .ok (.iconst 2, 1) := by decide +kernel
theorem dX10_readItem_309 : decode cX10_readItem 309 = .ok (.iadd, 1) := by decide +kernel
theorem dX10_readItem_310 : decode cX10_readItem 310 = .ok (.iaload, 1) := by decide +kernel
theorem dX10_readItem_311 : decode cX10_readItem 311 = .ok (.iload 5, 2) := by decide +kernel
theorem dX10_readItem_313 : decode cX10_readItem 313 = .ok (.if_icmp .ne 29, 3) := by decide +kernel
theorem dX10_readItem_316 : decode cX10_readItem 316 = .ok (.aload_n 0, 1) := by decide +kernel
theorem dX10_readItem_317 : decode cX10_readItem 317 = .ok (.getfield 41, 3) := by decide +kernel
theorem dX10_readItem_320 : decode cX10_readItem 320 = .ok (.iconst 5, 1) := by decide +kernel
theorem dX10_readItem_321 : decode cX10_readItem 321 = .ok (.iload 9, 2) := by decide +kernel
theorem dX10_readItem_323 : decode cX10_readItem 323 = .ok (.imul, 1) := by decide +kernel
theorem dX10_readItem_324 : decode cX10_readItem 324 = .ok (.iconst 3, 1) := by decide +kernel
theorem dX10_readItem_325 : decode cX10_readItem 325 = .ok (.iadd, 1) := by decide +kernel
theorem dX10_readItem_326 : decode cX10_readItem 326 = .ok (.iaload, 1) := by decide +kernel
theorem dX10_readItem_327 : decode cX10_readItem 327 = .ok (.iload 6, 2) := by decide +kernel
theorem dX10_readItem_329 : decode cX10_readItem 329 = .ok (.if_icmp .ne 13, 3) := by decide +kernel
theorem dX10_readItem_332 : decode cX10_readItem 332 = .ok (.aload_n 0, 1) := by decide +kernel
theorem dX10_readItem_333 : decode cX10_readItem 333 = .ok (.aload_n 0, 1) := by decide +kernel
theorem dX10_readItem_334 : decode cX10_readItem 334 = .ok (.getfield 208, 3) := by decide +kernel
theorem dX10_readItem_337 : decode cX10_readItem 337 = .ok (.iconst 1, 1) := by decide +kernel
theorem dX10_readItem_338 : decode cX10_readItem 338 = .ok (.isub, 1) := by decide +kernel
theorem dX10_readItem_339 : decode cX10_readItem 339 = .ok (.invokevirtual 218, 3) := by decide +kernel
theorem dX10_readItem_342 : decode cX10_readItem 342 = .ok (.iinc 9 1, 3) := by decide +kernel
theorem dX10_readItem_345 : decode cX10_readItem 345 = .ok (.goto (-91), 3) := by decide +kernel
theorem dX10_readItem_348 : decode cX10_readItem 348 = .ok (.aload_n 0, 1) := by decide +kernel
theorem dX10_readItem_349 : decode cX10_readItem 349 = .ok (.getfield 41, 3) := by decide +kernel
theorem dX10_readItem_352 : decode cX10_readItem 352 = .ok (.iconst 5, 1) := by decide +kernel
theorem dX10_readItem_353 : decode cX10_readItem 353 = .ok (.aload_n 0, 1) := by decide +kernel
theorem dX10_readItem_354 : decode cX10_readItem 354 = .ok (.getfield 221, 3) := by decide +kernel
theorem dX10_readItem_357 : decode cX10_readItem 357 = .ok (.imul, 1) := by decide +kernel
theorem dX10_readItem_358 : decode cX10_readItem 358 = .ok (.iload_n 2, 1) := by decide +kernel
theorem dX10_readItem_359 : decode cX10_readItem 359 = .ok (.iastore, 1) := by decide +kernel
theorem dX10_readItem_360 : decode cX10_readItem 360 = .ok (.aload_n 0, 1) := by decide +kernel
theorem dX10_readItem_361 : decode cX10_readItem 361 = .ok (.getfield 41, 3) := by decide +kernel
theorem dX10_readItem_364 : decode cX10_readItem 364 = .ok (.iconst 5, 1) := by decide +kernel
theorem dX10_readItem_365 : decode cX10_readItem 365 = .ok (.aload_n 0, 1) := by decide +kernel
theorem dX10_readItem_366 : decode cX10_readItem 366 = .ok (.getfield 221, 3) := by decide +kernel
theorem dX10_readItem_369 : decode cX10_readItem 369 = .ok (.imul, 1) := by decide +kernel
theorem dX10_readItem_370 : decode cX10_readItem 370 = .ok (.iconst 1, 1) := by decide +kernel
theorem dX10_readItem_371 : decode cX10_readItem 371 = .ok (.iadd, 1) := by decide +kernel
theorem dX10_readItem_372 : decode cX10_readItem 372 = .ok (.iload_n 3, 1) := by decide +kernel
theorem dX10_readItem_373 : decode cX10_readItem 373 = .ok (.iastore, 1) := by decide +kernel
theorem dX10_readItem_374 : decode cX10_readItem 374 = .ok (.aload_n 0, 1) := by decide +kernel
theorem dX10_readItem_375 : decode cX10_readItem 375 = .ok (.getfield 41, 3) := by decide +kernel
theorem dX10_readItem_378 : decode cX10_readItem 378 = .ok (.iconst 5, 1) := by decide +kernel
theorem dX10_readItem_379 : decode cX10_readItem 379 = .ok (.aload_n 0, 1) := by decide +kernel
theorem dX10_readItem_380 : decode cX10_readItem 380 = .ok (.getfield 221, 3) := by decide +kernel
theorem dX10_readItem_383 : decode cX10_readItem 383 = .ok (.imul, 1) := by decide +kernel
theorem dX10_readItem_384 : decode cX10_readItem 384 = .ok (.iconst 2, 1) := by decide +kernel
theorem dX10_readItem_385 : decode cX10_readItem 385 = .ok (.iadd, 1) := by decide +kernel
theorem dX10_readItem_386 : decode cX10_readItem 386 = .ok (.iload 5, 2) := by decide +kernel
theorem dX10_readItem_388 : decode cX10_readItem 388 = .ok (.iastore, 1) := by decide +kernel
theorem dX10_readItem_389 : decode cX10_readItem 389 = .ok (.aload_n 0, 1) := by decide +kernel
theorem dX10_readItem_390 : decode cX10_readItem 390 = .ok (.getfield 41, 3) := by decide +kernel
theorem dX10_readItem_393 : decode cX10_readItem 393 = .ok (.iconst 5, 1) := by decide +kernel
theorem dX10_readItem_394 : decode cX10_readItem 394 = .ok (.aload_n 0, 1) := by decide +kernel
theorem dX10_readItem_395 : decode cX10_readItem 395 = .ok (.getfield 221, 3) := by decide +kernel
theorem dX10_readItem_398 : decode cX10_readItem 398 = .ok (.imul, 1) := by decide +kernel
theorem dX10_readItem_399 : decode cX10_readItem 399 = .ok (.iconst 3, 1) := by decide +kernel
theorem dX10_readItem_400 : decode cX10_readItem 400 = .ok (.iadd, 1) := by decide +kernel
theorem dX10_readItem_401 : decode cX10_readItem 401 = .ok (.iload 6, 2) := by decide +kernel
theorem dX10_readItem_403 : decode cX10_readItem 403 = .ok (.iastore, 1) := by decide +kernel
theorem dX10_readItem_404 : decode cX10_readItem 404 = .ok (.aload_n 0, 1) := by decide +kernel
theorem dX10_readItem_405 : decode cX10_readItem 405 = .ok (.getfield 41, 3) := by decide +kernel
theorem dX10_readItem_408 : decode cX10_readItem 408 = .ok (.iconst 5, 1) := by decide +kernel
theorem dX10_readItem_409 : decode cX10_readItem 409 = .ok (.aload_n 0, 1) := by decide +kernel
theorem dX10_readItem_410 : decode cX10_readItem 410 = .ok (.getfield 221, 3) := by decide +kernel
theorem dX10_readItem_413 : decode cX10_readItem 413 = .ok (.imul, 1) := by decide +kernel
theorem dX10_readItem_414 : decode cX10_readItem 414 = .ok (.iconst 4, 1) := by decide +kernel
theorem dX10_readItem_415 : decode cX10_readItem 415 = .ok (.iadd, 1) := by decide +kernel
theorem dX10_readItem_416 : decode cX10_readItem 416 = .ok (.iload 8, 2) := by decide +kernel
theorem dX10_readItem_418 : decode cX10_readItem 418 = .ok (.iastore, 1) := by decide +kernel
theorem dX10_readItem_419 : decode cX10_readItem 419 = .ok (.aload_n 0, 1) := by decide +kernel
theorem dX10_readItem_420 : decode cX10_readItem 420 = .ok (.dup, 1) := by decide +kernel
theorem dX10_readItem_421 : decode cX10_readItem 421 = .ok (.getfield 221, 3) := by decide +kernel
theorem dX10_readItem_424 : decode cX10_readItem 424 = .ok (.iconst 1, 1) := by decide +kernel
theorem dX10_readItem_425 : decode cX10_readItem 425 = .ok (.iadd, 1) := by decide +kernel
theorem dX10_readItem_426 : decode cX10_readItem 426 = .ok (.putfield 221, 3) := by decide +kernel
theorem dX10_readItem_429 : decode cX10_readItem 429 = .ok (.return_, 1) := by decide +kernel
theorem dX10_fault_0 : decode cX10_fault 0 = .ok (.aload_n 0, 1) := by decide +kernel
theorem dX10_fault_1 : decode cX10_fault 1 = .ok (.iconst 0, 1) := by decide +kernel
theorem dX10_fault_2 : decode cX10_fault 2 = .ok (.putfield 208, 3) := by decide +kernel
theorem dX10_fault_5 : decode cX10_fault 5 = .ok (.aload_n 0, 1) := by decide +kernel
theorem dX10_fault_6 : decode cX10_fault 6 = .ok (.bipush (-6), 2) := by decide +kernel
theorem dX10_fault_8 : decode cX10_fault 8 = .ok (.putfield 211, 3) := by decide +kernel
theorem dX10_fault_11 : decode cX10_fault 11 = .ok (.aload_n 0, 1) := by decide +kernel
theorem dX10_fault_12 : decode cX10_fault 12 = .ok (.iconst 0, 1) := by decide +kernel
theorem dX10_fault_13 : decode cX10_fault 13 = .ok (.putfield 221, 3) := by decide +kernel
theorem dX10_fault_16 : decode cX10_fault 16 = .ok (.aload_n 0, 1) := by decide +kernel
theorem dX10_fault_17 : decode cX10_fault 17 = .ok (.getfield 211, 3) := by decide +kernel
theorem dX10_fault_20 : decode cX10_fault 20 = .ok (.bipush (-6), 2) := by decide +kernel
theorem dX10_fault_22 : decode cX10_fault 22 = .ok (.if_icmp .ne 21, 3) := by decide +kernel
theorem dX10_fault_25 : decode cX10_fault 25 = .ok (.aload_n 0, 1) := by decide +kernel
theorem dX10_fault_26 : decode cX10_fault 26 = .ok (.getfield 208, 3) := by decide +kernel
theorem dX10_fault_29 : decode cX10_fault 29 = .ok (.aload_n 0, 1) := by decide +kernel
theorem dX10_fault_30 : decode cX10_fault 30 = .ok (.getfield 205, 3) := by decide +kernel
theorem dX10_fault_33 : decode cX10_fault 33 = .ok (.if_icmp .ge 10, 3) := by decide +kernel
theorem dX10_fault_36 : decode cX10_fault 36 = .ok (.aload_n 0, 1) := by decide +kernel
theorem dX10_fault_37 : decode cX10_fault 37 = .ok (.invokevirtual 227, 3) := by decide +kernel
theorem dX10_fault_40 : decode cX10_fault 40 = .ok (.goto (-24), 3) := by decide +kernel
theorem dX10_fault_43 : decode cX10_fault 43 = .ok (.aload_n 0, 1) := by decide +kernel
theorem dX10_fault_44 : decode cX10_fault 44 = .ok (.getfield 211, 3) := by decide +kernel
theorem dX10_fault_47 : decode cX10_fault 47 = .ok (.ireturn, 1) := by decide +kernel
theorem dX10_load_0 : decode cX10_load 0 = .ok (.aload_n 0, 1) := by decide +kernel
theorem dX10_load_1 : decode cX10_load 1 = .ok (.invokevirtual 230, 3) := by decide +kernel
theorem dX10_load_4 : decode cX10_load 4 = .ok (.bipush (-6), 2) := by decide +kernel
theorem dX10_load_6 : decode cX10_load 6 = .ok (.if_icmp .eq 6, 3) := by decide +kernel
theorem dX10_load_9 : decode cX10_load 9 = .ok (.bipush (-5), 2) := by decide +kernel
theorem dX10_load_11 : decode cX10_load 11 = .ok (.ireturn, 1) := by decide +kernel
theorem dX10_load_12 : decode cX10_load 12 = .ok (.aload_n 0, 1) := by decide +kernel
theorem dX10_load_13 : decode cX10_load 13 = .ok (.invokevirtual 64, 3) := by decide +kernel
theorem dX10_load_16 : decode cX10_load 16 = .ok (.aload_n 0, 1) := by decide +kernel
theorem dX10_load_17 : decode cX10_load 17 = .ok (.getfield 7, 3) := by decide +kernel
theorem dX10_load_20 : decode cX10_load 20 = .ok (.iconst 2, 1) := by decide +kernel
theorem dX10_load_21 : decode cX10_load 21 = .ok (.aload_n 0, 1) := by decide +kernel
theorem dX10_load_22 : decode cX10_load 22 = .ok (.getfield 221, 3) := by decide +kernel
theorem dX10_load_25 : decode cX10_load 25 = .ok (.iastore, 1) := by decide +kernel
theorem dX10_load_26 : decode cX10_load 26 = .ok (.iconst 0, 1) := by decide +kernel
theorem dX10_load_27 : decode cX10_load 27 = .ok (.istore_n 1, 1) := by decide +kernel
theorem dX10_load_28 : decode cX10_load 28 = .ok (.iload_n 1, 1) := by decide +kernel
theorem dX10_load_29 : decode cX10_load 29 = .ok (.iconst 5, 1) := by decide +kernel
theorem dX10_load_30 : decode cX10_load 30 = .ok (.aload_n 0, 1) := by decide +kernel
theorem dX10_load_31 : decode cX10_load 31 = .ok (.getfield 221, 3) := by decide +kernel
theorem dX10_load_34 : decode cX10_load 34 = .ok (.imul, 1) := by decide +kernel
theorem dX10_load_35 : decode cX10_load 35 = .ok (.if_icmp .ge 23, 3) := by decide +kernel
theorem dX10_load_38 : decode cX10_load 38 = .ok (.aload_n 0, 1) := by decide +kernel
theorem dX10_load_39 : decode cX10_load 39 = .ok (.getfield 7, 3) := by decide +kernel
theorem dX10_load_42 : decode cX10_load 42 = .ok (.iconst 5, 1) := by decide +kernel
theorem dX10_load_43 : decode cX10_load 43 = .ok (.iload_n 1, 1) := by decide +kernel
theorem dX10_load_44 : decode cX10_load 44 = .ok (.iadd, 1) := by decide +kernel
theorem dX10_load_45 : decode cX10_load 45 = .ok (.aload_n 0, 1) := by decide +kernel
theorem dX10_load_46 : decode cX10_load 46 = .ok (.getfield 41, 3) := by decide +kernel
theorem dX10_load_49 : decode cX10_load 49 = .ok (.iload_n 1, 1) := by decide +kernel
theorem dX10_load_50 : decode cX10_load 50 = .ok (.iaload, 1) := by decide +kernel
theorem dX10_load_51 : decode cX10_load 51 = .ok (.iastore, 1) := by decide +kernel
theorem dX10_load_52 : decode cX10_load 52 = .ok (.iinc 1 1, 3) := by decide +kernel
theorem dX10_load_55 : decode cX10_load 55 = .ok (.goto (-27), 3) := by decide +kernel
theorem dX10_load_58 : decode cX10_load 58 = .ok (.aload_n 0, 1) := by decide +kernel
theorem dX10_load_59 : decode cX10_load 59 = .ok (.getfield 221, 3) := by decide +kernel
theorem dX10_load_62 : decode cX10_load 62 = .ok (.ireturn, 1) := by decide +kernel

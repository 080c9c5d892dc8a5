theorem dX9_init_0 : decode cX9_init 0 = .ok (.aload_n 0, 1) := by decide +kernel
theorem dX9_init_1 : decode cX9_init 1 = .ok (.invokespecial 3, 3) := by decide +kernel
theorem dX9_init_4 : decode cX9_init 4 = .ok (.aload_n 0, 1) := by decide +kernel
theorem dX9_init_5 : decode cX9_init 5 = .ok (.new 9, 3) := by decide +kernel
theorem dX9_init_8 : decode cX9_init 8 = .ok (.dup, 1) := by decide +kernel
theorem dX9_init_9 : decode cX9_init 9 = .ok (.invokespecial 11, 3) := by decide +kernel
theorem dX9_init_12 : decode cX9_init 12 = .ok (.putfield 12, 3) := by decide +kernel
theorem dX9_init_15 : decode cX9_init 15 = .ok (.aload_n 0, 1) := by decide +kernel
theorem dX9_init_16 : decode cX9_init 16 = .ok (.new 9, 3) := by decide +kernel
theorem dX9_init_19 : decode cX9_init 19 = .ok (.dup, 1) := by decide +kernel
theorem dX9_init_20 : decode cX9_init 20 = .ok (.invokespecial 11, 3) := by decide +kernel
theorem dX9_init_23 : decode cX9_init 23 = .ok (.putfield 16, 3) := by decide +kernel
theorem dX9_init_26 : decode cX9_init 26 = .ok (.aload_n 0, 1) := by decide +kernel
theorem dX9_init_27 : decode cX9_init 27 = .ok (.new 19, 3) := by decide +kernel
theorem dX9_init_30 : decode cX9_init 30 = .ok (.dup, 1) := by decide +kernel
theorem dX9_init_31 : decode cX9_init 31 = .ok (.invokespecial 21, 3) := by decide +kernel
theorem dX9_init_34 : decode cX9_init 34 = .ok (.putfield 22, 3) := by decide +kernel
theorem dX9_init_37 : decode cX9_init 37 = .ok (.aload_n 0, 1) := by decide +kernel
theorem dX9_init_38 : decode cX9_init 38 = .ok (.new 26, 3) := by decide +kernel
theorem dX9_init_41 : decode cX9_init 41 = .ok (.dup, 1) := by decide +kernel
theorem dX9_init_42 : decode cX9_init 42 = .ok (.invokespecial 28, 3) := by decide +kernel
theorem dX9_init_45 : decode cX9_init 45 = .ok (.putfield 29, 3) := by decide +kernel
theorem dX9_init_48 : decode cX9_init 48 = .ok (.aload_n 0, 1) := by decide +kernel
theorem dX9_init_49 : decode cX9_init 49 = .ok (.new 33, 3) := by decide +kernel
theorem dX9_init_52 : decode cX9_init 52 = .ok (.dup, 1) := by decide +kernel
theorem dX9_init_53 : decode cX9_init 53 = .ok (.invokespecial 35, 3) := by decide +kernel
theorem dX9_init_56 : decode cX9_init 56 = .ok (.putfield 36, 3) := by decide +kernel
theorem dX9_init_59 : decode cX9_init 59 = .ok (.aload_n 0, 1) := by decide +kernel
theorem dX9_init_60 : decode cX9_init 60 = .ok (.new 33, 3) := by decide +kernel
theorem dX9_init_63 : decode cX9_init 63 = .ok (.dup, 1) := by decide +kernel
theorem dX9_init_64 : decode cX9_init 64 = .ok (.invokespecial 35, 3) := by decide +kernel
theorem dX9_init_67 : decode cX9_init 67 = .ok (.putfield 40, 3) := by decide +kernel
theorem dX9_init_70 : decode cX9_init 70 = .ok (.aload_n 0, 1) := by decide +kernel
theorem dX9_init_71 : decode cX9_init 71 = .ok (.new 43, 3) := by decide +kernel
theorem dX9_init_74 : decode cX9_init 74 = .ok (.dup, 1) := by decide +kernel
theorem dX9_init_75 : decode cX9_init 75 = .ok (.invokespecial 45, 3) := by decide +kernel
theorem dX9_init_78 : decode cX9_init 78 = .ok (.putfield 46, 3) := by decide +kernel
theorem dX9_init_81 : decode cX9_init 81 = .ok (.aload_n 0, 1) := by decide +kernel
theorem dX9_init_82 : decode cX9_init 82 = .ok (.new 50, 3) := by decide +kernel
theorem dX9_init_85 : decode cX9_init 85 = .ok (.dup, 1) := by decide +kernel
theorem dX9_init_86 : decode cX9_init 86 = .ok (.aload_n 0, 1) := by decide +kernel
theorem dX9_init_87 : decode cX9_init 87 = .ok (.getfield 46, 3) := by decide +kernel
theorem dX9_init_90 : decode cX9_init 90 = .ok (.invokespecial 52, 3) := by decide +kernel
theorem dX9_init_93 : decode cX9_init 93 = .ok (.putfield 55, 3) := by decide +kernel
theorem dX9_init_96 : decode cX9_init 96 = .ok (.aload_n 0, 1) := by decide +kernel
theorem dX9_init_97 : decode cX9_init 97 = .ok (.new 50, 3) := by decide +kernel
theorem dX9_init_100 : decode cX9_init 100 = .ok (.dup, 1) := by decide +kernel
theorem dX9_init_101 : decode cX9_init 101 = .ok (.aload_n 0, 1) := by decide +kernel
theorem dX9_init_102 : decode cX9_init 102 = .ok (.getfield 46, 3) := by decide +kernel
theorem dX9_init_105 : decode cX9_init 105 = .ok (.invokespecial 52, 3) := by decide +kernel
theorem dX9_init_108 : decode cX9_init 108 = .ok (.putfield 59, 3) := by decide +kernel
theorem dX9_init_111 : decode cX9_init 111 = .ok (.aload_n 0, 1) := by decide +kernel
theorem dX9_init_112 : decode cX9_init 112 = .ok (.new 62, 3) := by decide +kernel
theorem dX9_init_115 : decode cX9_init 115 = .ok (.dup, 1) := by decide +kernel
theorem dX9_init_116 : decode cX9_init 116 = .ok (.aload_n 0, 1) := by decide +kernel
theorem dX9_init_117 : decode cX9_init 117 = .ok (.getfield 46, 3) := by decide +kernel
theorem dX9_init_120 : decode cX9_init 120 = .ok (.aload_n 0, 1) := by decide +kernel
theorem dX9_init_121 : decode cX9_init 121 = .ok (.getfield 55, 3) := by decide +kernel
theorem dX9_init_124 : decode cX9_init 124 = .ok (.sipush 310, 3) := by decide +kernel
theorem dX9_init_127 : decode cX9_init 127 = .ok (.invokespecial 64, 3) := by decide +kernel
theorem dX9_init_130 : decode cX9_init 130 = .ok (.putfield 67, 3) := by decide +kernel
theorem dX9_init_133 : decode cX9_init 133 = .ok (.aload_n 0, 1) := by decide +kernel
theorem dX9_init_134 : decode cX9_init 134 = .ok (.new 62, 3) := by decide +kernel
theorem dX9_init_137 : decode cX9_init 137 = .ok (.dup, 1) := by decide +kernel
theorem dX9_init_138 : decode cX9_init 138 = .ok (.aload_n 0, 1) := by decide +kernel
theorem dX9_init_139 : decode cX9_init 139 = .ok (.getfield 46, 3) := by decide +kernel
theorem dX9_init_142 : decode cX9_init 142 = .ok (.aload_n 0, 1) := by decide +kernel
theorem dX9_init_143 : decode cX9_init 143 = .ok (.getfield 55, 3) := by decide +kernel
theorem dX9_init_146 : decode cX9_init 146 = .ok (.bipush 6, 2) := by decide +kernel
theorem dX9_init_148 : decode cX9_init 148 = .ok (.invokespecial 64, 3) := by decide +kernel
theorem dX9_init_151 : decode cX9_init 151 = .ok (.putfield 71, 3) := by decide +kernel
theorem dX9_init_154 : decode cX9_init 154 = .ok (.aload_n 0, 1) := by decide +kernel
theorem dX9_init_155 : decode cX9_init 155 = .ok (.new 62, 3) := by decide +kernel
theorem dX9_init_158 : decode cX9_init 158 = .ok (.dup, 1) := by decide +kernel
theorem dX9_init_159 : decode cX9_init 159 = .ok (.aload_n 0, 1) := by decide +kernel
theorem dX9_init_160 : decode cX9_init 160 = .ok (.getfield 46, 3) := by decide +kernel
theorem dX9_init_163 : decode cX9_init 163 = .ok (.aload_n 0, 1) := by decide +kernel
theorem dX9_init_164 : decode cX9_init 164 = .ok (.getfield 59, 3) := by decide +kernel
theorem dX9_init_167 : decode cX9_init 167 = .ok (.bipush 6, 2) := by decide +kernel
theorem dX9_init_169 : decode cX9_init 169 = .ok (.invokespecial 64, 3) := by decide +kernel
theorem dX9_init_172 : decode cX9_init 172 = .ok (.putfield 74, 3) := by decide +kernel
theorem dX9_init_175 : decode cX9_init 175 = .ok (.aload_n 0, 1) := by decide +kernel
theorem dX9_init_176 : decode cX9_init 176 = .ok (.new 77, 3) := by decide +kernel
theorem dX9_init_179 : decode cX9_init 179 = .ok (.dup, 1) := by decide +kernel
theorem dX9_init_180 : decode cX9_init 180 = .ok (.invokespecial 79, 3) := by decide +kernel
theorem dX9_init_183 : decode cX9_init 183 = .ok (.putfield 80, 3) := by decide +kernel
theorem dX9_init_186 : decode cX9_init 186 = .ok (.aload_n 0, 1) := by decide +kernel
theorem dX9_init_187 : decode cX9_init 187 = .ok (.new 84, 3) := by decide +kernel
theorem dX9_init_190 : decode cX9_init 190 = .ok (.dup, 1) := by decide +kernel
theorem dX9_init_191 : decode cX9_init 191 = .ok (.aload_n 0, 1) := by decide +kernel
theorem dX9_init_192 : decode cX9_init 192 = .ok (.getfield 46, 3) := by decide +kernel
theorem dX9_init_195 : decode cX9_init 195 = .ok (.aload_n 0, 1) := by decide +kernel
theorem dX9_init_196 : decode cX9_init 196 = .ok (.getfield 55, 3) := by decide +kernel
theorem dX9_init_199 : decode cX9_init 199 = .ok (.invokespecial 86, 3) := by decide +kernel
theorem dX9_init_202 : decode cX9_init 202 = .ok (.putfield 89, 3) := by decide +kernel
theorem dX9_init_205 : decode cX9_init 205 = .ok (.return_, 1) := by decide +kernel
theorem dX9_begin_0 : decode cX9_begin 0 = .ok (.iload_n 1, 1) := by decide +kernel
theorem dX9_begin_1 : decode cX9_begin 1 = .ok (.iconst 1, 1) := by decide +kernel
theorem dX9_begin_2 : decode cX9_begin 2 = .ok (.if_icmp .lt 18, 3) := by decide +kernel
theorem dX9_begin_5 : decode cX9_begin 5 = .ok (.iload_n 1, 1) := by decide +kernel
theorem dX9_begin_6 : decode cX9_begin 6 = .ok (.iconst 4, 1) := by decide +kernel
theorem dX9_begin_7 : decode cX9_begin 7 = .ok (.if_icmp .gt 13, 3) := by decide +kernel
theorem dX9_begin_10 : decode cX9_begin 10 = .ok (.iload_n 2, 1) := by decide +kernel
theorem dX9_begin_11 : decode cX9_begin 11 = .ok (.iconst 1, 1) := by decide +kernel
theorem dX9_begin_12 : decode cX9_begin 12 = .ok (.if_icmp .lt 8, 3) := by decide +kernel
theorem dX9_begin_15 : decode cX9_begin 15 = .ok (.iload_n 2, 1) := by decide +kernel
theorem dX9_begin_16 : decode cX9_begin 16 = .ok (.iconst 5, 1) := by decide +kernel
theorem dX9_begin_17 : decode cX9_begin 17 = .ok (.if_icmp .le 6, 3) := by decide +kernel
theorem dX9_begin_20 : decode cX9_begin 20 = .ok (.bipush (-2), 2) := by decide +kernel
theorem dX9_begin_22 : decode cX9_begin 22 = .ok (.ireturn, 1) := by decide +kernel
theorem dX9_begin_23 : decode cX9_begin 23 = .ok (.aload_n 0, 1) := by decide +kernel
theorem dX9_begin_24 : decode cX9_begin 24 = .ok (.getfield 12, 3) := by decide +kernel
theorem dX9_begin_27 : decode cX9_begin 27 = .ok (.getfield 93, 3) := by decide +kernel
theorem dX9_begin_30 : decode cX9_begin 30 = .ok (.istore_n 3, 1) := by decide +kernel
theorem dX9_begin_31 : decode cX9_begin 31 = .ok (.aload_n 0, 1) := by decide +kernel
theorem dX9_begin_32 : decode cX9_begin 32 = .ok (.invokevirtual 97, 3) := by decide +kernel
theorem dX9_begin_35 : decode cX9_begin 35 = .ok (.aload_n 0, 1) := by decide +kernel
theorem dX9_begin_36 : decode cX9_begin 36 = .ok (.getfield 12, 3) := by decide +kernel
theorem dX9_begin_39 : decode cX9_begin 39 = .ok (.iload_n 1, 1) := by decide +kernel
theorem dX9_begin_40 : decode cX9_begin 40 = .ok (.iload_n 2, 1) := by decide +kernel
theorem dX9_begin_41 : decode cX9_begin 41 = .ok (.invokevirtual 100, 3) := by decide +kernel
theorem dX9_begin_44 : decode cX9_begin 44 = .ok (.iload_n 3, 1) := by decide +kernel
theorem dX9_begin_45 : decode cX9_begin 45 = .ok (.ireturn, 1) := by decide +kernel
theorem dX9_addRule_0 : decode cX9_addRule 0 = .ok (.aload_n 0, 1) := by decide +kernel
theorem dX9_addRule_1 : decode cX9_addRule 1 = .ok (.iload_n 1, 1) := by decide +kernel
theorem dX9_addRule_2 : decode cX9_addRule 2 = .ok (.invokevirtual 104, 3) := by decide +kernel
theorem dX9_addRule_5 : decode cX9_addRule 5 = .ok (.ifCond .eq 30, 3) := by decide +kernel
theorem dX9_addRule_8 : decode cX9_addRule 8 = .ok (.aload_n 0, 1) := by decide +kernel
theorem dX9_addRule_9 : decode cX9_addRule 9 = .ok (.iload_n 2, 1) := by decide +kernel
theorem dX9_addRule_10 : decode cX9_addRule 10 = .ok (.invokevirtual 108, 3) := by decide +kernel
theorem dX9_addRule_13 : decode cX9_addRule 13 = .ok (.ifCond .eq 22, 3) := by decide +kernel
theorem dX9_addRule_16 : decode cX9_addRule 16 = .ok (.aload_n 0, 1) := by decide +kernel
theorem dX9_addRule_17 : decode cX9_addRule 17 = .ok (.iload_n 3, 1) := by decide +kernel
theorem dX9_addRule_18 : decode cX9_addRule 18 = .ok (.invokevirtual 104, 3) := by decide +kernel
theorem dX9_addRule_21 : decode cX9_addRule 21 = .ok (.ifCond .eq 14, 3) := by decide +kernel
theorem dX9_addRule_24 : decode cX9_addRule 24 = .ok (.aload_n 0, 1) := by decide +kernel
theorem dX9_addRule_25 : decode cX9_addRule 25 = .ok (.iload 4, 2) := by decide +kernel
theorem dX9_addRule_27 : decode cX9_addRule 27 = .ok (.iconst 0, 1) := by decide +kernel
theorem dX9_addRule_28 : decode cX9_addRule 28 = .ok (.iconst 2, 1) := by decide +kernel
theorem dX9_addRule_29 : decode cX9_addRule 29 = .ok (.invokevirtual 111, 3) := by decide +kernel
theorem dX9_addRule_32 : decode cX9_addRule 32 = .ok (.ifCond .ne 5, 3) := by decide +kernel
theorem dX9_addRule_35 : decode cX9_addRule 35 = .ok (.iconst (-1), 1) := by decide +kernel
theorem dX9_addRule_36 : decode cX9_addRule 36 = .ok (.ireturn, 1) := by decide +kernel
theorem dX9_addRule_37 : decode cX9_addRule 37 = .ok (.iload 5, 2) := by decide +kernel
theorem dX9_addRule_39 : decode cX9_addRule 39 = .ok (.invokestatic 115, 3) := by decide +kernel
theorem dX9_addRule_42 : decode cX9_addRule 42 = .ok (.ifCond .ne 6, 3) := by decide +kernel
theorem dX9_addRule_45 : decode cX9_addRule 45 = .ok (.bipush (-2), 2) := by decide +kernel
theorem dX9_addRule_47 : decode cX9_addRule 47 = .ok (.ireturn, 1) := by decide +kernel
theorem dX9_addRule_48 : decode cX9_addRule 48 = .ok (.aload_n 0, 1) := by decide +kernel
theorem dX9_addRule_49 : decode cX9_addRule 49 = .ok (.getfield 12, 3) := by decide +kernel
theorem dX9_addRule_52 : decode cX9_addRule 52 = .ok (.iload_n 1, 1) := by decide +kernel
theorem dX9_addRule_53 : decode cX9_addRule 53 = .ok (.iload_n 2, 1) := by decide +kernel
theorem dX9_addRule_54 : decode cX9_addRule 54 = .ok (.iload_n 3, 1) := by decide +kernel
theorem dX9_addRule_55 : decode cX9_addRule 55 = .ok (.iload 4, 2) := by decide +kernel
theorem dX9_addRule_57 : decode cX9_addRule 57 = .ok (.invokevirtual 118, 3) := by decide +kernel
theorem dX9_addRule_60 : decode cX9_addRule 60 = .ok (.ifCond .eq 6, 3) := by decide +kernel
theorem dX9_addRule_63 : decode cX9_addRule 63 = .ok (.bipush (-3), 2) := by decide +kernel
theorem dX9_addRule_65 : decode cX9_addRule 65 = .ok (.ireturn, 1) := by decide +kernel
theorem dX9_addRule_66 : decode cX9_addRule 66 = .ok (.aload_n 0, 1) := by decide +kernel
theorem dX9_addRule_67 : decode cX9_addRule 67 = .ok (.getfield 12, 3) := by decide +kernel
theorem dX9_addRule_70 : decode cX9_addRule 70 = .ok (.getfield 93, 3) := by decide +kernel
theorem dX9_addRule_73 : decode cX9_addRule 73 = .ok (.bipush 20, 2) := by decide +kernel
theorem dX9_addRule_75 : decode cX9_addRule 75 = .ok (.if_icmp .lt 6, 3) := by decide +kernel
theorem dX9_addRule_78 : decode cX9_addRule 78 = .ok (.bipush (-4), 2) := by decide +kernel
theorem dX9_addRule_80 : decode cX9_addRule 80 = .ok (.ireturn, 1) := by decide +kernel
theorem dX9_addRule_81 : decode cX9_addRule 81 = .ok (.aload_n 0, 1) := by decide +kernel
theorem dX9_addRule_82 : decode cX9_addRule 82 = .ok (.invokevirtual 97, 3) := by decide +kernel
theorem dX9_addRule_85 : decode cX9_addRule 85 = .ok (.aload_n 0, 1) := by decide +kernel
theorem dX9_addRule_86 : decode cX9_addRule 86 = .ok (.getfield 12, 3) := by decide +kernel
theorem dX9_addRule_89 : decode cX9_addRule 89 = .ok (.iload_n 1, 1) := by decide +kernel
theorem dX9_addRule_90 : decode cX9_addRule 90 = .ok (.iload_n 2, 1) := by decide +kernel
theorem dX9_addRule_91 : decode cX9_addRule 91 = .ok (.iload_n 3, 1) := by decide +kernel
theorem dX9_addRule_92 : decode cX9_addRule 92 = .ok (.iload 4, 2) := by decide +kernel
theorem dX9_addRule_94 : decode cX9_addRule 94 = .ok (.iload 5, 2) := by decide +kernel
theorem dX9_addRule_96 : decode cX9_addRule 96 = .ok (.invokevirtual 122, 3) := by decide +kernel
theorem dX9_addRule_99 : decode cX9_addRule 99 = .ok (.aload_n 0, 1) := by decide +kernel
theorem dX9_addRule_100 : decode cX9_addRule 100 = .ok (.getfield 12, 3) := by decide +kernel
theorem dX9_addRule_103 : decode cX9_addRule 103 = .ok (.getfield 93, 3) := by decide +kernel
theorem dX9_addRule_106 : decode cX9_addRule 106 = .ok (.iconst 1, 1) := by decide +kernel
theorem dX9_addRule_107 : decode cX9_addRule 107 = .ok (.isub, 1) := by decide +kernel
theorem dX9_addRule_108 : decode cX9_addRule 108 = .ok (.ireturn, 1) := by decide +kernel
theorem dX9_removeRule_0 : decode cX9_removeRule 0 = .ok (.aload_n 0, 1) := by decide +kernel
theorem dX9_removeRule_1 : decode cX9_removeRule 1 = .ok (.iload_n 1, 1) := by decide +kernel
theorem dX9_removeRule_2 : decode cX9_removeRule 2 = .ok (.invokevirtual 126, 3) := by decide +kernel
theorem dX9_removeRule_5 : decode cX9_removeRule 5 = .ok (.ifCond .ne 5, 3) := by decide +kernel
theorem dX9_removeRule_8 : decode cX9_removeRule 8 = .ok (.iconst (-1), 1) := by decide +kernel
theorem dX9_removeRule_9 : decode cX9_removeRule 9 = .ok (.ireturn, 1) := by decide +kernel
theorem dX9_removeRule_10 : decode cX9_removeRule 10 = .ok (.aload_n 0, 1) := by decide +kernel
theorem dX9_removeRule_11 : decode cX9_removeRule 11 = .ok (.invokevirtual 97, 3) := by decide +kernel
theorem dX9_removeRule_14 : decode cX9_removeRule 14 = .ok (.aload_n 0, 1) := by decide +kernel
theorem dX9_removeRule_15 : decode cX9_removeRule 15 = .ok (.getfield 12, 3) := by decide +kernel
theorem dX9_removeRule_18 : decode cX9_removeRule 18 = .ok (.iload_n 1, 1) := by decide +kernel
theorem dX9_removeRule_19 : decode cX9_removeRule 19 = .ok (.invokevirtual 129, 3) := by decide +kernel
theorem dX9_removeRule_22 : decode cX9_removeRule 22 = .ok (.aload_n 0, 1) := by decide +kernel
theorem dX9_removeRule_23 : decode cX9_removeRule 23 = .ok (.getfield 12, 3) := by decide +kernel
theorem dX9_removeRule_26 : decode cX9_removeRule 26 = .ok (.getfield 93, 3) := by decide +kernel
theorem dX9_removeRule_29 : decode cX9_removeRule 29 = .ok (.ireturn, 1) := by decide +kernel
theorem dX9_setWeight_0 : decode cX9_setWeight 0 = .ok (.aload_n 0, 1) := by decide +kernel
theorem dX9_setWeight_1 : decode cX9_setWeight 1 = .ok (.iload_n 1, 1) := by decide +kernel
theorem dX9_setWeight_2 : decode cX9_setWeight 2 = .ok (.invokevirtual 126, 3) := by decide +kernel
theorem dX9_setWeight_5 : decode cX9_setWeight 5 = .ok (.ifCond .ne 5, 3) := by decide +kernel
theorem dX9_setWeight_8 : decode cX9_setWeight 8 = .ok (.iconst (-1), 1) := by decide +kernel
theorem dX9_setWeight_9 : decode cX9_setWeight 9 = .ok (.ireturn, 1) := by decide +kernel
theorem dX9_setWeight_10 : decode cX9_setWeight 10 = .ok (.iload_n 2, 1) := by decide +kernel
theorem dX9_setWeight_11 : decode cX9_setWeight 11 = .ok (.invokestatic 115, 3) := by decide +kernel
theorem dX9_setWeight_14 : decode cX9_setWeight 14 = .ok (.ifCond .ne 6, 3) := by decide +kernel
theorem dX9_setWeight_17 : decode cX9_setWeight 17 = .ok (.bipush (-2), 2) := by decide +kernel
theorem dX9_setWeight_19 : decode cX9_setWeight 19 = .ok (.ireturn, 1) := by decide +kernel
theorem dX9_setWeight_20 : decode cX9_setWeight 20 = .ok (.aload_n 0, 1) := by decide +kernel
theorem dX9_setWeight_21 : decode cX9_setWeight 21 = .ok (.getfield 12, 3) := by decide +kernel
theorem dX9_setWeight_24 : decode cX9_setWeight 24 = .ok (.iload_n 1, 1) := by decide +kernel
theorem dX9_setWeight_25 : decode cX9_setWeight 25 = .ok (.iconst 4, 1) := by decide +kernel
theorem dX9_setWeight_26 : decode cX9_setWeight 26 = .ok (.invokevirtual 133, 3) := by decide +kernel
theorem dX9_setWeight_29 : decode cX9_setWeight 29 = .ok (.istore_n 3, 1) := by decide +kernel
theorem dX9_setWeight_30 : decode cX9_setWeight 30 = .ok (.aload_n 0, 1) := by decide +kernel
theorem dX9_setWeight_31 : decode cX9_setWeight 31 = .ok (.invokevirtual 97, 3) := by decide +kernel
theorem dX9_setWeight_34 : decode cX9_setWeight 34 = .ok (.aload_n 0, 1) := by decide +kernel
theorem dX9_setWeight_35 : decode cX9_setWeight 35 = .ok (.getfield 12, 3) := by decide +kernel
theorem dX9_setWeight_38 : decode cX9_setWeight 38 = .ok (.iload_n 1, 1) := by decide +kernel
theorem dX9_setWeight_39 : decode cX9_setWeight 39 = .ok (.iload_n 2, 1) := by decide +kernel
theorem dX9_setWeight_40 : decode cX9_setWeight 40 = .ok (.invokevirtual 137, 3) := by decide +kernel
theorem dX9_setWeight_43 : decode cX9_setWeight 43 = .ok (.iload_n 3, 1) := by decide +kernel
theorem dX9_setWeight_44 : decode cX9_setWeight 44 = .ok (.ireturn, 1) := by decide +kernel
theorem dX9_setStart_0 : decode cX9_setStart 0 = .ok (.aload_n 0, 1) := by decide +kernel
theorem dX9_setStart_1 : decode cX9_setStart 1 = .ok (.iload_n 1, 1) := by decide +kernel
theorem dX9_setStart_2 : decode cX9_setStart 2 = .ok (.invokevirtual 104, 3) := by decide +kernel
theorem dX9_setStart_5 : decode cX9_setStart 5 = .ok (.ifCond .eq 13, 3) := by decide +kernel
theorem dX9_setStart_8 : decode cX9_setStart 8 = .ok (.aload_n 0, 1) := by decide +kernel
theorem dX9_setStart_9 : decode cX9_setStart 9 = .ok (.iload_n 2, 1) := by decide +kernel
theorem dX9_setStart_10 : decode cX9_setStart 10 = .ok (.iconst 1, 1) := by decide +kernel
theorem dX9_setStart_11 : decode cX9_setStart 11 = .ok (.iconst 4, 1) := by decide +kernel
theorem dX9_setStart_12 : decode cX9_setStart 12 = .ok (.invokevirtual 111, 3) := by decide +kernel
theorem dX9_setStart_15 : decode cX9_setStart 15 = .ok (.ifCond .ne 5, 3) := by decide +kernel
theorem dX9_setStart_18 : decode cX9_setStart 18 = .ok (.iconst (-1), 1) := by decide +kernel
theorem dX9_setStart_19 : decode cX9_setStart 19 = .ok (.ireturn, 1) := by decide +kernel
theorem dX9_setStart_20 : decode cX9_setStart 20 = .ok (.aload_n 0, 1) := by decide +kernel
theorem dX9_setStart_21 : decode cX9_setStart 21 = .ok (.getfield 12, 3) := by decide +kernel
theorem dX9_setStart_24 : decode cX9_setStart 24 = .ok (.getfield 140, 3) := by decide +kernel
theorem dX9_setStart_27 : decode cX9_setStart 27 = .ok (.invokestatic 143, 3) := by decide +kernel
theorem dX9_setStart_30 : decode cX9_setStart 30 = .ok (.istore_n 3, 1) := by decide +kernel
theorem dX9_setStart_31 : decode cX9_setStart 31 = .ok (.aload_n 0, 1) := by decide +kernel
theorem dX9_setStart_32 : decode cX9_setStart 32 = .ok (.invokevirtual 97, 3) := by decide +kernel
theorem dX9_setStart_35 : decode cX9_setStart 35 = .ok (.aload_n 0, 1) := by decide +kernel
theorem dX9_setStart_36 : decode cX9_setStart 36 = .ok (.getfield 12, 3) := by decide +kernel
theorem dX9_setStart_39 : decode cX9_setStart 39 = .ok (.iload_n 1, 1) := by decide +kernel
theorem dX9_setStart_40 : decode cX9_setStart 40 = .ok (.putfield 147, 3) := by decide +kernel
theorem dX9_setStart_43 : decode cX9_setStart 43 = .ok (.aload_n 0, 1) := by decide +kernel
theorem dX9_setStart_44 : decode cX9_setStart 44 = .ok (.getfield 12, 3) := by decide +kernel
theorem dX9_setStart_47 : decode cX9_setStart 47 = .ok (.iload_n 2, 1) := by decide +kernel
theorem dX9_setStart_48 : decode cX9_setStart 48 = .ok (.putfield 140, 3) := by decide +kernel
theorem dX9_setStart_51 : decode cX9_setStart 51 = .ok (.iload_n 3, 1) := by decide +kernel
theorem dX9_setStart_52 : decode cX9_setStart 52 = .ok (.ireturn, 1) := by decide +kernel
theorem dX9_undo_0 : decode cX9_undo 0 = .ok (.aload_n 0, 1) := by decide +kernel
theorem dX9_undo_1 : decode cX9_undo 1 = .ok (.getfield 22, 3) := by decide +kernel
theorem dX9_undo_4 : decode cX9_undo 4 = .ok (.getfield 150, 3) := by decide +kernel
theorem dX9_undo_7 : decode cX9_undo 7 = .ok (.ifCond .ne 6, 3) := by decide +kernel
theorem dX9_undo_10 : decode cX9_undo 10 = .ok (.bipush (-5), 2) := by decide +kernel
theorem dX9_undo_12 : decode cX9_undo 12 = .ok (.ireturn, 1) := by decide +kernel
theorem dX9_undo_13 : decode cX9_undo 13 = .ok (.aload_n 0, 1) := by decide +kernel
theorem dX9_undo_14 : decode cX9_undo 14 = .ok (.getfield 22, 3) := by decide +kernel
theorem dX9_undo_17 : decode cX9_undo 17 = .ok (.aload_n 0, 1) := by decide +kernel
theorem dX9_undo_18 : decode cX9_undo 18 = .ok (.getfield 12, 3) := by decide +kernel
theorem dX9_undo_21 : decode cX9_undo 21 = .ok (.invokevirtual 153, 3) := by decide +kernel
theorem dX9_undo_24 : decode cX9_undo 24 = .ok (.aload_n 0, 1) := by decide +kernel
theorem dX9_undo_25 : decode cX9_undo 25 = .ok (.invokevirtual 157, 3) := by decide +kernel
theorem dX9_undo_28 : decode cX9_undo 28 = .ok (.aload_n 0, 1) := by decide +kernel
theorem dX9_undo_29 : decode cX9_undo 29 = .ok (.getfield 22, 3) := by decide +kernel
theorem dX9_undo_32 : decode cX9_undo 32 = .ok (.getfield 150, 3) := by decide +kernel
theorem dX9_undo_35 : decode cX9_undo 35 = .ok (.ireturn, 1) := by decide +kernel
theorem dX9_told_0 : decode cX9_told 0 = .ok (.iload_n 1, 1) := by decide +kernel
theorem dX9_told_1 : decode cX9_told 1 = .ok (.tableswitch 114 0 7 #[47, 55, 63, 71, 79, 87, 96, 105], 47) := by decide +kernel
theorem dX9_told_48 : decode cX9_told 48 = .ok (.aload_n 0, 1) := by decide +kernel
theorem dX9_told_49 : decode cX9_told 49 = .ok (.getfield 12, 3) := by decide +kernel
theorem dX9_told_52 : decode cX9_told 52 = .ok (.getfield 160, 3) := by decide +kernel
theorem dX9_told_55 : decode cX9_told 55 = .ok (.ireturn, 1) := by decide +kernel
theorem dX9_told_56 : decode cX9_told 56 = .ok (.aload_n 0, 1) := by decide +kernel
theorem dX9_told_57 : decode cX9_told 57 = .ok (.getfield 12, 3) := by decide +kernel
theorem dX9_told_60 : decode cX9_told 60 = .ok (.getfield 163, 3) := by decide +kernel
theorem dX9_told_63 : decode cX9_told 63 = .ok (.ireturn, 1) := by decide +kernel
theorem dX9_told_64 : decode cX9_told 64 = .ok (.aload_n 0, 1) := by decide +kernel
theorem dX9_told_65 : decode cX9_told 65 = .ok (.getfield 12, 3) := by decide +kernel
theorem dX9_told_68 : decode cX9_told 68 = .ok (.getfield 93, 3) := by decide +kernel
theorem dX9_told_71 : decode cX9_told 71 = .ok (.ireturn, 1) := by decide +kernel
theorem dX9_told_72 : decode cX9_told 72 = .ok (.aload_n 0, 1) := by decide +kernel
theorem dX9_told_73 : decode cX9_told 73 = .ok (.getfield 12, 3) := by decide +kernel
theorem dX9_told_76 : decode cX9_told 76 = .ok (.getfield 147, 3) := by decide +kernel
theorem dX9_told_79 : decode cX9_told 79 = .ok (.ireturn, 1) := by decide +kernel
theorem dX9_told_80 : decode cX9_told 80 = .ok (.aload_n 0, 1) := by decide +kernel
theorem dX9_told_81 : decode cX9_told 81 = .ok (.getfield 12, 3) := by decide +kernel
theorem dX9_told_84 : decode cX9_told 84 = .ok (.getfield 140, 3) := by decide +kernel
theorem dX9_told_87 : decode cX9_told 87 = .ok (.ireturn, 1) := by decide +kernel
theorem dX9_told_88 : decode cX9_told 88 = .ok (.aload_n 0, 1) := by decide +kernel
theorem dX9_told_89 : decode cX9_told 89 = .ok (.getfield 12, 3) := by decide +kernel
theorem dX9_told_92 : decode cX9_told 92 = .ok (.iconst 0, 1) := by decide +kernel
theorem dX9_told_93 : decode cX9_told 93 = .ok (.invokevirtual 166, 3) := by decide +kernel
theorem dX9_told_96 : decode cX9_told 96 = .ok (.ireturn, 1) := by decide +kernel
theorem dX9_told_97 : decode cX9_told 97 = .ok (.aload_n 0, 1) := by decide +kernel
theorem dX9_told_98 : decode cX9_told 98 = .ok (.getfield 12, 3) := by decide +kernel
theorem dX9_told_101 : decode cX9_told 101 = .ok (.iconst 1, 1) := by decide +kernel
theorem dX9_told_102 : decode cX9_told 102 = .ok (.invokevirtual 166, 3) := by decide +kernel
theorem dX9_told_105 : decode cX9_told 105 = .ok (.ireturn, 1) := by decide +kernel
theorem dX9_told_106 : decode cX9_told 106 = .ok (.aload_n 0, 1) := by decide +kernel
theorem dX9_told_107 : decode cX9_told 107 = .ok (.getfield 12, 3) := by decide +kernel
theorem dX9_told_110 : decode cX9_told 110 = .ok (.iconst 2, 1) := by decide +kernel
theorem dX9_told_111 : decode cX9_told 111 = .ok (.invokevirtual 166, 3) := by decide +kernel
theorem dX9_told_114 : decode cX9_told 114 = .ok (.ireturn, 1) := by decide +kernel
theorem dX9_told_115 : decode cX9_told 115 = .ok (.bipush (-2), 2) := by decide +kernel
theorem dX9_told_117 : decode cX9_told 117 = .ok (.ireturn, 1) := by decide +kernel
theorem dX9_rule_0 : decode cX9_rule 0 = .ok (.aload_n 0, 1) := by decide +kernel
theorem dX9_rule_1 : decode cX9_rule 1 = .ok (.iload_n 1, 1) := by decide +kernel
theorem dX9_rule_2 : decode cX9_rule 2 = .ok (.invokevirtual 126, 3) := by decide +kernel
theorem dX9_rule_5 : decode cX9_rule 5 = .ok (.ifCond .ne 5, 3) := by decide +kernel
theorem dX9_rule_8 : decode cX9_rule 8 = .ok (.iconst (-1), 1) := by decide +kernel
theorem dX9_rule_9 : decode cX9_rule 9 = .ok (.ireturn, 1) := by decide +kernel
theorem dX9_rule_10 : decode cX9_rule 10 = .ok (.iload_n 2, 1) := by decide +kernel
theorem dX9_rule_11 : decode cX9_rule 11 = .ok (.ifCond .lt 8, 3) := by decide +kernel
theorem dX9_rule_14 : decode cX9_rule 14 = .ok (.iload_n 2, 1) := by decide +kernel
theorem dX9_rule_15 : decode cX9_rule 15 = .ok (.iconst 5, 1) := by decide +kernel
theorem dX9_rule_16 : decode cX9_rule 16 = .ok (.if_icmp .lt 6, 3) := by decide +kernel
theorem dX9_rule_19 : decode cX9_rule 19 = .ok (.bipush (-2), 2) := by decide +kernel
theorem dX9_rule_21 : decode cX9_rule 21 = .ok (.ireturn, 1) := by decide +kernel
theorem dX9_rule_22 : decode cX9_rule 22 = .ok (.aload_n 0, 1) := by decide +kernel
theorem dX9_rule_23 : decode cX9_rule 23 = .ok (.getfield 12, 3) := by decide +kernel
theorem dX9_rule_26 : decode cX9_rule 26 = .ok (.iload_n 1, 1) := by decide +kernel
theorem dX9_rule_27 : decode cX9_rule 27 = .ok (.iload_n 2, 1) := by decide +kernel
theorem dX9_rule_28 : decode cX9_rule 28 = .ok (.invokevirtual 133, 3) := by decide +kernel
theorem dX9_rule_31 : decode cX9_rule 31 = .ok (.ireturn, 1) := by decide +kernel
theorem dX9_distance_0 : decode cX9_distance 0 = .ok (.aload_n 0, 1) := by decide +kernel
theorem dX9_distance_1 : decode cX9_distance 1 = .ok (.iload_n 1, 1) := by decide +kernel
theorem dX9_distance_2 : decode cX9_distance 2 = .ok (.iload_n 2, 1) := by decide +kernel
theorem dX9_distance_3 : decode cX9_distance 3 = .ok (.invokevirtual 169, 3) := by decide +kernel
theorem dX9_distance_6 : decode cX9_distance 6 = .ok (.ifCond .ne 5, 3) := by decide +kernel
theorem dX9_distance_9 : decode cX9_distance 9 = .ok (.iconst (-1), 1) := by decide +kernel
theorem dX9_distance_10 : decode cX9_distance 10 = .ok (.ireturn, 1) := by decide +kernel
theorem dX9_distance_11 : decode cX9_distance 11 = .ok (.aload_n 0, 1) := by decide +kernel
theorem dX9_distance_12 : decode cX9_distance 12 = .ok (.iload_n 1, 1) := by decide +kernel
theorem dX9_distance_13 : decode cX9_distance 13 = .ok (.invokevirtual 173, 3) := by decide +kernel
theorem dX9_distance_16 : decode cX9_distance 16 = .ok (.invokestatic 177, 3) := by decide +kernel
theorem dX9_distance_19 : decode cX9_distance 19 = .ok (.ireturn, 1) := by decide +kernel
theorem dX9_steps_0 : decode cX9_steps 0 = .ok (.aload_n 0, 1) := by decide +kernel
theorem dX9_steps_1 : decode cX9_steps 1 = .ok (.iload_n 1, 1) := by decide +kernel
theorem dX9_steps_2 : decode cX9_steps 2 = .ok (.iload_n 2, 1) := by decide +kernel
theorem dX9_steps_3 : decode cX9_steps 3 = .ok (.invokevirtual 169, 3) := by decide +kernel
theorem dX9_steps_6 : decode cX9_steps 6 = .ok (.ifCond .ne 5, 3) := by decide +kernel
theorem dX9_steps_9 : decode cX9_steps 9 = .ok (.iconst (-1), 1) := by decide +kernel
theorem dX9_steps_10 : decode cX9_steps 10 = .ok (.ireturn, 1) := by decide +kernel
theorem dX9_steps_11 : decode cX9_steps 11 = .ok (.aload_n 0, 1) := by decide +kernel
theorem dX9_steps_12 : decode cX9_steps 12 = .ok (.iload_n 1, 1) := by decide +kernel
theorem dX9_steps_13 : decode cX9_steps 13 = .ok (.invokevirtual 173, 3) := by decide +kernel
theorem dX9_steps_16 : decode cX9_steps 16 = .ok (.lstore_n 3, 1) := by decide +kernel
theorem dX9_steps_17 : decode cX9_steps 17 = .ok (.lload_n 3, 1) := by decide +kernel
theorem dX9_steps_18 : decode cX9_steps 18 = .ok (.ldc2_w 181, 3) := by decide +kernel
theorem dX9_steps_21 : decode cX9_steps 21 = .ok (.lcmp, 1) := by decide +kernel
theorem dX9_steps_22 : decode cX9_steps 22 = .ok (.ifCond .lt 8, 3) := by decide +kernel
theorem dX9_steps_25 : decode cX9_steps 25 = .ok (.bipush (-6), 2) := by decide +kernel
theorem dX9_steps_27 : decode cX9_steps 27 = .ok (.goto 7, 3) := by decide +kernel
theorem dX9_steps_30 : decode cX9_steps 30 = .ok (.lload_n 3, 1) := by decide +kernel
theorem dX9_steps_31 : decode cX9_steps 31 = .ok (.invokestatic 183, 3) := by decide +kernel
theorem dX9_steps_34 : decode cX9_steps 34 = .ok (.ireturn, 1) := by decide +kernel
theorem dX9_witness_0 : decode cX9_witness 0 = .ok (.aload_n 0, 1) := by decide +kernel
theorem dX9_witness_1 : decode cX9_witness 1 = .ok (.iload_n 1, 1) := by decide +kernel
theorem dX9_witness_2 : decode cX9_witness 2 = .ok (.iload_n 2, 1) := by decide +kernel
theorem dX9_witness_3 : decode cX9_witness 3 = .ok (.invokevirtual 169, 3) := by decide +kernel
theorem dX9_witness_6 : decode cX9_witness 6 = .ok (.ifCond .ne 5, 3) := by decide +kernel
theorem dX9_witness_9 : decode cX9_witness 9 = .ok (.iconst (-1), 1) := by decide +kernel
theorem dX9_witness_10 : decode cX9_witness 10 = .ok (.ireturn, 1) := by decide +kernel
theorem dX9_witness_11 : decode cX9_witness 11 = .ok (.iload_n 3, 1) := by decide +kernel
theorem dX9_witness_12 : decode cX9_witness 12 = .ok (.ifCond .lt 21, 3) := by decide +kernel
theorem dX9_witness_15 : decode cX9_witness 15 = .ok (.iload_n 3, 1) := by decide +kernel
theorem dX9_witness_16 : decode cX9_witness 16 = .ok (.sipush 301, 3) := by decide +kernel
theorem dX9_witness_19 : decode cX9_witness 19 = .ok (.if_icmp .ge 14, 3) := by decide +kernel
theorem dX9_witness_22 : decode cX9_witness 22 = .ok (.iload 4, 2) := by decide +kernel
theorem dX9_witness_24 : decode cX9_witness 24 = .ok (.ifCond .lt 9, 3) := by decide +kernel
theorem dX9_witness_27 : decode cX9_witness 27 = .ok (.iload 4, 2) := by decide +kernel
theorem dX9_witness_29 : decode cX9_witness 29 = .ok (.iconst 3, 1) := by decide +kernel
theorem dX9_witness_30 : decode cX9_witness 30 = .ok (.if_icmp .le 6, 3) := by decide +kernel
theorem dX9_witness_33 : decode cX9_witness 33 = .ok (.bipush (-2), 2) := by decide +kernel
theorem dX9_witness_35 : decode cX9_witness 35 = .ok (.ireturn, 1) := by decide +kernel
theorem dX9_witness_36 : decode cX9_witness 36 = .ok (.aload_n 0, 1) := by decide +kernel
theorem dX9_witness_37 : decode cX9_witness 37 = .ok (.iload_n 1, 1) := by decide +kernel
theorem dX9_witness_38 : decode cX9_witness 38 = .ok (.invokevirtual 173, 3) := by decide +kernel
theorem dX9_witness_41 : decode cX9_witness 41 = .ok (.ldc2_w 181, 3) := by decide +kernel
theorem dX9_witness_44 : decode cX9_witness 44 = .ok (.lcmp, 1) := by decide +kernel
theorem dX9_witness_45 : decode cX9_witness 45 = .ok (.ifCond .lt 6, 3) := by decide +kernel
theorem dX9_witness_48 : decode cX9_witness 48 = .ok (.bipush (-6), 2) := by decide +kernel
theorem dX9_witness_50 : decode cX9_witness 50 = .ok (.ireturn, 1) := by decide +kernel
theorem dX9_witness_51 : decode cX9_witness 51 = .ok (.aload_n 0, 1) := by decide +kernel
theorem dX9_witness_52 : decode cX9_witness 52 = .ok (.getfield 80, 3) := by decide +kernel
theorem dX9_witness_55 : decode cX9_witness 55 = .ok (.aload_n 0, 1) := by decide +kernel
theorem dX9_witness_56 : decode cX9_witness 56 = .ok (.getfield 67, 3) := by decide +kernel
theorem dX9_witness_59 : decode cX9_witness 59 = .ok (.aload_n 0, 1) := by decide +kernel
theorem dX9_witness_60 : decode cX9_witness 60 = .ok (.getfield 46, 3) := by decide +kernel
theorem dX9_witness_63 : decode cX9_witness 63 = .ok (.invokevirtual 186, 3) := by decide +kernel
theorem dX9_witness_66 : decode cX9_witness 66 = .ok (.iload_n 3, 1) := by decide +kernel
theorem dX9_witness_67 : decode cX9_witness 67 = .ok (.aload_n 0, 1) := by decide +kernel
theorem dX9_witness_68 : decode cX9_witness 68 = .ok (.getfield 80, 3) := by decide +kernel
theorem dX9_witness_71 : decode cX9_witness 71 = .ok (.getfield 190, 3) := by decide +kernel
theorem dX9_witness_74 : decode cX9_witness 74 = .ok (.if_icmp .ge 16, 3) := by decide +kernel
theorem dX9_witness_77 : decode cX9_witness 77 = .ok (.aload_n 0, 1) := by decide +kernel
theorem dX9_witness_78 : decode cX9_witness 78 = .ok (.getfield 80, 3) := by decide +kernel
theorem dX9_witness_81 : decode cX9_witness 81 = .ok (.iload_n 3, 1) := by decide +kernel
theorem dX9_witness_82 : decode cX9_witness 82 = .ok (.iload 4, 2) := by decide +kernel
theorem dX9_witness_84 : decode cX9_witness 84 = .ok (.invokevirtual 193, 3) := by decide +kernel
theorem dX9_witness_87 : decode cX9_witness 87 = .ok (.goto 5, 3) := by decide +kernel
theorem dX9_witness_90 : decode cX9_witness 90 = .ok (.bipush (-6), 2) := by decide +kernel
theorem dX9_witness_92 : decode cX9_witness 92 = .ok (.ireturn, 1) := by decide +kernel
theorem dX9_mean_0 : decode cX9_mean 0 = .ok (.aload_n 0, 1) := by decide +kernel
theorem dX9_mean_1 : decode cX9_mean 1 = .ok (.iload_n 1, 1) := by decide +kernel
theorem dX9_mean_2 : decode cX9_mean 2 = .ok (.iload_n 2, 1) := by decide +kernel
theorem dX9_mean_3 : decode cX9_mean 3 = .ok (.invokevirtual 169, 3) := by decide +kernel
theorem dX9_mean_6 : decode cX9_mean 6 = .ok (.ifCond .ne 6, 3) := by decide +kernel
theorem dX9_mean_9 : decode cX9_mean 9 = .ok (.ldc 194, 2) := by decide +kernel
theorem dX9_mean_11 : decode cX9_mean 11 = .ok (.freturn, 1) := by decide +kernel
theorem dX9_mean_12 : decode cX9_mean 12 = .ok (.aload_n 0, 1) := by decide +kernel
theorem dX9_mean_13 : decode cX9_mean 13 = .ok (.iload_n 1, 1) := by decide +kernel
theorem dX9_mean_14 : decode cX9_mean 14 = .ok (.invokevirtual 173, 3) := by decide +kernel
theorem dX9_mean_17 : decode cX9_mean 17 = .ok (.lstore_n 3, 1) := by decide +kernel
theorem dX9_mean_18 : decode cX9_mean 18 = .ok (.lload_n 3, 1) := by decide +kernel
theorem dX9_mean_19 : decode cX9_mean 19 = .ok (.ldc2_w 181, 3) := by decide +kernel
theorem dX9_mean_22 : decode cX9_mean 22 = .ok (.lcmp, 1) := by decide +kernel
theorem dX9_mean_23 : decode cX9_mean 23 = .ok (.ifCond .lt 6, 3) := by decide +kernel
theorem dX9_mean_26 : decode cX9_mean 26 = .ok (.ldc 195, 2) := by decide +kernel
theorem dX9_mean_28 : decode cX9_mean 28 = .ok (.freturn, 1) := by decide +kernel
theorem dX9_mean_29 : decode cX9_mean 29 = .ok (.lload_n 3, 1) := by decide +kernel
theorem dX9_mean_30 : decode cX9_mean 30 = .ok (.invokestatic 183, 3) := by decide +kernel
theorem dX9_mean_33 : decode cX9_mean 33 = .ok (.istore 5, 2) := by decide +kernel
theorem dX9_mean_35 : decode cX9_mean 35 = .ok (.iload 5, 2) := by decide +kernel
theorem dX9_mean_37 : decode cX9_mean 37 = .ok (.ifCond .ne 7, 3) := by decide +kernel
theorem dX9_mean_40 : decode cX9_mean 40 = .ok (.fconst 0, 1) := by decide +kernel
theorem dX9_mean_41 : decode cX9_mean 41 = .ok (.goto 12, 3) := by decide +kernel
theorem dX9_mean_44 : decode cX9_mean 44 = .ok (.lload_n 3, 1) := by decide +kernel
theorem dX9_mean_45 : decode cX9_mean 45 = .ok (.invokestatic 196, 3) := by decide +kernel
theorem dX9_mean_48 : decode cX9_mean 48 = .ok (.i2f, 1) := by decide +kernel
theorem dX9_mean_49 : decode cX9_mean 49 = .ok (.iload 5, 2) := by decide +kernel
theorem dX9_mean_51 : decode cX9_mean 51 = .ok (.i2f, 1) := by decide +kernel
theorem dX9_mean_52 : decode cX9_mean 52 = .ok (.fdiv, 1) := by decide +kernel
theorem dX9_mean_53 : decode cX9_mean 53 = .ok (.freturn, 1) := by decide +kernel
theorem dX9_headDistance_0 : decode cX9_headDistance 0 = .ok (.aload_n 0, 1) := by decide +kernel
theorem dX9_headDistance_1 : decode cX9_headDistance 1 = .ok (.iload_n 1, 1) := by decide +kernel
theorem dX9_headDistance_2 : decode cX9_headDistance 2 = .ok (.invokevirtual 104, 3) := by decide +kernel
theorem dX9_headDistance_5 : decode cX9_headDistance 5 = .ok (.ifCond .eq 11, 3) := by decide +kernel
theorem dX9_headDistance_8 : decode cX9_headDistance 8 = .ok (.aload_n 0, 1) := by decide +kernel
theorem dX9_headDistance_9 : decode cX9_headDistance 9 = .ok (.iload_n 2, 1) := by decide +kernel
theorem dX9_headDistance_10 : decode cX9_headDistance 10 = .ok (.invokevirtual 108, 3) := by decide +kernel
theorem dX9_headDistance_13 : decode cX9_headDistance 13 = .ok (.ifCond .ne 5, 3) := by decide +kernel
theorem dX9_headDistance_16 : decode cX9_headDistance 16 = .ok (.iconst (-1), 1) := by decide +kernel
theorem dX9_headDistance_17 : decode cX9_headDistance 17 = .ok (.ireturn, 1) := by decide +kernel
theorem dX9_headDistance_18 : decode cX9_headDistance 18 = .ok (.aload_n 0, 1) := by decide +kernel
theorem dX9_headDistance_19 : decode cX9_headDistance 19 = .ok (.invokevirtual 199, 3) := by decide +kernel
theorem dX9_headDistance_22 : decode cX9_headDistance 22 = .ok (.aload_n 0, 1) := by decide +kernel
theorem dX9_headDistance_23 : decode cX9_headDistance 23 = .ok (.getfield 89, 3) := by decide +kernel
theorem dX9_headDistance_26 : decode cX9_headDistance 26 = .ok (.iload_n 1, 1) := by decide +kernel
theorem dX9_headDistance_27 : decode cX9_headDistance 27 = .ok (.iload_n 2, 1) := by decide +kernel
theorem dX9_headDistance_28 : decode cX9_headDistance 28 = .ok (.invokestatic 202, 3) := by decide +kernel
theorem dX9_headDistance_31 : decode cX9_headDistance 31 = .ok (.invokevirtual 205, 3) := by decide +kernel
theorem dX9_headDistance_34 : decode cX9_headDistance 34 = .ok (.invokestatic 177, 3) := by decide +kernel
theorem dX9_headDistance_37 : decode cX9_headDistance 37 = .ok (.ireturn, 1) := by decide +kernel
theorem dX9_nearestStack_0 : decode cX9_nearestStack 0 = .ok (.aload_n 0, 1) := by decide +kernel
theorem dX9_nearestStack_1 : decode cX9_nearestStack 1 = .ok (.iload_n 1, 1) := by decide +kernel
theorem dX9_nearestStack_2 : decode cX9_nearestStack 2 = .ok (.invokevirtual 104, 3) := by decide +kernel
theorem dX9_nearestStack_5 : decode cX9_nearestStack 5 = .ok (.ifCond .eq 11, 3) := by decide +kernel
theorem dX9_nearestStack_8 : decode cX9_nearestStack 8 = .ok (.aload_n 0, 1) := by decide +kernel
theorem dX9_nearestStack_9 : decode cX9_nearestStack 9 = .ok (.iload_n 2, 1) := by decide +kernel
theorem dX9_nearestStack_10 : decode cX9_nearestStack 10 = .ok (.invokevirtual 108, 3) := by decide +kernel
theorem dX9_nearestStack_13 : decode cX9_nearestStack 13 = .ok (.ifCond .ne 5, 3) := by decide +kernel
theorem dX9_nearestStack_16 : decode cX9_nearestStack 16 = .ok (.iconst (-1), 1) := by decide +kernel
theorem dX9_nearestStack_17 : decode cX9_nearestStack 17 = .ok (.ireturn, 1) := by decide +kernel
theorem dX9_nearestStack_18 : decode cX9_nearestStack 18 = .ok (.aload_n 0, 1) := by decide +kernel
theorem dX9_nearestStack_19 : decode cX9_nearestStack 19 = .ok (.invokevirtual 199, 3) := by decide +kernel
theorem dX9_nearestStack_22 : decode cX9_nearestStack 22 = .ok (.aload_n 0, 1) := by decide +kernel
theorem dX9_nearestStack_23 : decode cX9_nearestStack 23 = .ok (.getfield 89, 3) := by decide +kernel
theorem dX9_nearestStack_26 : decode cX9_nearestStack 26 = .ok (.iload_n 1, 1) := by decide +kernel
theorem dX9_nearestStack_27 : decode cX9_nearestStack 27 = .ok (.iload_n 2, 1) := by decide +kernel
theorem dX9_nearestStack_28 : decode cX9_nearestStack 28 = .ok (.invokestatic 202, 3) := by decide +kernel
theorem dX9_nearestStack_31 : decode cX9_nearestStack 31 = .ok (.iload_n 2, 1) := by decide +kernel
theorem dX9_nearestStack_32 : decode cX9_nearestStack 32 = .ok (.invokevirtual 208, 3) := by decide +kernel
theorem dX9_nearestStack_35 : decode cX9_nearestStack 35 = .ok (.ireturn, 1) := by decide +kernel
theorem dX9_heads_0 : decode cX9_heads 0 = .ok (.aload_n 0, 1) := by decide +kernel
theorem dX9_heads_1 : decode cX9_heads 1 = .ok (.invokevirtual 199, 3) := by decide +kernel
theorem dX9_heads_4 : decode cX9_heads 4 = .ok (.iconst 0, 1) := by decide +kernel
theorem dX9_heads_5 : decode cX9_heads 5 = .ok (.istore_n 1, 1) := by decide +kernel
theorem dX9_heads_6 : decode cX9_heads 6 = .ok (.iconst 0, 1) := by decide +kernel
theorem dX9_heads_7 : decode cX9_heads 7 = .ok (.istore_n 2, 1) := by decide +kernel
theorem dX9_heads_8 : decode cX9_heads 8 = .ok (.iload_n 2, 1) := by decide +kernel
theorem dX9_heads_9 : decode cX9_heads 9 = .ok (.bipush 20, 2) := by decide +kernel
theorem dX9_heads_11 : decode cX9_heads 11 = .ok (.if_icmp .ge 27, 3) := by decide +kernel
theorem dX9_heads_14 : decode cX9_heads 14 = .ok (.aload_n 0, 1) := by decide +kernel
theorem dX9_heads_15 : decode cX9_heads 15 = .ok (.getfield 89, 3) := by decide +kernel
theorem dX9_heads_18 : decode cX9_heads 18 = .ok (.iload_n 2, 1) := by decide +kernel
theorem dX9_heads_19 : decode cX9_heads 19 = .ok (.invokevirtual 205, 3) := by decide +kernel
theorem dX9_heads_22 : decode cX9_heads 22 = .ok (.ldc2_w 181, 3) := by decide +kernel
theorem dX9_heads_25 : decode cX9_heads 25 = .ok (.lcmp, 1) := by decide +kernel
theorem dX9_heads_26 : decode cX9_heads 26 = .ok (.ifCond .ge 6, 3) := by decide +kernel
theorem dX9_heads_29 : decode cX9_heads 29 = .ok (.iinc 1 1, 3) := by decide +kernel
theorem dX9_heads_32 : decode cX9_heads 32 = .ok (.iinc 2 1, 3) := by decide +kernel
theorem dX9_heads_35 : decode cX9_heads 35 = .ok (.goto (-27), 3) := by decide +kernel
theorem dX9_heads_38 : decode cX9_heads 38 = .ok (.iload_n 1, 1) := by decide +kernel
theorem dX9_heads_39 : decode cX9_heads 39 = .ok (.ireturn, 1) := by decide +kernel
theorem dX9_price_0 : decode cX9_price 0 = .ok (.aload_n 0, 1) := by decide +kernel
theorem dX9_price_1 : decode cX9_price 1 = .ok (.iload_n 1, 1) := by decide +kernel
theorem dX9_price_2 : decode cX9_price 2 = .ok (.invokevirtual 104, 3) := by decide +kernel
theorem dX9_price_5 : decode cX9_price 5 = .ok (.ifCond .eq 19, 3) := by decide +kernel
theorem dX9_price_8 : decode cX9_price 8 = .ok (.aload_n 0, 1) := by decide +kernel
theorem dX9_price_9 : decode cX9_price 9 = .ok (.iload_n 2, 1) := by decide +kernel
theorem dX9_price_10 : decode cX9_price 10 = .ok (.invokevirtual 108, 3) := by decide +kernel
theorem dX9_price_13 : decode cX9_price 13 = .ok (.ifCond .eq 11, 3) := by decide +kernel
theorem dX9_price_16 : decode cX9_price 16 = .ok (.aload_n 0, 1) := by decide +kernel
theorem dX9_price_17 : decode cX9_price 17 = .ok (.iload_n 3, 1) := by decide +kernel
theorem dX9_price_18 : decode cX9_price 18 = .ok (.invokevirtual 104, 3) := by decide +kernel
theorem dX9_price_21 : decode cX9_price 21 = .ok (.ifCond .ne 5, 3) := by decide +kernel
theorem dX9_price_24 : decode cX9_price 24 = .ok (.iconst (-1), 1) := by decide +kernel
theorem dX9_price_25 : decode cX9_price 25 = .ok (.ireturn, 1) := by decide +kernel
theorem dX9_price_26 : decode cX9_price 26 = .ok (.aload_n 0, 1) := by decide +kernel
theorem dX9_price_27 : decode cX9_price 27 = .ok (.invokevirtual 211, 3) := by decide +kernel
theorem dX9_price_30 : decode cX9_price 30 = .ok (.aload_n 0, 1) := by decide +kernel
theorem dX9_price_31 : decode cX9_price 31 = .ok (.getfield 55, 3) := by decide +kernel
theorem dX9_price_34 : decode cX9_price 34 = .ok (.iload_n 1, 1) := by decide +kernel
theorem dX9_price_35 : decode cX9_price 35 = .ok (.iload_n 2, 1) := by decide +kernel
theorem dX9_price_36 : decode cX9_price 36 = .ok (.invokestatic 202, 3) := by decide +kernel
theorem dX9_price_39 : decode cX9_price 39 = .ok (.iload_n 3, 1) := by decide +kernel
theorem dX9_price_40 : decode cX9_price 40 = .ok (.invokevirtual 214, 3) := by decide +kernel
theorem dX9_price_43 : decode cX9_price 43 = .ok (.invokestatic 177, 3) := by decide +kernel
theorem dX9_price_46 : decode cX9_price 46 = .ok (.ireturn, 1) := by decide +kernel
theorem dX9_wordPrice_0 : decode cX9_wordPrice 0 = .ok (.aload_n 0, 1) := by decide +kernel
theorem dX9_wordPrice_1 : decode cX9_wordPrice 1 = .ok (.iload_n 1, 1) := by decide +kernel
theorem dX9_wordPrice_2 : decode cX9_wordPrice 2 = .ok (.invokevirtual 104, 3) := by decide +kernel
theorem dX9_wordPrice_5 : decode cX9_wordPrice 5 = .ok (.ifCond .eq 22, 3) := by decide +kernel
theorem dX9_wordPrice_8 : decode cX9_wordPrice 8 = .ok (.aload_n 0, 1) := by decide +kernel
theorem dX9_wordPrice_9 : decode cX9_wordPrice 9 = .ok (.iload_n 2, 1) := by decide +kernel
theorem dX9_wordPrice_10 : decode cX9_wordPrice 10 = .ok (.iconst 0, 1) := by decide +kernel
theorem dX9_wordPrice_11 : decode cX9_wordPrice 11 = .ok (.bipush 6, 2) := by decide +kernel
theorem dX9_wordPrice_13 : decode cX9_wordPrice 13 = .ok (.invokevirtual 111, 3) := by decide +kernel
theorem dX9_wordPrice_16 : decode cX9_wordPrice 16 = .ok (.ifCond .eq 11, 3) := by decide +kernel
theorem dX9_wordPrice_19 : decode cX9_wordPrice 19 = .ok (.aload_n 0, 1) := by decide +kernel
theorem dX9_wordPrice_20 : decode cX9_wordPrice 20 = .ok (.iload_n 3, 1) := by decide +kernel
theorem dX9_wordPrice_21 : decode cX9_wordPrice 21 = .ok (.invokevirtual 104, 3) := by decide +kernel
theorem dX9_wordPrice_24 : decode cX9_wordPrice 24 = .ok (.ifCond .ne 5, 3) := by decide +kernel
theorem dX9_wordPrice_27 : decode cX9_wordPrice 27 = .ok (.iconst (-1), 1) := by decide +kernel
theorem dX9_wordPrice_28 : decode cX9_wordPrice 28 = .ok (.ireturn, 1) := by decide +kernel
theorem dX9_wordPrice_29 : decode cX9_wordPrice 29 = .ok (.aload_n 0, 1) := by decide +kernel
theorem dX9_wordPrice_30 : decode cX9_wordPrice 30 = .ok (.invokevirtual 211, 3) := by decide +kernel
theorem dX9_wordPrice_33 : decode cX9_wordPrice 33 = .ok (.aload_n 0, 1) := by decide +kernel
theorem dX9_wordPrice_34 : decode cX9_wordPrice 34 = .ok (.getfield 71, 3) := by decide +kernel
theorem dX9_wordPrice_37 : decode cX9_wordPrice 37 = .ok (.iload_n 3, 1) := by decide +kernel
theorem dX9_wordPrice_38 : decode cX9_wordPrice 38 = .ok (.aload_n 0, 1) := by decide +kernel
theorem dX9_wordPrice_39 : decode cX9_wordPrice 39 = .ok (.getfield 40, 3) := by decide +kernel
theorem dX9_wordPrice_42 : decode cX9_wordPrice 42 = .ok (.invokevirtual 218, 3) := by decide +kernel
theorem dX9_wordPrice_45 : decode cX9_wordPrice 45 = .ok (.aload_n 0, 1) := by decide +kernel
theorem dX9_wordPrice_46 : decode cX9_wordPrice 46 = .ok (.getfield 71, 3) := by decide +kernel
theorem dX9_wordPrice_49 : decode cX9_wordPrice 49 = .ok (.iload_n 1, 1) := by decide +kernel
theorem dX9_wordPrice_50 : decode cX9_wordPrice 50 = .ok (.aload_n 0, 1) := by decide +kernel
theorem dX9_wordPrice_51 : decode cX9_wordPrice 51 = .ok (.getfield 36, 3) := by decide +kernel
theorem dX9_wordPrice_54 : decode cX9_wordPrice 54 = .ok (.invokevirtual 222, 3) := by decide +kernel
theorem dX9_wordPrice_57 : decode cX9_wordPrice 57 = .ok (.invokestatic 177, 3) := by decide +kernel
theorem dX9_wordPrice_60 : decode cX9_wordPrice 60 = .ok (.ireturn, 1) := by decide +kernel
theorem dX9_arcs_0 : decode cX9_arcs 0 = .ok (.aload_n 0, 1) := by decide +kernel
theorem dX9_arcs_1 : decode cX9_arcs 1 = .ok (.invokevirtual 199, 3) := by decide +kernel
theorem dX9_arcs_4 : decode cX9_arcs 4 = .ok (.aload_n 0, 1) := by decide +kernel
theorem dX9_arcs_5 : decode cX9_arcs 5 = .ok (.getfield 89, 3) := by decide +kernel
theorem dX9_arcs_8 : decode cX9_arcs 8 = .ok (.getfield 226, 3) := by decide +kernel
theorem dX9_arcs_11 : decode cX9_arcs 11 = .ok (.ireturn, 1) := by decide +kernel
theorem dX9_arc_0 : decode cX9_arc 0 = .ok (.iload_n 1, 1) := by decide +kernel
theorem dX9_arc_1 : decode cX9_arc 1 = .ok (.ifCond .lt 12, 3) := by decide +kernel
theorem dX9_arc_4 : decode cX9_arc 4 = .ok (.iload_n 2, 1) := by decide +kernel
theorem dX9_arc_5 : decode cX9_arc 5 = .ok (.ifCond .lt 8, 3) := by decide +kernel
theorem dX9_arc_8 : decode cX9_arc 8 = .ok (.iload_n 2, 1) := by decide +kernel
theorem dX9_arc_9 : decode cX9_arc 9 = .ok (.iconst 3, 1) := by decide +kernel
theorem dX9_arc_10 : decode cX9_arc 10 = .ok (.if_icmp .le 6, 3) := by decide +kernel
theorem dX9_arc_13 : decode cX9_arc 13 = .ok (.bipush (-2), 2) := by decide +kernel
theorem dX9_arc_15 : decode cX9_arc 15 = .ok (.ireturn, 1) := by decide +kernel
theorem dX9_arc_16 : decode cX9_arc 16 = .ok (.aload_n 0, 1) := by decide +kernel
theorem dX9_arc_17 : decode cX9_arc 17 = .ok (.invokevirtual 199, 3) := by decide +kernel
theorem dX9_arc_20 : decode cX9_arc 20 = .ok (.iload_n 1, 1) := by decide +kernel
theorem dX9_arc_21 : decode cX9_arc 21 = .ok (.aload_n 0, 1) := by decide +kernel
theorem dX9_arc_22 : decode cX9_arc 22 = .ok (.getfield 89, 3) := by decide +kernel
theorem dX9_arc_25 : decode cX9_arc 25 = .ok (.getfield 226, 3) := by decide +kernel
theorem dX9_arc_28 : decode cX9_arc 28 = .ok (.if_icmp .ge 15, 3) := by decide +kernel
theorem dX9_arc_31 : decode cX9_arc 31 = .ok (.aload_n 0, 1) := by decide +kernel
theorem dX9_arc_32 : decode cX9_arc 32 = .ok (.getfield 89, 3) := by decide +kernel
theorem dX9_arc_35 : decode cX9_arc 35 = .ok (.iload_n 1, 1) := by decide +kernel
theorem dX9_arc_36 : decode cX9_arc 36 = .ok (.iload_n 2, 1) := by decide +kernel
theorem dX9_arc_37 : decode cX9_arc 37 = .ok (.invokevirtual 227, 3) := by decide +kernel
theorem dX9_arc_40 : decode cX9_arc 40 = .ok (.goto 5, 3) := by decide +kernel
theorem dX9_arc_43 : decode cX9_arc 43 = .ok (.bipush (-6), 2) := by decide +kernel
theorem dX9_arc_45 : decode cX9_arc 45 = .ok (.ireturn, 1) := by decide +kernel
theorem dX9_arcWeight_0 : decode cX9_arcWeight 0 = .ok (.iload_n 1, 1) := by decide +kernel
theorem dX9_arcWeight_1 : decode cX9_arcWeight 1 = .ok (.invokestatic 228, 3) := by decide +kernel
theorem dX9_arcWeight_4 : decode cX9_arcWeight 4 = .ok (.istore 4, 2) := by decide +kernel
theorem dX9_arcWeight_6 : decode cX9_arcWeight 6 = .ok (.iload_n 3, 1) := by decide +kernel
theorem dX9_arcWeight_7 : decode cX9_arcWeight 7 = .ok (.invokestatic 228, 3) := by decide +kernel
theorem dX9_arcWeight_10 : decode cX9_arcWeight 10 = .ok (.iconst 4, 1) := by decide +kernel
theorem dX9_arcWeight_11 : decode cX9_arcWeight 11 = .ok (.isub, 1) := by decide +kernel
theorem dX9_arcWeight_12 : decode cX9_arcWeight 12 = .ok (.istore 5, 2) := by decide +kernel
theorem dX9_arcWeight_14 : decode cX9_arcWeight 14 = .ok (.iload 4, 2) := by decide +kernel
theorem dX9_arcWeight_16 : decode cX9_arcWeight 16 = .ok (.ifCond .lt 18, 3) := by decide +kernel
theorem dX9_arcWeight_19 : decode cX9_arcWeight 19 = .ok (.iload 5, 2) := by decide +kernel
theorem dX9_arcWeight_21 : decode cX9_arcWeight 21 = .ok (.ifCond .lt 13, 3) := by decide +kernel
theorem dX9_arcWeight_24 : decode cX9_arcWeight 24 = .ok (.iload_n 2, 1) := by decide +kernel
theorem dX9_arcWeight_25 : decode cX9_arcWeight 25 = .ok (.ifCond .lt 9, 3) := by decide +kernel
theorem dX9_arcWeight_28 : decode cX9_arcWeight 28 = .ok (.iload_n 2, 1) := by decide +kernel
theorem dX9_arcWeight_29 : decode cX9_arcWeight 29 = .ok (.bipush 6, 2) := by decide +kernel
theorem dX9_arcWeight_31 : decode cX9_arcWeight 31 = .ok (.if_icmp .lt 6, 3) := by decide +kernel
theorem dX9_arcWeight_34 : decode cX9_arcWeight 34 = .ok (.bipush (-6), 2) := by decide +kernel
theorem dX9_arcWeight_36 : decode cX9_arcWeight 36 = .ok (.ireturn, 1) := by decide +kernel
theorem dX9_arcWeight_37 : decode cX9_arcWeight 37 = .ok (.aload_n 0, 1) := by decide +kernel
theorem dX9_arcWeight_38 : decode cX9_arcWeight 38 = .ok (.invokevirtual 199, 3) := by decide +kernel
theorem dX9_arcWeight_41 : decode cX9_arcWeight 41 = .ok (.aload_n 0, 1) := by decide +kernel
theorem dX9_arcWeight_42 : decode cX9_arcWeight 42 = .ok (.getfield 89, 3) := by decide +kernel
theorem dX9_arcWeight_45 : decode cX9_arcWeight 45 = .ok (.iload 4, 2) := by decide +kernel
theorem dX9_arcWeight_47 : decode cX9_arcWeight 47 = .ok (.iload_n 2, 1) := by decide +kernel
theorem dX9_arcWeight_48 : decode cX9_arcWeight 48 = .ok (.iload 5, 2) := by decide +kernel
theorem dX9_arcWeight_50 : decode cX9_arcWeight 50 = .ok (.invokevirtual 231, 3) := by decide +kernel
theorem dX9_arcWeight_53 : decode cX9_arcWeight 53 = .ok (.ireturn, 1) := by decide +kernel
theorem dX9_distanceWithout_0 : decode cX9_distanceWithout 0 = .ok (.aload_n 0, 1) := by decide +kernel
theorem dX9_distanceWithout_1 : decode cX9_distanceWithout 1 = .ok (.iload_n 1, 1) := by decide +kernel
theorem dX9_distanceWithout_2 : decode cX9_distanceWithout 2 = .ok (.invokevirtual 126, 3) := by decide +kernel
theorem dX9_distanceWithout_5 : decode cX9_distanceWithout 5 = .ok (.ifCond .eq 12, 3) := by decide +kernel
theorem dX9_distanceWithout_8 : decode cX9_distanceWithout 8 = .ok (.aload_n 0, 1) := by decide +kernel
theorem dX9_distanceWithout_9 : decode cX9_distanceWithout 9 = .ok (.iload_n 2, 1) := by decide +kernel
theorem dX9_distanceWithout_10 : decode cX9_distanceWithout 10 = .ok (.iload_n 3, 1) := by decide +kernel
theorem dX9_distanceWithout_11 : decode cX9_distanceWithout 11 = .ok (.invokevirtual 169, 3) := by decide +kernel
theorem dX9_distanceWithout_14 : decode cX9_distanceWithout 14 = .ok (.ifCond .ne 5, 3) := by decide +kernel
theorem dX9_distanceWithout_17 : decode cX9_distanceWithout 17 = .ok (.iconst (-1), 1) := by decide +kernel
theorem dX9_distanceWithout_18 : decode cX9_distanceWithout 18 = .ok (.ireturn, 1) := by decide +kernel
theorem dX9_distanceWithout_19 : decode cX9_distanceWithout 19 = .ok (.aload_n 0, 1) := by decide +kernel
theorem dX9_distanceWithout_20 : decode cX9_distanceWithout 20 = .ok (.iload_n 1, 1) := by decide +kernel
theorem dX9_distanceWithout_21 : decode cX9_distanceWithout 21 = .ok (.iload_n 2, 1) := by decide +kernel
theorem dX9_distanceWithout_22 : decode cX9_distanceWithout 22 = .ok (.invokevirtual 235, 3) := by decide +kernel
theorem dX9_distanceWithout_25 : decode cX9_distanceWithout 25 = .ok (.invokestatic 177, 3) := by decide +kernel
theorem dX9_distanceWithout_28 : decode cX9_distanceWithout 28 = .ok (.ireturn, 1) := by decide +kernel
theorem dX9_critical_0 : decode cX9_critical 0 = .ok (.aload_n 0, 1) := by decide +kernel
theorem dX9_critical_1 : decode cX9_critical 1 = .ok (.iload_n 1, 1) := by decide +kernel
theorem dX9_critical_2 : decode cX9_critical 2 = .ok (.iload_n 2, 1) := by decide +kernel
theorem dX9_critical_3 : decode cX9_critical 3 = .ok (.invokevirtual 169, 3) := by decide +kernel
theorem dX9_critical_6 : decode cX9_critical 6 = .ok (.ifCond .ne 5, 3) := by decide +kernel
theorem dX9_critical_9 : decode cX9_critical 9 = .ok (.iconst (-1), 1) := by decide +kernel
theorem dX9_critical_10 : decode cX9_critical 10 = .ok (.ireturn, 1) := by decide +kernel
theorem dX9_critical_11 : decode cX9_critical 11 = .ok (.aload_n 0, 1) := by decide +kernel
theorem dX9_critical_12 : decode cX9_critical 12 = .ok (.iload_n 1, 1) := by decide +kernel
theorem dX9_critical_13 : decode cX9_critical 13 = .ok (.invokevirtual 173, 3) := by decide +kernel
theorem dX9_critical_16 : decode cX9_critical 16 = .ok (.lstore_n 3, 1) := by decide +kernel
theorem dX9_critical_17 : decode cX9_critical 17 = .ok (.lload_n 3, 1) := by decide +kernel
theorem dX9_critical_18 : decode cX9_critical 18 = .ok (.ldc2_w 181, 3) := by decide +kernel
theorem dX9_critical_21 : decode cX9_critical 21 = .ok (.lcmp, 1) := by decide +kernel
theorem dX9_critical_22 : decode cX9_critical 22 = .ok (.ifCond .lt 6, 3) := by decide +kernel
theorem dX9_critical_25 : decode cX9_critical 25 = .ok (.bipush (-6), 2) := by decide +kernel
theorem dX9_critical_27 : decode cX9_critical 27 = .ok (.ireturn, 1) := by decide +kernel
theorem dX9_critical_28 : decode cX9_critical 28 = .ok (.aload_n 0, 1) := by decide +kernel
theorem dX9_critical_29 : decode cX9_critical 29 = .ok (.invokevirtual 238, 3) := by decide +kernel
theorem dX9_critical_32 : decode cX9_critical 32 = .ok (.istore 5, 2) := by decide +kernel
theorem dX9_critical_34 : decode cX9_critical 34 = .ok (.iconst 0, 1) := by decide +kernel
theorem dX9_critical_35 : decode cX9_critical 35 = .ok (.istore 6, 2) := by decide +kernel
theorem dX9_critical_37 : decode cX9_critical 37 = .ok (.iconst 0, 1) := by decide +kernel
theorem dX9_critical_38 : decode cX9_critical 38 = .ok (.istore 7, 2) := by decide +kernel
theorem dX9_critical_40 : decode cX9_critical 40 = .ok (.iload 7, 2) := by decide +kernel
theorem dX9_critical_42 : decode cX9_critical 42 = .ok (.aload_n 0, 1) := by decide +kernel
theorem dX9_critical_43 : decode cX9_critical 43 = .ok (.getfield 12, 3) := by decide +kernel
theorem dX9_critical_46 : decode cX9_critical 46 = .ok (.getfield 93, 3) := by decide +kernel
theorem dX9_critical_49 : decode cX9_critical 49 = .ok (.if_icmp .ge 45, 3) := by decide +kernel
theorem dX9_critical_52 : decode cX9_critical 52 = .ok (.iload 5, 2) := by decide +kernel
theorem dX9_critical_54 : decode cX9_critical 54 = .ok (.iload 7, 2) := by decide +kernel
theorem dX9_critical_56 : decode cX9_critical 56 = .ok (.ishr, 1) := by decide +kernel
theorem dX9_critical_57 : decode cX9_critical 57 = .ok (.iconst 1, 1) := by decide +kernel
theorem dX9_critical_58 : decode cX9_critical 58 = .ok (.iand, 1) := by decide +kernel
theorem dX9_critical_59 : decode cX9_critical 59 = .ok (.ifCond .eq 29, 3) := by decide +kernel
theorem dX9_critical_62 : decode cX9_critical 62 = .ok (.aload_n 0, 1) := by decide +kernel
theorem dX9_critical_63 : decode cX9_critical 63 = .ok (.iload 7, 2) := by decide +kernel
theorem dX9_critical_65 : decode cX9_critical 65 = .ok (.iload_n 1, 1) := by decide +kernel
theorem dX9_critical_66 : decode cX9_critical 66 = .ok (.invokevirtual 235, 3) := by decide +kernel
theorem dX9_critical_69 : decode cX9_critical 69 = .ok (.invokestatic 196, 3) := by decide +kernel
theorem dX9_critical_72 : decode cX9_critical 72 = .ok (.lload_n 3, 1) := by decide +kernel
theorem dX9_critical_73 : decode cX9_critical 73 = .ok (.invokestatic 196, 3) := by decide +kernel
theorem dX9_critical_76 : decode cX9_critical 76 = .ok (.if_icmp .eq 12, 3) := by decide +kernel
theorem dX9_critical_79 : decode cX9_critical 79 = .ok (.iload 6, 2) := by decide +kernel
theorem dX9_critical_81 : decode cX9_critical 81 = .ok (.iconst 1, 1) := by decide +kernel
theorem dX9_critical_82 : decode cX9_critical 82 = .ok (.iload 7, 2) := by decide +kernel
theorem dX9_critical_84 : decode cX9_critical 84 = .ok (.ishl, 1) := by decide +kernel
theorem dX9_critical_85 : decode cX9_critical 85 = .ok (.ior, 1) := by decide +kernel
theorem dX9_critical_86 : decode cX9_critical 86 = .ok (.istore 6, 2) := by decide +kernel
theorem dX9_critical_88 : decode cX9_critical 88 = .ok (.iinc 7 1, 3) := by decide +kernel
theorem dX9_critical_91 : decode cX9_critical 91 = .ok (.goto (-51), 3) := by decide +kernel
theorem dX9_critical_94 : decode cX9_critical 94 = .ok (.iload 6, 2) := by decide +kernel
theorem dX9_critical_96 : decode cX9_critical 96 = .ok (.ireturn, 1) := by decide +kernel
theorem dX9_tolerance_0 : decode cX9_tolerance 0 = .ok (.aload_n 0, 1) := by decide +kernel
theorem dX9_tolerance_1 : decode cX9_tolerance 1 = .ok (.iload_n 1, 1) := by decide +kernel
theorem dX9_tolerance_2 : decode cX9_tolerance 2 = .ok (.invokevirtual 126, 3) := by decide +kernel
theorem dX9_tolerance_5 : decode cX9_tolerance 5 = .ok (.ifCond .eq 12, 3) := by decide +kernel
theorem dX9_tolerance_8 : decode cX9_tolerance 8 = .ok (.aload_n 0, 1) := by decide +kernel
theorem dX9_tolerance_9 : decode cX9_tolerance 9 = .ok (.iload_n 2, 1) := by decide +kernel
theorem dX9_tolerance_10 : decode cX9_tolerance 10 = .ok (.iload_n 3, 1) := by decide +kernel
theorem dX9_tolerance_11 : decode cX9_tolerance 11 = .ok (.invokevirtual 169, 3) := by decide +kernel
theorem dX9_tolerance_14 : decode cX9_tolerance 14 = .ok (.ifCond .ne 5, 3) := by decide +kernel
theorem dX9_tolerance_17 : decode cX9_tolerance 17 = .ok (.iconst (-1), 1) := by decide +kernel
theorem dX9_tolerance_18 : decode cX9_tolerance 18 = .ok (.ireturn, 1) := by decide +kernel
theorem dX9_tolerance_19 : decode cX9_tolerance 19 = .ok (.aload_n 0, 1) := by decide +kernel
theorem dX9_tolerance_20 : decode cX9_tolerance 20 = .ok (.iload_n 2, 1) := by decide +kernel
theorem dX9_tolerance_21 : decode cX9_tolerance 21 = .ok (.invokevirtual 173, 3) := by decide +kernel
theorem dX9_tolerance_24 : decode cX9_tolerance 24 = .ok (.lstore 4, 2) := by decide +kernel
theorem dX9_tolerance_26 : decode cX9_tolerance 26 = .ok (.lload 4, 2) := by decide +kernel
theorem dX9_tolerance_28 : decode cX9_tolerance 28 = .ok (.ldc2_w 181, 3) := by decide +kernel
theorem dX9_tolerance_31 : decode cX9_tolerance 31 = .ok (.lcmp, 1) := by decide +kernel
theorem dX9_tolerance_32 : decode cX9_tolerance 32 = .ok (.ifCond .lt 6, 3) := by decide +kernel
theorem dX9_tolerance_35 : decode cX9_tolerance 35 = .ok (.bipush (-6), 2) := by decide +kernel
theorem dX9_tolerance_37 : decode cX9_tolerance 37 = .ok (.ireturn, 1) := by decide +kernel
theorem dX9_tolerance_38 : decode cX9_tolerance 38 = .ok (.aload_n 0, 1) := by decide +kernel
theorem dX9_tolerance_39 : decode cX9_tolerance 39 = .ok (.iload_n 1, 1) := by decide +kernel
theorem dX9_tolerance_40 : decode cX9_tolerance 40 = .ok (.iload_n 2, 1) := by decide +kernel
theorem dX9_tolerance_41 : decode cX9_tolerance 41 = .ok (.invokevirtual 235, 3) := by decide +kernel
theorem dX9_tolerance_44 : decode cX9_tolerance 44 = .ok (.invokestatic 196, 3) := by decide +kernel
theorem dX9_tolerance_47 : decode cX9_tolerance 47 = .ok (.lload 4, 2) := by decide +kernel
theorem dX9_tolerance_49 : decode cX9_tolerance 49 = .ok (.invokestatic 196, 3) := by decide +kernel
theorem dX9_tolerance_52 : decode cX9_tolerance 52 = .ok (.if_icmp .ne 7, 3) := by decide +kernel
theorem dX9_tolerance_55 : decode cX9_tolerance 55 = .ok (.iconst 1, 1) := by decide +kernel
theorem dX9_tolerance_56 : decode cX9_tolerance 56 = .ok (.goto 4, 3) := by decide +kernel
theorem dX9_tolerance_59 : decode cX9_tolerance 59 = .ok (.iconst 0, 1) := by decide +kernel
theorem dX9_tolerance_60 : decode cX9_tolerance 60 = .ok (.istore 6, 2) := by decide +kernel
theorem dX9_tolerance_62 : decode cX9_tolerance 62 = .ok (.iload 6, 2) := by decide +kernel
theorem dX9_tolerance_64 : decode cX9_tolerance 64 = .ok (.ifCond .eq 18, 3) := by decide +kernel
theorem dX9_tolerance_67 : decode cX9_tolerance 67 = .ok (.bipush 20, 2) := by decide +kernel
theorem dX9_tolerance_69 : decode cX9_tolerance 69 = .ok (.aload_n 0, 1) := by decide +kernel
theorem dX9_tolerance_70 : decode cX9_tolerance 70 = .ok (.getfield 12, 3) := by decide +kernel
theorem dX9_tolerance_73 : decode cX9_tolerance 73 = .ok (.iload_n 1, 1) := by decide +kernel
theorem dX9_tolerance_74 : decode cX9_tolerance 74 = .ok (.iconst 4, 1) := by decide +kernel
theorem dX9_tolerance_75 : decode cX9_tolerance 75 = .ok (.invokevirtual 133, 3) := by decide +kernel
theorem dX9_tolerance_78 : decode cX9_tolerance 78 = .ok (.isub, 1) := by decide +kernel
theorem dX9_tolerance_79 : decode cX9_tolerance 79 = .ok (.goto 4, 3) := by decide +kernel
theorem dX9_tolerance_82 : decode cX9_tolerance 82 = .ok (.iconst 0, 1) := by decide +kernel
theorem dX9_tolerance_83 : decode cX9_tolerance 83 = .ok (.ireturn, 1) := by decide +kernel
theorem dX9_write_0 : decode cX9_write 0 = .ok (.iload_n 1, 1) := by decide +kernel
theorem dX9_write_1 : decode cX9_write 1 = .ok (.bipush 32, 2) := by decide +kernel
theorem dX9_write_3 : decode cX9_write 3 = .ok (.if_icmp .lt 9, 3) := by decide +kernel
theorem dX9_write_6 : decode cX9_write 6 = .ok (.iload_n 1, 1) := by decide +kernel
theorem dX9_write_7 : decode cX9_write 7 = .ok (.bipush 126, 2) := by decide +kernel
theorem dX9_write_9 : decode cX9_write 9 = .ok (.if_icmp .le 6, 3) := by decide +kernel
theorem dX9_write_12 : decode cX9_write 12 = .ok (.bipush (-2), 2) := by decide +kernel
theorem dX9_write_14 : decode cX9_write 14 = .ok (.ireturn, 1) := by decide +kernel
theorem dX9_write_15 : decode cX9_write 15 = .ok (.aload_n 0, 1) := by decide +kernel
theorem dX9_write_16 : decode cX9_write 16 = .ok (.getfield 29, 3) := by decide +kernel
theorem dX9_write_19 : decode cX9_write 19 = .ok (.getfield 242, 3) := by decide +kernel
theorem dX9_write_22 : decode cX9_write 22 = .ok (.sipush 200, 3) := by decide +kernel
theorem dX9_write_25 : decode cX9_write 25 = .ok (.if_icmp .lt 6, 3) := by decide +kernel
theorem dX9_write_28 : decode cX9_write 28 = .ok (.bipush (-4), 2) := by decide +kernel
theorem dX9_write_30 : decode cX9_write 30 = .ok (.ireturn, 1) := by decide +kernel
theorem dX9_write_31 : decode cX9_write 31 = .ok (.aload_n 0, 1) := by decide +kernel
theorem dX9_write_32 : decode cX9_write 32 = .ok (.getfield 29, 3) := by decide +kernel
theorem dX9_write_35 : decode cX9_write 35 = .ok (.iload_n 1, 1) := by decide +kernel
theorem dX9_write_36 : decode cX9_write 36 = .ok (.invokevirtual 243, 3) := by decide +kernel
theorem dX9_write_39 : decode cX9_write 39 = .ok (.aload_n 0, 1) := by decide +kernel
theorem dX9_write_40 : decode cX9_write 40 = .ok (.getfield 29, 3) := by decide +kernel
theorem dX9_write_43 : decode cX9_write 43 = .ok (.getfield 242, 3) := by decide +kernel
theorem dX9_write_46 : decode cX9_write 46 = .ok (.ireturn, 1) := by decide +kernel
theorem dX9_wipe_0 : decode cX9_wipe 0 = .ok (.aload_n 0, 1) := by decide +kernel
theorem dX9_wipe_1 : decode cX9_wipe 1 = .ok (.getfield 29, 3) := by decide +kernel
theorem dX9_wipe_4 : decode cX9_wipe 4 = .ok (.getfield 242, 3) := by decide +kernel
theorem dX9_wipe_7 : decode cX9_wipe 7 = .ok (.istore_n 1, 1) := by decide +kernel
theorem dX9_wipe_8 : decode cX9_wipe 8 = .ok (.aload_n 0, 1) := by decide +kernel
theorem dX9_wipe_9 : decode cX9_wipe 9 = .ok (.getfield 29, 3) := by decide +kernel
theorem dX9_wipe_12 : decode cX9_wipe 12 = .ok (.iconst 0, 1) := by decide +kernel
theorem dX9_wipe_13 : decode cX9_wipe 13 = .ok (.putfield 242, 3) := by decide +kernel
theorem dX9_wipe_16 : decode cX9_wipe 16 = .ok (.iload_n 1, 1) := by decide +kernel
theorem dX9_wipe_17 : decode cX9_wipe 17 = .ok (.ireturn, 1) := by decide +kernel
theorem dX9_fault_0 : decode cX9_fault 0 = .ok (.aload_n 0, 1) := by decide +kernel
theorem dX9_fault_1 : decode cX9_fault 1 = .ok (.invokevirtual 245, 3) := by decide +kernel
theorem dX9_fault_4 : decode cX9_fault 4 = .ok (.ireturn, 1) := by decide +kernel
theorem dX9_load_0 : decode cX9_load 0 = .ok (.aload_n 0, 1) := by decide +kernel
theorem dX9_load_1 : decode cX9_load 1 = .ok (.invokevirtual 245, 3) := by decide +kernel
theorem dX9_load_4 : decode cX9_load 4 = .ok (.bipush (-6), 2) := by decide +kernel
theorem dX9_load_6 : decode cX9_load 6 = .ok (.if_icmp .eq 6, 3) := by decide +kernel
theorem dX9_load_9 : decode cX9_load 9 = .ok (.bipush (-5), 2) := by decide +kernel
theorem dX9_load_11 : decode cX9_load 11 = .ok (.ireturn, 1) := by decide +kernel
theorem dX9_load_12 : decode cX9_load 12 = .ok (.aload_n 0, 1) := by decide +kernel
theorem dX9_load_13 : decode cX9_load 13 = .ok (.invokevirtual 97, 3) := by decide +kernel
theorem dX9_load_16 : decode cX9_load 16 = .ok (.aload_n 0, 1) := by decide +kernel
theorem dX9_load_17 : decode cX9_load 17 = .ok (.getfield 12, 3) := by decide +kernel
theorem dX9_load_20 : decode cX9_load 20 = .ok (.aload_n 0, 1) := by decide +kernel
theorem dX9_load_21 : decode cX9_load 21 = .ok (.getfield 16, 3) := by decide +kernel
theorem dX9_load_24 : decode cX9_load 24 = .ok (.invokevirtual 248, 3) := by decide +kernel
theorem dX9_load_27 : decode cX9_load 27 = .ok (.aload_n 0, 1) := by decide +kernel
theorem dX9_load_28 : decode cX9_load 28 = .ok (.getfield 12, 3) := by decide +kernel
theorem dX9_load_31 : decode cX9_load 31 = .ok (.getfield 93, 3) := by decide +kernel
theorem dX9_load_34 : decode cX9_load 34 = .ok (.ireturn, 1) := by decide +kernel
theorem dX9_isState_0 : decode cX9_isState 0 = .ok (.iload_n 1, 1) := by decide +kernel
theorem dX9_isState_1 : decode cX9_isState 1 = .ok (.ifCond .lt 18, 3) := by decide +kernel
theorem dX9_isState_4 : decode cX9_isState 4 = .ok (.iload_n 1, 1) := by decide +kernel
theorem dX9_isState_5 : decode cX9_isState 5 = .ok (.aload_n 0, 1) := by decide +kernel
theorem dX9_isState_6 : decode cX9_isState 6 = .ok (.getfield 12, 3) := by decide +kernel
theorem dX9_isState_9 : decode cX9_isState 9 = .ok (.getfield 160, 3) := by decide +kernel
theorem dX9_isState_12 : decode cX9_isState 12 = .ok (.if_icmp .ge 7, 3) := by decide +kernel
theorem dX9_isState_15 : decode cX9_isState 15 = .ok (.iconst 1, 1) := by decide +kernel
theorem dX9_isState_16 : decode cX9_isState 16 = .ok (.goto 4, 3) := by decide +kernel
theorem dX9_isState_19 : decode cX9_isState 19 = .ok (.iconst 0, 1) := by decide +kernel
theorem dX9_isState_20 : decode cX9_isState 20 = .ok (.ireturn, 1) := by decide +kernel
theorem dX9_isSymbol_0 : decode cX9_isSymbol 0 = .ok (.iload_n 1, 1) := by decide +kernel
theorem dX9_isSymbol_1 : decode cX9_isSymbol 1 = .ok (.iconst 1, 1) := by decide +kernel
theorem dX9_isSymbol_2 : decode cX9_isSymbol 2 = .ok (.if_icmp .lt 18, 3) := by decide +kernel
theorem dX9_isSymbol_5 : decode cX9_isSymbol 5 = .ok (.iload_n 1, 1) := by decide +kernel
theorem dX9_isSymbol_6 : decode cX9_isSymbol 6 = .ok (.aload_n 0, 1) := by decide +kernel
theorem dX9_isSymbol_7 : decode cX9_isSymbol 7 = .ok (.getfield 12, 3) := by decide +kernel
theorem dX9_isSymbol_10 : decode cX9_isSymbol 10 = .ok (.getfield 163, 3) := by decide +kernel
theorem dX9_isSymbol_13 : decode cX9_isSymbol 13 = .ok (.if_icmp .gt 7, 3) := by decide +kernel
theorem dX9_isSymbol_16 : decode cX9_isSymbol 16 = .ok (.iconst 1, 1) := by decide +kernel
theorem dX9_isSymbol_17 : decode cX9_isSymbol 17 = .ok (.goto 4, 3) := by decide +kernel
theorem dX9_isSymbol_20 : decode cX9_isSymbol 20 = .ok (.iconst 0, 1) := by decide +kernel
theorem dX9_isSymbol_21 : decode cX9_isSymbol 21 = .ok (.ireturn, 1) := by decide +kernel
theorem dX9_isRule_0 : decode cX9_isRule 0 = .ok (.iload_n 1, 1) := by decide +kernel
theorem dX9_isRule_1 : decode cX9_isRule 1 = .ok (.ifCond .lt 18, 3) := by decide +kernel
theorem dX9_isRule_4 : decode cX9_isRule 4 = .ok (.iload_n 1, 1) := by decide +kernel
theorem dX9_isRule_5 : decode cX9_isRule 5 = .ok (.aload_n 0, 1) := by decide +kernel
theorem dX9_isRule_6 : decode cX9_isRule 6 = .ok (.getfield 12, 3) := by decide +kernel
theorem dX9_isRule_9 : decode cX9_isRule 9 = .ok (.getfield 93, 3) := by decide +kernel
theorem dX9_isRule_12 : decode cX9_isRule 12 = .ok (.if_icmp .ge 7, 3) := by decide +kernel
theorem dX9_isRule_15 : decode cX9_isRule 15 = .ok (.iconst 1, 1) := by decide +kernel
theorem dX9_isRule_16 : decode cX9_isRule 16 = .ok (.goto 4, 3) := by decide +kernel
theorem dX9_isRule_19 : decode cX9_isRule 19 = .ok (.iconst 0, 1) := by decide +kernel
theorem dX9_isRule_20 : decode cX9_isRule 20 = .ok (.ireturn, 1) := by decide +kernel
theorem dX9_isWeight_0 : decode cX9_isWeight 0 = .ok (.iload_n 0, 1) := by decide +kernel
theorem dX9_isWeight_1 : decode cX9_isWeight 1 = .ok (.iconst 1, 1) := by decide +kernel
theorem dX9_isWeight_2 : decode cX9_isWeight 2 = .ok (.if_icmp .lt 13, 3) := by decide +kernel
theorem dX9_isWeight_5 : decode cX9_isWeight 5 = .ok (.iload_n 0, 1) := by decide +kernel
theorem dX9_isWeight_6 : decode cX9_isWeight 6 = .ok (.bipush 20, 2) := by decide +kernel
theorem dX9_isWeight_8 : decode cX9_isWeight 8 = .ok (.if_icmp .gt 7, 3) := by decide +kernel
theorem dX9_isWeight_11 : decode cX9_isWeight 11 = .ok (.iconst 1, 1) := by decide +kernel
theorem dX9_isWeight_12 : decode cX9_isWeight 12 = .ok (.goto 4, 3) := by decide +kernel
theorem dX9_isWeight_15 : decode cX9_isWeight 15 = .ok (.iconst 0, 1) := by decide +kernel
theorem dX9_isWeight_16 : decode cX9_isWeight 16 = .ok (.ireturn, 1) := by decide +kernel
theorem dX9_isWord_0 : decode cX9_isWord 0 = .ok (.aload_n 0, 1) := by decide +kernel
theorem dX9_isWord_1 : decode cX9_isWord 1 = .ok (.getfield 36, 3) := by decide +kernel
theorem dX9_isWord_4 : decode cX9_isWord 4 = .ok (.iload_n 1, 1) := by decide +kernel
theorem dX9_isWord_5 : decode cX9_isWord 5 = .ok (.aload_n 0, 1) := by decide +kernel
theorem dX9_isWord_6 : decode cX9_isWord 6 = .ok (.getfield 12, 3) := by decide +kernel
theorem dX9_isWord_9 : decode cX9_isWord 9 = .ok (.getfield 163, 3) := by decide +kernel
theorem dX9_isWord_12 : decode cX9_isWord 12 = .ok (.invokevirtual 251, 3) := by decide +kernel
theorem dX9_isWord_15 : decode cX9_isWord 15 = .ok (.ifCond .eq 29, 3) := by decide +kernel
theorem dX9_isWord_18 : decode cX9_isWord 18 = .ok (.aload_n 0, 1) := by decide +kernel
theorem dX9_isWord_19 : decode cX9_isWord 19 = .ok (.getfield 36, 3) := by decide +kernel
theorem dX9_isWord_22 : decode cX9_isWord 22 = .ok (.getfield 254, 3) := by decide +kernel
theorem dX9_isWord_25 : decode cX9_isWord 25 = .ok (.iload_n 2, 1) := by decide +kernel
theorem dX9_isWord_26 : decode cX9_isWord 26 = .ok (.if_icmp .lt 18, 3) := by decide +kernel
theorem dX9_isWord_29 : decode cX9_isWord 29 = .ok (.aload_n 0, 1) := by decide +kernel
theorem dX9_isWord_30 : decode cX9_isWord 30 = .ok (.getfield 36, 3) := by decide +kernel
theorem dX9_isWord_33 : decode cX9_isWord 33 = .ok (.getfield 254, 3) := by decide +kernel
theorem dX9_isWord_36 : decode cX9_isWord 36 = .ok (.iload_n 3, 1) := by decide +kernel
theorem dX9_isWord_37 : decode cX9_isWord 37 = .ok (.if_icmp .gt 7, 3) := by decide +kernel
theorem dX9_isWord_40 : decode cX9_isWord 40 = .ok (.iconst 1, 1) := by decide +kernel
theorem dX9_isWord_41 : decode cX9_isWord 41 = .ok (.goto 4, 3) := by decide +kernel
theorem dX9_isWord_44 : decode cX9_isWord 44 = .ok (.iconst 0, 1) := by decide +kernel
theorem dX9_isWord_45 : decode cX9_isWord 45 = .ok (.ireturn, 1) := by decide +kernel
theorem dX9_isAsked_0 : decode cX9_isAsked 0 = .ok (.aload_n 0, 1) := by decide +kernel
theorem dX9_isAsked_1 : decode cX9_isAsked 1 = .ok (.iload_n 1, 1) := by decide +kernel
theorem dX9_isAsked_2 : decode cX9_isAsked 2 = .ok (.invokevirtual 104, 3) := by decide +kernel
theorem dX9_isAsked_5 : decode cX9_isAsked 5 = .ok (.ifCond .eq 18, 3) := by decide +kernel
theorem dX9_isAsked_8 : decode cX9_isAsked 8 = .ok (.aload_n 0, 1) := by decide +kernel
theorem dX9_isAsked_9 : decode cX9_isAsked 9 = .ok (.iload_n 2, 1) := by decide +kernel
theorem dX9_isAsked_10 : decode cX9_isAsked 10 = .ok (.iconst 0, 1) := by decide +kernel
theorem dX9_isAsked_11 : decode cX9_isAsked 11 = .ok (.bipush 6, 2) := by decide +kernel
theorem dX9_isAsked_13 : decode cX9_isAsked 13 = .ok (.invokevirtual 111, 3) := by decide +kernel
theorem dX9_isAsked_16 : decode cX9_isAsked 16 = .ok (.ifCond .eq 7, 3) := by decide +kernel
theorem dX9_isAsked_19 : decode cX9_isAsked 19 = .ok (.iconst 1, 1) := by decide +kernel
theorem dX9_isAsked_20 : decode cX9_isAsked 20 = .ok (.goto 4, 3) := by decide +kernel
theorem dX9_isAsked_23 : decode cX9_isAsked 23 = .ok (.iconst 0, 1) := by decide +kernel
theorem dX9_isAsked_24 : decode cX9_isAsked 24 = .ok (.ireturn, 1) := by decide +kernel
theorem dX9_recordChange_0 : decode cX9_recordChange 0 = .ok (.aload_n 0, 1) := by decide +kernel
theorem dX9_recordChange_1 : decode cX9_recordChange 1 = .ok (.getfield 22, 3) := by decide +kernel
theorem dX9_recordChange_4 : decode cX9_recordChange 4 = .ok (.aload_n 0, 1) := by decide +kernel
theorem dX9_recordChange_5 : decode cX9_recordChange 5 = .ok (.getfield 12, 3) := by decide +kernel
theorem dX9_recordChange_8 : decode cX9_recordChange 8 = .ok (.invokevirtual 255, 3) := by decide +kernel
theorem dX9_recordChange_11 : decode cX9_recordChange 11 = .ok (.aload_n 0, 1) := by decide +kernel
theorem dX9_recordChange_12 : decode cX9_recordChange 12 = .ok (.invokevirtual 157, 3) := by decide +kernel
theorem dX9_recordChange_15 : decode cX9_recordChange 15 = .ok (.return_, 1) := by decide +kernel
theorem dX9_forgetAnswers_0 : decode cX9_forgetAnswers 0 = .ok (.aload_n 0, 1) := by decide +kernel
theorem dX9_forgetAnswers_1 : decode cX9_forgetAnswers 1 = .ok (.iconst 0, 1) := by decide +kernel
theorem dX9_forgetAnswers_2 : decode cX9_forgetAnswers 2 = .ok (.putfield 258, 3) := by decide +kernel
theorem dX9_forgetAnswers_5 : decode cX9_forgetAnswers 5 = .ok (.aload_n 0, 1) := by decide +kernel
theorem dX9_forgetAnswers_6 : decode cX9_forgetAnswers 6 = .ok (.getfield 67, 3) := by decide +kernel
theorem dX9_forgetAnswers_9 : decode cX9_forgetAnswers 9 = .ok (.invokevirtual 262, 3) := by decide +kernel
theorem dX9_forgetAnswers_12 : decode cX9_forgetAnswers 12 = .ok (.aload_n 0, 1) := by decide +kernel
theorem dX9_forgetAnswers_13 : decode cX9_forgetAnswers 13 = .ok (.getfield 89, 3) := by decide +kernel
theorem dX9_forgetAnswers_16 : decode cX9_forgetAnswers 16 = .ok (.iconst 0, 1) := by decide +kernel
theorem dX9_forgetAnswers_17 : decode cX9_forgetAnswers 17 = .ok (.putfield 265, 3) := by decide +kernel
theorem dX9_forgetAnswers_20 : decode cX9_forgetAnswers 20 = .ok (.return_, 1) := by decide +kernel
theorem dX9_makePlan_0 : decode cX9_makePlan 0 = .ok (.aload_n 0, 1) := by decide +kernel
theorem dX9_makePlan_1 : decode cX9_makePlan 1 = .ok (.getfield 258, 3) := by decide +kernel
theorem dX9_makePlan_4 : decode cX9_makePlan 4 = .ok (.ifCond .ne 28, 3) := by decide +kernel
theorem dX9_makePlan_7 : decode cX9_makePlan 7 = .ok (.aload_n 0, 1) := by decide +kernel
theorem dX9_makePlan_8 : decode cX9_makePlan 8 = .ok (.getfield 46, 3) := by decide +kernel
theorem dX9_makePlan_11 : decode cX9_makePlan 11 = .ok (.aload_n 0, 1) := by decide +kernel
theorem dX9_makePlan_12 : decode cX9_makePlan 12 = .ok (.getfield 12, 3) := by decide +kernel
theorem dX9_makePlan_15 : decode cX9_makePlan 15 = .ok (.invokevirtual 268, 3) := by decide +kernel
theorem dX9_makePlan_18 : decode cX9_makePlan 18 = .ok (.aload_n 0, 1) := by decide +kernel
theorem dX9_makePlan_19 : decode cX9_makePlan 19 = .ok (.getfield 55, 3) := by decide +kernel
theorem dX9_makePlan_22 : decode cX9_makePlan 22 = .ok (.bipush (-6), 2) := by decide +kernel
theorem dX9_makePlan_24 : decode cX9_makePlan 24 = .ok (.invokevirtual 271, 3) := by decide +kernel
theorem dX9_makePlan_27 : decode cX9_makePlan 27 = .ok (.aload_n 0, 1) := by decide +kernel
theorem dX9_makePlan_28 : decode cX9_makePlan 28 = .ok (.iconst 1, 1) := by decide +kernel
theorem dX9_makePlan_29 : decode cX9_makePlan 29 = .ok (.putfield 258, 3) := by decide +kernel
theorem dX9_makePlan_32 : decode cX9_makePlan 32 = .ok (.return_, 1) := by decide +kernel
theorem dX9_buildMachine_0 : decode cX9_buildMachine 0 = .ok (.aload_n 0, 1) := by decide +kernel
theorem dX9_buildMachine_1 : decode cX9_buildMachine 1 = .ok (.invokevirtual 211, 3) := by decide +kernel
theorem dX9_buildMachine_4 : decode cX9_buildMachine 4 = .ok (.aload_n 0, 1) := by decide +kernel
theorem dX9_buildMachine_5 : decode cX9_buildMachine 5 = .ok (.getfield 89, 3) := by decide +kernel
theorem dX9_buildMachine_8 : decode cX9_buildMachine 8 = .ok (.invokevirtual 274, 3) := by decide +kernel
theorem dX9_buildMachine_11 : decode cX9_buildMachine 11 = .ok (.return_, 1) := by decide +kernel
theorem dX9_costTo_0 : decode cX9_costTo 0 = .ok (.aload_n 0, 1) := by decide +kernel
theorem dX9_costTo_1 : decode cX9_costTo 1 = .ok (.invokevirtual 211, 3) := by decide +kernel
theorem dX9_costTo_4 : decode cX9_costTo 4 = .ok (.aload_n 0, 1) := by decide +kernel
theorem dX9_costTo_5 : decode cX9_costTo 5 = .ok (.getfield 67, 3) := by decide +kernel
theorem dX9_costTo_8 : decode cX9_costTo 8 = .ok (.iload_n 1, 1) := by decide +kernel
theorem dX9_costTo_9 : decode cX9_costTo 9 = .ok (.aload_n 0, 1) := by decide +kernel
theorem dX9_costTo_10 : decode cX9_costTo 10 = .ok (.getfield 36, 3) := by decide +kernel
theorem dX9_costTo_13 : decode cX9_costTo 13 = .ok (.invokevirtual 277, 3) := by decide +kernel
theorem dX9_costTo_16 : decode cX9_costTo 16 = .ok (.ifCond .ne 45, 3) := by decide +kernel
theorem dX9_costTo_19 : decode cX9_costTo 19 = .ok (.aload_n 0, 1) := by decide +kernel
theorem dX9_costTo_20 : decode cX9_costTo 20 = .ok (.getfield 67, 3) := by decide +kernel
theorem dX9_costTo_23 : decode cX9_costTo 23 = .ok (.iload_n 1, 1) := by decide +kernel
theorem dX9_costTo_24 : decode cX9_costTo 24 = .ok (.aload_n 0, 1) := by decide +kernel
theorem dX9_costTo_25 : decode cX9_costTo 25 = .ok (.getfield 36, 3) := by decide +kernel
theorem dX9_costTo_28 : decode cX9_costTo 28 = .ok (.invokevirtual 218, 3) := by decide +kernel
theorem dX9_costTo_31 : decode cX9_costTo 31 = .ok (.aload_n 0, 1) := by decide +kernel
theorem dX9_costTo_32 : decode cX9_costTo 32 = .ok (.getfield 67, 3) := by decide +kernel
theorem dX9_costTo_35 : decode cX9_costTo 35 = .ok (.aload_n 0, 1) := by decide +kernel
theorem dX9_costTo_36 : decode cX9_costTo 36 = .ok (.getfield 46, 3) := by decide +kernel
theorem dX9_costTo_39 : decode cX9_costTo 39 = .ok (.getfield 281, 3) := by decide +kernel
theorem dX9_costTo_42 : decode cX9_costTo 42 = .ok (.aload_n 0, 1) := by decide +kernel
theorem dX9_costTo_43 : decode cX9_costTo 43 = .ok (.getfield 46, 3) := by decide +kernel
theorem dX9_costTo_46 : decode cX9_costTo 46 = .ok (.getfield 282, 3) := by decide +kernel
theorem dX9_costTo_49 : decode cX9_costTo 49 = .ok (.invokevirtual 222, 3) := by decide +kernel
theorem dX9_costTo_52 : decode cX9_costTo 52 = .ok (.pop2, 1) := by decide +kernel
theorem dX9_costTo_53 : decode cX9_costTo 53 = .ok (.aload_n 0, 1) := by decide +kernel
theorem dX9_costTo_54 : decode cX9_costTo 54 = .ok (.getfield 80, 3) := by decide +kernel
theorem dX9_costTo_57 : decode cX9_costTo 57 = .ok (.iconst 0, 1) := by decide +kernel
theorem dX9_costTo_58 : decode cX9_costTo 58 = .ok (.putfield 285, 3) := by decide +kernel
theorem dX9_costTo_61 : decode cX9_costTo 61 = .ok (.aload_n 0, 1) := by decide +kernel
theorem dX9_costTo_62 : decode cX9_costTo 62 = .ok (.getfield 67, 3) := by decide +kernel
theorem dX9_costTo_65 : decode cX9_costTo 65 = .ok (.getfield 288, 3) := by decide +kernel
theorem dX9_costTo_68 : decode cX9_costTo 68 = .ok (.lreturn, 1) := by decide +kernel
theorem dX9_costWithout_0 : decode cX9_costWithout 0 = .ok (.aload_n 0, 1) := by decide +kernel
theorem dX9_costWithout_1 : decode cX9_costWithout 1 = .ok (.invokevirtual 211, 3) := by decide +kernel
theorem dX9_costWithout_4 : decode cX9_costWithout 4 = .ok (.aload_n 0, 1) := by decide +kernel
theorem dX9_costWithout_5 : decode cX9_costWithout 5 = .ok (.getfield 59, 3) := by decide +kernel
theorem dX9_costWithout_8 : decode cX9_costWithout 8 = .ok (.iload_n 1, 1) := by decide +kernel
theorem dX9_costWithout_9 : decode cX9_costWithout 9 = .ok (.invokevirtual 271, 3) := by decide +kernel
theorem dX9_costWithout_12 : decode cX9_costWithout 12 = .ok (.aload_n 0, 1) := by decide +kernel
theorem dX9_costWithout_13 : decode cX9_costWithout 13 = .ok (.getfield 74, 3) := by decide +kernel
theorem dX9_costWithout_16 : decode cX9_costWithout 16 = .ok (.iload_n 2, 1) := by decide +kernel
theorem dX9_costWithout_17 : decode cX9_costWithout 17 = .ok (.aload_n 0, 1) := by decide +kernel
theorem dX9_costWithout_18 : decode cX9_costWithout 18 = .ok (.getfield 36, 3) := by decide +kernel
theorem dX9_costWithout_21 : decode cX9_costWithout 21 = .ok (.invokevirtual 218, 3) := by decide +kernel
theorem dX9_costWithout_24 : decode cX9_costWithout 24 = .ok (.aload_n 0, 1) := by decide +kernel
theorem dX9_costWithout_25 : decode cX9_costWithout 25 = .ok (.getfield 74, 3) := by decide +kernel
theorem dX9_costWithout_28 : decode cX9_costWithout 28 = .ok (.aload_n 0, 1) := by decide +kernel
theorem dX9_costWithout_29 : decode cX9_costWithout 29 = .ok (.getfield 46, 3) := by decide +kernel
theorem dX9_costWithout_32 : decode cX9_costWithout 32 = .ok (.getfield 281, 3) := by decide +kernel
theorem dX9_costWithout_35 : decode cX9_costWithout 35 = .ok (.aload_n 0, 1) := by decide +kernel
theorem dX9_costWithout_36 : decode cX9_costWithout 36 = .ok (.getfield 46, 3) := by decide +kernel
theorem dX9_costWithout_39 : decode cX9_costWithout 39 = .ok (.getfield 282, 3) := by decide +kernel
theorem dX9_costWithout_42 : decode cX9_costWithout 42 = .ok (.invokevirtual 222, 3) := by decide +kernel
theorem dX9_costWithout_45 : decode cX9_costWithout 45 = .ok (.lreturn, 1) := by decide +kernel
theorem dX9_rulesOfWitness_0 : decode cX9_rulesOfWitness 0 = .ok (.aload_n 0, 1) := by decide +kernel
theorem dX9_rulesOfWitness_1 : decode cX9_rulesOfWitness 1 = .ok (.getfield 80, 3) := by decide +kernel
theorem dX9_rulesOfWitness_4 : decode cX9_rulesOfWitness 4 = .ok (.aload_n 0, 1) := by decide +kernel
theorem dX9_rulesOfWitness_5 : decode cX9_rulesOfWitness 5 = .ok (.getfield 67, 3) := by decide +kernel
theorem dX9_rulesOfWitness_8 : decode cX9_rulesOfWitness 8 = .ok (.aload_n 0, 1) := by decide +kernel
theorem dX9_rulesOfWitness_9 : decode cX9_rulesOfWitness 9 = .ok (.getfield 46, 3) := by decide +kernel
theorem dX9_rulesOfWitness_12 : decode cX9_rulesOfWitness 12 = .ok (.invokevirtual 186, 3) := by decide +kernel
theorem dX9_rulesOfWitness_15 : decode cX9_rulesOfWitness 15 = .ok (.aload_n 0, 1) := by decide +kernel
theorem dX9_rulesOfWitness_16 : decode cX9_rulesOfWitness 16 = .ok (.getfield 80, 3) := by decide +kernel
theorem dX9_rulesOfWitness_19 : decode cX9_rulesOfWitness 19 = .ok (.getfield 292, 3) := by decide +kernel
theorem dX9_rulesOfWitness_22 : decode cX9_rulesOfWitness 22 = .ok (.ifCond .eq 13, 3) := by decide +kernel
theorem dX9_rulesOfWitness_25 : decode cX9_rulesOfWitness 25 = .ok (.aload_n 0, 1) := by decide +kernel
theorem dX9_rulesOfWitness_26 : decode cX9_rulesOfWitness 26 = .ok (.getfield 80, 3) := by decide +kernel
theorem dX9_rulesOfWitness_29 : decode cX9_rulesOfWitness 29 = .ok (.getfield 295, 3) := by decide +kernel
theorem dX9_rulesOfWitness_32 : decode cX9_rulesOfWitness 32 = .ok (.goto 14, 3) := by decide +kernel
theorem dX9_rulesOfWitness_35 : decode cX9_rulesOfWitness 35 = .ok (.iconst 1, 1) := by decide +kernel
theorem dX9_rulesOfWitness_36 : decode cX9_rulesOfWitness 36 = .ok (.aload_n 0, 1) := by decide +kernel
theorem dX9_rulesOfWitness_37 : decode cX9_rulesOfWitness 37 = .ok (.getfield 12, 3) := by decide +kernel
theorem dX9_rulesOfWitness_40 : decode cX9_rulesOfWitness 40 = .ok (.getfield 93, 3) := by decide +kernel
theorem dX9_rulesOfWitness_43 : decode cX9_rulesOfWitness 43 = .ok (.ishl, 1) := by decide +kernel
theorem dX9_rulesOfWitness_44 : decode cX9_rulesOfWitness 44 = .ok (.iconst 1, 1) := by decide +kernel
theorem dX9_rulesOfWitness_45 : decode cX9_rulesOfWitness 45 = .ok (.isub, 1) := by decide +kernel
theorem dX9_rulesOfWitness_46 : decode cX9_rulesOfWitness 46 = .ok (.ireturn, 1) := by decide +kernel
theorem dX9_readText_0 : decode cX9_readText 0 = .ok (.aload_n 0, 1) := by decide +kernel
theorem dX9_readText_1 : decode cX9_readText 1 = .ok (.getfield 16, 3) := by decide +kernel
theorem dX9_readText_4 : decode cX9_readText 4 = .ok (.aload_n 0, 1) := by decide +kernel
theorem dX9_readText_5 : decode cX9_readText 5 = .ok (.getfield 12, 3) := by decide +kernel
theorem dX9_readText_8 : decode cX9_readText 8 = .ok (.invokevirtual 248, 3) := by decide +kernel
theorem dX9_readText_11 : decode cX9_readText 11 = .ok (.aload_n 0, 1) := by decide +kernel
theorem dX9_readText_12 : decode cX9_readText 12 = .ok (.getfield 29, 3) := by decide +kernel
theorem dX9_readText_15 : decode cX9_readText 15 = .ok (.aload_n 0, 1) := by decide +kernel
theorem dX9_readText_16 : decode cX9_readText 16 = .ok (.getfield 16, 3) := by decide +kernel
theorem dX9_readText_19 : decode cX9_readText 19 = .ok (.invokevirtual 298, 3) := by decide +kernel
theorem dX9_readText_22 : decode cX9_readText 22 = .ok (.ireturn, 1) := by decide +kernel
theorem dX9_headOf_0 : decode cX9_headOf 0 = .ok (.iload_n 0, 1) := by decide +kernel
theorem dX9_headOf_1 : decode cX9_headOf 1 = .ok (.iconst 5, 1) := by decide +kernel
theorem dX9_headOf_2 : decode cX9_headOf 2 = .ok (.imul, 1) := by decide +kernel
theorem dX9_headOf_3 : decode cX9_headOf 3 = .ok (.iload_n 1, 1) := by decide +kernel
theorem dX9_headOf_4 : decode cX9_headOf 4 = .ok (.iadd, 1) := by decide +kernel
theorem dX9_headOf_5 : decode cX9_headOf 5 = .ok (.iconst 1, 1) := by decide +kernel
theorem dX9_headOf_6 : decode cX9_headOf 6 = .ok (.isub, 1) := by decide +kernel
theorem dX9_headOf_7 : decode cX9_headOf 7 = .ok (.ireturn, 1) := by decide +kernel
theorem dX9_weightOf_0 : decode cX9_weightOf 0 = .ok (.lload_n 0, 1) := by decide +kernel
theorem dX9_weightOf_1 : decode cX9_weightOf 1 = .ok (.bipush 24, 2) := by decide +kernel
theorem dX9_weightOf_3 : decode cX9_weightOf 3 = .ok (.lshr, 1) := by decide +kernel
theorem dX9_weightOf_4 : decode cX9_weightOf 4 = .ok (.l2i, 1) := by decide +kernel
theorem dX9_weightOf_5 : decode cX9_weightOf 5 = .ok (.ireturn, 1) := by decide +kernel
theorem dX9_countOf_0 : decode cX9_countOf 0 = .ok (.lload_n 0, 1) := by decide +kernel
theorem dX9_countOf_1 : decode cX9_countOf 1 = .ok (.ldc2_w 302, 3) := by decide +kernel
theorem dX9_countOf_4 : decode cX9_countOf 4 = .ok (.land, 1) := by decide +kernel
theorem dX9_countOf_5 : decode cX9_countOf 5 = .ok (.l2i, 1) := by decide +kernel
theorem dX9_countOf_6 : decode cX9_countOf 6 = .ok (.ireturn, 1) := by decide +kernel
theorem dX9_costOfWeight_0 : decode cX9_costOfWeight 0 = .ok (.iload_n 0, 1) := by decide +kernel
theorem dX9_costOfWeight_1 : decode cX9_costOfWeight 1 = .ok (.i2l, 1) := by decide +kernel
theorem dX9_costOfWeight_2 : decode cX9_costOfWeight 2 = .ok (.bipush 24, 2) := by decide +kernel
theorem dX9_costOfWeight_4 : decode cX9_costOfWeight 4 = .ok (.lshl, 1) := by decide +kernel
theorem dX9_costOfWeight_5 : decode cX9_costOfWeight 5 = .ok (.lreturn, 1) := by decide +kernel
theorem dX9_weightOrNone_0 : decode cX9_weightOrNone 0 = .ok (.lload_n 0, 1) := by decide +kernel
theorem dX9_weightOrNone_1 : decode cX9_weightOrNone 1 = .ok (.ldc2_w 181, 3) := by decide +kernel
theorem dX9_weightOrNone_4 : decode cX9_weightOrNone 4 = .ok (.lcmp, 1) := by decide +kernel
theorem dX9_weightOrNone_5 : decode cX9_weightOrNone 5 = .ok (.ifCond .lt 8, 3) := by decide +kernel
theorem dX9_weightOrNone_8 : decode cX9_weightOrNone 8 = .ok (.bipush (-6), 2) := by decide +kernel
theorem dX9_weightOrNone_10 : decode cX9_weightOrNone 10 = .ok (.goto 7, 3) := by decide +kernel
theorem dX9_weightOrNone_13 : decode cX9_weightOrNone 13 = .ok (.lload_n 0, 1) := by decide +kernel
theorem dX9_weightOrNone_14 : decode cX9_weightOrNone 14 = .ok (.invokestatic 196, 3) := by decide +kernel
theorem dX9_weightOrNone_17 : decode cX9_weightOrNone 17 = .ok (.ireturn, 1) := by decide +kernel
theorem dX9_lower_0 : decode cX9_lower 0 = .ok (.lload_n 2, 1) := by decide +kernel
theorem dX9_lower_1 : decode cX9_lower 1 = .ok (.aload_n 0, 1) := by decide +kernel
theorem dX9_lower_2 : decode cX9_lower 2 = .ok (.iload_n 1, 1) := by decide +kernel
theorem dX9_lower_3 : decode cX9_lower 3 = .ok (.laload, 1) := by decide +kernel
theorem dX9_lower_4 : decode cX9_lower 4 = .ok (.lcmp, 1) := by decide +kernel
theorem dX9_lower_5 : decode cX9_lower 5 = .ok (.ifCond .lt 5, 3) := by decide +kernel
theorem dX9_lower_8 : decode cX9_lower 8 = .ok (.iconst 0, 1) := by decide +kernel
theorem dX9_lower_9 : decode cX9_lower 9 = .ok (.ireturn, 1) := by decide +kernel
theorem dX9_lower_10 : decode cX9_lower 10 = .ok (.aload_n 0, 1) := by decide +kernel
theorem dX9_lower_11 : decode cX9_lower 11 = .ok (.iload_n 1, 1) := by decide +kernel
theorem dX9_lower_12 : decode cX9_lower 12 = .ok (.lload_n 2, 1) := by decide +kernel
theorem dX9_lower_13 : decode cX9_lower 13 = .ok (.lastore, 1) := by decide +kernel
theorem dX9_lower_14 : decode cX9_lower 14 = .ok (.iconst 1, 1) := by decide +kernel
theorem dX9_lower_15 : decode cX9_lower 15 = .ok (.ireturn, 1) := by decide +kernel
theorem dX9_digitsOf_0 : decode cX9_digitsOf 0 = .ok (.iconst 0, 1) := by decide +kernel
theorem dX9_digitsOf_1 : decode cX9_digitsOf 1 = .ok (.istore_n 1, 1) := by decide +kernel
theorem dX9_digitsOf_2 : decode cX9_digitsOf 2 = .ok (.iload_n 0, 1) := by decide +kernel
theorem dX9_digitsOf_3 : decode cX9_digitsOf 3 = .ok (.istore_n 2, 1) := by decide +kernel
theorem dX9_digitsOf_4 : decode cX9_digitsOf 4 = .ok (.iconst 0, 1) := by decide +kernel
theorem dX9_digitsOf_5 : decode cX9_digitsOf 5 = .ok (.istore_n 3, 1) := by decide +kernel
theorem dX9_digitsOf_6 : decode cX9_digitsOf 6 = .ok (.iload_n 3, 1) := by decide +kernel
theorem dX9_digitsOf_7 : decode cX9_digitsOf 7 = .ok (.bipush 10, 2) := by decide +kernel
theorem dX9_digitsOf_9 : decode cX9_digitsOf 9 = .ok (.if_icmp .ge 21, 3) := by decide +kernel
theorem dX9_digitsOf_12 : decode cX9_digitsOf 12 = .ok (.iload_n 2, 1) := by decide +kernel
theorem dX9_digitsOf_13 : decode cX9_digitsOf 13 = .ok (.ifCond .le 17, 3) := by decide +kernel
theorem dX9_digitsOf_16 : decode cX9_digitsOf 16 = .ok (.iload_n 2, 1) := by decide +kernel
theorem dX9_digitsOf_17 : decode cX9_digitsOf 17 = .ok (.bipush 10, 2) := by decide +kernel
theorem dX9_digitsOf_19 : decode cX9_digitsOf 19 = .ok (.idiv, 1) := by decide +kernel
theorem dX9_digitsOf_20 : decode cX9_digitsOf 20 = .ok (.istore_n 2, 1) := by decide +kernel
theorem dX9_digitsOf_21 : decode cX9_digitsOf 21 = .ok (.iinc 1 1, 3) := by decide +kernel
theorem dX9_digitsOf_24 : decode cX9_digitsOf 24 = .ok (.iinc 3 1, 3) := by decide +kernel
theorem dX9_digitsOf_27 : decode cX9_digitsOf 27 = .ok (.goto (-21), 3) := by decide +kernel
theorem dX9_digitsOf_30 : decode cX9_digitsOf 30 = .ok (.iload_n 1, 1) := by decide +kernel
theorem dX9_digitsOf_31 : decode cX9_digitsOf 31 = .ok (.ireturn, 1) := by decide +kernel
theorem dX9_sourceOf_0 : decode cX9_sourceOf 0 = .ok (.iload_n 0, 1) := by decide +kernel
theorem dX9_sourceOf_1 : decode cX9_sourceOf 1 = .ok (.ifCond .lt 10, 3) := by decide +kernel
theorem dX9_sourceOf_4 : decode cX9_sourceOf 4 = .ok (.iload_n 0, 1) := by decide +kernel
theorem dX9_sourceOf_5 : decode cX9_sourceOf 5 = .ok (.iconst 4, 1) := by decide +kernel
theorem dX9_sourceOf_6 : decode cX9_sourceOf 6 = .ok (.if_icmp .ge 5, 3) := by decide +kernel
theorem dX9_sourceOf_9 : decode cX9_sourceOf 9 = .ok (.iload_n 0, 1) := by decide +kernel
theorem dX9_sourceOf_10 : decode cX9_sourceOf 10 = .ok (.ireturn, 1) := by decide +kernel
theorem dX9_sourceOf_11 : decode cX9_sourceOf 11 = .ok (.iload_n 0, 1) := by decide +kernel
theorem dX9_sourceOf_12 : decode cX9_sourceOf 12 = .ok (.bipush 10, 2) := by decide +kernel
theorem dX9_sourceOf_14 : decode cX9_sourceOf 14 = .ok (.if_icmp .lt 16, 3) := by decide +kernel
theorem dX9_sourceOf_17 : decode cX9_sourceOf 17 = .ok (.iload_n 0, 1) := by decide +kernel
theorem dX9_sourceOf_18 : decode cX9_sourceOf 18 = .ok (.bipush 30, 2) := by decide +kernel
theorem dX9_sourceOf_20 : decode cX9_sourceOf 20 = .ok (.if_icmp .ge 10, 3) := by decide +kernel
theorem dX9_sourceOf_23 : decode cX9_sourceOf 23 = .ok (.iload_n 0, 1) := by decide +kernel
theorem dX9_sourceOf_24 : decode cX9_sourceOf 24 = .ok (.bipush 10, 2) := by decide +kernel
theorem dX9_sourceOf_26 : decode cX9_sourceOf 26 = .ok (.isub, 1) := by decide +kernel
theorem dX9_sourceOf_27 : decode cX9_sourceOf 27 = .ok (.iconst 4, 1) := by decide +kernel
theorem dX9_sourceOf_28 : decode cX9_sourceOf 28 = .ok (.iadd, 1) := by decide +kernel
theorem dX9_sourceOf_29 : decode cX9_sourceOf 29 = .ok (.ireturn, 1) := by decide +kernel
theorem dX9_sourceOf_30 : decode cX9_sourceOf 30 = .ok (.iload_n 0, 1) := by decide +kernel
theorem dX9_sourceOf_31 : decode cX9_sourceOf 31 = .ok (.bipush 31, 2) := by decide +kernel
theorem dX9_sourceOf_33 : decode cX9_sourceOf 33 = .ok (.if_icmp .lt 19, 3) := by decide +kernel
theorem dX9_sourceOf_36 : decode cX9_sourceOf 36 = .ok (.iload_n 0, 1) := by decide +kernel
theorem dX9_sourceOf_37 : decode cX9_sourceOf 37 = .ok (.bipush 35, 2) := by decide +kernel
theorem dX9_sourceOf_39 : decode cX9_sourceOf 39 = .ok (.if_icmp .ge 13, 3) := by decide +kernel
theorem dX9_sourceOf_42 : decode cX9_sourceOf 42 = .ok (.iload_n 0, 1) := by decide +kernel
theorem dX9_sourceOf_43 : decode cX9_sourceOf 43 = .ok (.bipush 31, 2) := by decide +kernel
theorem dX9_sourceOf_45 : decode cX9_sourceOf 45 = .ok (.isub, 1) := by decide +kernel
theorem dX9_sourceOf_46 : decode cX9_sourceOf 46 = .ok (.iconst 4, 1) := by decide +kernel
theorem dX9_sourceOf_47 : decode cX9_sourceOf 47 = .ok (.iadd, 1) := by decide +kernel
theorem dX9_sourceOf_48 : decode cX9_sourceOf 48 = .ok (.bipush 20, 2) := by decide +kernel
theorem dX9_sourceOf_50 : decode cX9_sourceOf 50 = .ok (.iadd, 1) := by decide +kernel
theorem dX9_sourceOf_51 : decode cX9_sourceOf 51 = .ok (.ireturn, 1) := by decide +kernel
theorem dX9_sourceOf_52 : decode cX9_sourceOf 52 = .ok (.iconst (-1), 1) := by decide +kernel
theorem dX9_sourceOf_53 : decode cX9_sourceOf 53 = .ok (.ireturn, 1) := by decide +kernel
theorem dX9_nodeOf_0 : decode cX9_nodeOf 0 = .ok (.iload_n 0, 1) := by decide +kernel
theorem dX9_nodeOf_1 : decode cX9_nodeOf 1 = .ok (.iconst 4, 1) := by decide +kernel
theorem dX9_nodeOf_2 : decode cX9_nodeOf 2 = .ok (.if_icmp .ge 5, 3) := by decide +kernel
theorem dX9_nodeOf_5 : decode cX9_nodeOf 5 = .ok (.iload_n 0, 1) := by decide +kernel
theorem dX9_nodeOf_6 : decode cX9_nodeOf 6 = .ok (.ireturn, 1) := by decide +kernel
theorem dX9_nodeOf_7 : decode cX9_nodeOf 7 = .ok (.iload_n 0, 1) := by decide +kernel
theorem dX9_nodeOf_8 : decode cX9_nodeOf 8 = .ok (.iconst 4, 1) := by decide +kernel
theorem dX9_nodeOf_9 : decode cX9_nodeOf 9 = .ok (.isub, 1) := by decide +kernel
theorem dX9_nodeOf_10 : decode cX9_nodeOf 10 = .ok (.istore_n 1, 1) := by decide +kernel
theorem dX9_nodeOf_11 : decode cX9_nodeOf 11 = .ok (.iload_n 1, 1) := by decide +kernel
theorem dX9_nodeOf_12 : decode cX9_nodeOf 12 = .ok (.bipush 20, 2) := by decide +kernel
theorem dX9_nodeOf_14 : decode cX9_nodeOf 14 = .ok (.if_icmp .ge 10, 3) := by decide +kernel
theorem dX9_nodeOf_17 : decode cX9_nodeOf 17 = .ok (.bipush 10, 2) := by decide +kernel
theorem dX9_nodeOf_19 : decode cX9_nodeOf 19 = .ok (.iload_n 1, 1) := by decide +kernel
theorem dX9_nodeOf_20 : decode cX9_nodeOf 20 = .ok (.iadd, 1) := by decide +kernel
theorem dX9_nodeOf_21 : decode cX9_nodeOf 21 = .ok (.goto 10, 3) := by decide +kernel
theorem dX9_nodeOf_24 : decode cX9_nodeOf 24 = .ok (.bipush 31, 2) := by decide +kernel
theorem dX9_nodeOf_26 : decode cX9_nodeOf 26 = .ok (.iload_n 1, 1) := by decide +kernel
theorem dX9_nodeOf_27 : decode cX9_nodeOf 27 = .ok (.iadd, 1) := by decide +kernel
theorem dX9_nodeOf_28 : decode cX9_nodeOf 28 = .ok (.bipush 20, 2) := by decide +kernel
theorem dX9_nodeOf_30 : decode cX9_nodeOf 30 = .ok (.isub, 1) := by decide +kernel
theorem dX9_nodeOf_31 : decode cX9_nodeOf 31 = .ok (.ireturn, 1) := by decide +kernel
theorem dL_law_0 : decode cL_law 0 = .ok (.new 7, 3) := by decide +kernel
theorem dL_law_3 : decode cL_law 3 = .ok (.dup, 1) := by decide +kernel
theorem dL_law_4 : decode cL_law 4 = .ok (.invokespecial 9, 3) := by decide +kernel
theorem dL_law_7 : decode cL_law 7 = .ok (.astore_n 1, 1) := by decide +kernel
theorem dL_law_8 : decode cL_law 8 = .ok (.new 10, 3) := by decide +kernel
theorem dL_law_11 : decode cL_law 11 = .ok (.dup, 1) := by decide +kernel
theorem dL_law_12 : decode cL_law 12 = .ok (.invokespecial 12, 3) := by decide +kernel
theorem dL_law_15 : decode cL_law 15 = .ok (.astore_n 2, 1) := by decide +kernel
theorem dL_law_16 : decode cL_law 16 = .ok (.iconst 0, 1) := by decide +kernel
theorem dL_law_17 : decode cL_law 17 = .ok (.istore_n 3, 1) := by decide +kernel
theorem dL_law_18 : decode cL_law 18 = .ok (.iload_n 3, 1) := by decide +kernel
theorem dL_law_19 : decode cL_law 19 = .ok (.aload_n 0, 1) := by decide +kernel
theorem dL_law_20 : decode cL_law 20 = .ok (.arraylength, 1) := by decide +kernel
theorem dL_law_21 : decode cL_law 21 = .ok (.bipush 6, 2) := by decide +kernel
theorem dL_law_23 : decode cL_law 23 = .ok (.isub, 1) := by decide +kernel
theorem dL_law_24 : decode cL_law 24 = .ok (.if_icmp .gt 1009, 3) := by decide +kernel
theorem dL_law_27 : decode cL_law 27 = .ok (.aload_n 0, 1) := by decide +kernel
theorem dL_law_28 : decode cL_law 28 = .ok (.iload_n 3, 1) := by decide +kernel
theorem dL_law_29 : decode cL_law 29 = .ok (.iaload, 1) := by decide +kernel
theorem dL_law_30 : decode cL_law 30 = .ok (.bipush 31, 2) := by decide +kernel
theorem dL_law_32 : decode cL_law 32 = .ok (.iand, 1) := by decide +kernel
theorem dL_law_33 : decode cL_law 33 = .ok (.tableswitch 994 0 26 #[123, 156, 219, 242, 275, 308, 321, 344, 377, 410, 443, 496, 559, 592, 625, 638, 681, 724, 737, 770, 813, 856, 889, 932, 955, 968, 981], 123) := by decide +kernel
theorem dL_law_156 : decode cL_law 156 = .ok (.aload_n 1, 1) := by decide +kernel
theorem dL_law_157 : decode cL_law 157 = .ok (.aload_n 0, 1) := by decide +kernel
theorem dL_law_158 : decode cL_law 158 = .ok (.iload_n 3, 1) := by decide +kernel
theorem dL_law_159 : decode cL_law 159 = .ok (.iconst 1, 1) := by decide +kernel
theorem dL_law_160 : decode cL_law 160 = .ok (.iadd, 1) := by decide +kernel
theorem dL_law_161 : decode cL_law 161 = .ok (.iaload, 1) := by decide +kernel
theorem dL_law_162 : decode cL_law 162 = .ok (.aload_n 0, 1) := by decide +kernel
theorem dL_law_163 : decode cL_law 163 = .ok (.iload_n 3, 1) := by decide +kernel
theorem dL_law_164 : decode cL_law 164 = .ok (.iconst 2, 1) := by decide +kernel
theorem dL_law_165 : decode cL_law 165 = .ok (.iadd, 1) := by decide +kernel
theorem dL_law_166 : decode cL_law 166 = .ok (.iaload, 1) := by decide +kernel
theorem dL_law_167 : decode cL_law 167 = .ok (.invokevirtual 13, 3) := by decide +kernel
theorem dL_law_170 : decode cL_law 170 = .ok (.aload_n 2, 1) := by decide +kernel
theorem dL_law_171 : decode cL_law 171 = .ok (.aload_n 0, 1) := by decide +kernel
theorem dL_law_172 : decode cL_law 172 = .ok (.iload_n 3, 1) := by decide +kernel
theorem dL_law_173 : decode cL_law 173 = .ok (.iconst 1, 1) := by decide +kernel
theorem dL_law_174 : decode cL_law 174 = .ok (.iadd, 1) := by decide +kernel
theorem dL_law_175 : decode cL_law 175 = .ok (.iaload, 1) := by decide +kernel
theorem dL_law_176 : decode cL_law 176 = .ok (.aload_n 0, 1) := by decide +kernel
theorem dL_law_177 : decode cL_law 177 = .ok (.iload_n 3, 1) := by decide +kernel
theorem dL_law_178 : decode cL_law 178 = .ok (.iconst 2, 1) := by decide +kernel
theorem dL_law_179 : decode cL_law 179 = .ok (.iadd, 1) := by decide +kernel
theorem dL_law_180 : decode cL_law 180 = .ok (.iaload, 1) := by decide +kernel
theorem dL_law_181 : decode cL_law 181 = .ok (.invokevirtual 17, 3) := by decide +kernel
theorem dL_law_184 : decode cL_law 184 = .ok (.if_icmp .eq 843, 3) := by decide +kernel
theorem dL_law_187 : decode cL_law 187 = .ok (.iconst 0, 1) := by decide +kernel
theorem dL_law_188 : decode cL_law 188 = .ok (.ireturn, 1) := by decide +kernel
theorem dL_law_189 : decode cL_law 189 = .ok (.aload_n 1, 1) := by decide +kernel
theorem dL_law_190 : decode cL_law 190 = .ok (.aload_n 0, 1) := by decide +kernel
theorem dL_law_191 : decode cL_law 191 = .ok (.iload_n 3, 1) := by decide +kernel
theorem dL_law_192 : decode cL_law 192 = .ok (.iconst 1, 1) := by decide +kernel
theorem dL_law_193 : decode cL_law 193 = .ok (.iadd, 1) := by decide +kernel
theorem dL_law_194 : decode cL_law 194 = .ok (.iaload, 1) := by decide +kernel
theorem dL_law_195 : decode cL_law 195 = .ok (.aload_n 0, 1) := by decide +kernel
theorem dL_law_196 : decode cL_law 196 = .ok (.iload_n 3, 1) := by decide +kernel
theorem dL_law_197 : decode cL_law 197 = .ok (.iconst 2, 1) := by decide +kernel
theorem dL_law_198 : decode cL_law 198 = .ok (.iadd, 1) := by decide +kernel
theorem dL_law_199 : decode cL_law 199 = .ok (.iaload, 1) := by decide +kernel
theorem dL_law_200 : decode cL_law 200 = .ok (.aload_n 0, 1) := by decide +kernel
theorem dL_law_201 : decode cL_law 201 = .ok (.iload_n 3, 1) := by decide +kernel
theorem dL_law_202 : decode cL_law 202 = .ok (.iconst 3, 1) := by decide +kernel
theorem dL_law_203 : decode cL_law 203 = .ok (.iadd, 1) := by decide +kernel
theorem dL_law_204 : decode cL_law 204 = .ok (.iaload, 1) := by decide +kernel
theorem dL_law_205 : decode cL_law 205 = .ok (.aload_n 0, 1) := by decide +kernel
theorem dL_law_206 : decode cL_law 206 = .ok (.iload_n 3, 1) := by decide +kernel
theorem dL_law_207 : decode cL_law 207 = .ok (.iconst 4, 1) := by decide +kernel
theorem dL_law_208 : decode cL_law 208 = .ok (.iadd, 1) := by decide +kernel
theorem dL_law_209 : decode cL_law 209 = .ok (.iaload, 1) := by decide +kernel
theorem dL_law_210 : decode cL_law 210 = .ok (.aload_n 0, 1) := by decide +kernel
theorem dL_law_211 : decode cL_law 211 = .ok (.iload_n 3, 1) := by decide +kernel
theorem dL_law_212 : decode cL_law 212 = .ok (.iconst 5, 1) := by decide +kernel
theorem dL_law_213 : decode cL_law 213 = .ok (.iadd, 1) := by decide +kernel
theorem dL_law_214 : decode cL_law 214 = .ok (.iaload, 1) := by decide +kernel
theorem dL_law_215 : decode cL_law 215 = .ok (.invokevirtual 18, 3) := by decide +kernel
theorem dL_law_218 : decode cL_law 218 = .ok (.aload_n 2, 1) := by decide +kernel
theorem dL_law_219 : decode cL_law 219 = .ok (.aload_n 0, 1) := by decide +kernel
theorem dL_law_220 : decode cL_law 220 = .ok (.iload_n 3, 1) := by decide +kernel
theorem dL_law_221 : decode cL_law 221 = .ok (.iconst 1, 1) := by decide +kernel
theorem dL_law_222 : decode cL_law 222 = .ok (.iadd, 1) := by decide +kernel
theorem dL_law_223 : decode cL_law 223 = .ok (.iaload, 1) := by decide +kernel
theorem dL_law_224 : decode cL_law 224 = .ok (.aload_n 0, 1) := by decide +kernel
theorem dL_law_225 : decode cL_law 225 = .ok (.iload_n 3, 1) := by decide +kernel
theorem dL_law_226 : decode cL_law 226 = .ok (.iconst 2, 1) := by decide +kernel
theorem dL_law_227 : decode cL_law 227 = .ok (.iadd, 1) := by decide +kernel
theorem dL_law_228 : decode cL_law 228 = .ok (.iaload, 1) := by decide +kernel
theorem dL_law_229 : decode cL_law 229 = .ok (.aload_n 0, 1) := by decide +kernel
theorem dL_law_230 : decode cL_law 230 = .ok (.iload_n 3, 1) := by decide +kernel
theorem dL_law_231 : decode cL_law 231 = .ok (.iconst 3, 1) := by decide +kernel
theorem dL_law_232 : decode cL_law 232 = .ok (.iadd, 1) := by decide +kernel
theorem dL_law_233 : decode cL_law 233 = .ok (.iaload, 1) := by decide +kernel
theorem dL_law_234 : decode cL_law 234 = .ok (.aload_n 0, 1) := by decide +kernel
theorem dL_law_235 : decode cL_law 235 = .ok (.iload_n 3, 1) := by decide +kernel
theorem dL_law_236 : decode cL_law 236 = .ok (.iconst 4, 1) := by decide +kernel
theorem dL_law_237 : decode cL_law 237 = .ok (.iadd, 1) := by decide +kernel
theorem dL_law_238 : decode cL_law 238 = .ok (.iaload, 1) := by decide +kernel
theorem dL_law_239 : decode cL_law 239 = .ok (.aload_n 0, 1) := by decide +kernel
theorem dL_law_240 : decode cL_law 240 = .ok (.iload_n 3, 1) := by decide +kernel
theorem dL_law_241 : decode cL_law 241 = .ok (.iconst 5, 1) := by decide +kernel
theorem dL_law_242 : decode cL_law 242 = .ok (.iadd, 1) := by decide +kernel
theorem dL_law_243 : decode cL_law 243 = .ok (.iaload, 1) := by decide +kernel
theorem dL_law_244 : decode cL_law 244 = .ok (.invokevirtual 22, 3) := by decide +kernel
theorem dL_law_247 : decode cL_law 247 = .ok (.if_icmp .eq 780, 3) := by decide +kernel
theorem dL_law_250 : decode cL_law 250 = .ok (.iconst 0, 1) := by decide +kernel
theorem dL_law_251 : decode cL_law 251 = .ok (.ireturn, 1) := by decide +kernel
theorem dL_law_252 : decode cL_law 252 = .ok (.aload_n 1, 1) := by decide +kernel
theorem dL_law_253 : decode cL_law 253 = .ok (.aload_n 0, 1) := by decide +kernel
theorem dL_law_254 : decode cL_law 254 = .ok (.iload_n 3, 1) := by decide +kernel
theorem dL_law_255 : decode cL_law 255 = .ok (.iconst 1, 1) := by decide +kernel
theorem dL_law_256 : decode cL_law 256 = .ok (.iadd, 1) := by decide +kernel
theorem dL_law_257 : decode cL_law 257 = .ok (.iaload, 1) := by decide +kernel
theorem dL_law_258 : decode cL_law 258 = .ok (.invokevirtual 23, 3) := by decide +kernel
theorem dL_law_261 : decode cL_law 261 = .ok (.aload_n 2, 1) := by decide +kernel
theorem dL_law_262 : decode cL_law 262 = .ok (.aload_n 0, 1) := by decide +kernel
theorem dL_law_263 : decode cL_law 263 = .ok (.iload_n 3, 1) := by decide +kernel
theorem dL_law_264 : decode cL_law 264 = .ok (.iconst 1, 1) := by decide +kernel
theorem dL_law_265 : decode cL_law 265 = .ok (.iadd, 1) := by decide +kernel
theorem dL_law_266 : decode cL_law 266 = .ok (.iaload, 1) := by decide +kernel
theorem dL_law_267 : decode cL_law 267 = .ok (.invokevirtual 27, 3) := by decide +kernel
theorem dL_law_270 : decode cL_law 270 = .ok (.if_icmp .eq 757, 3) := by decide +kernel
theorem dL_law_273 : decode cL_law 273 = .ok (.iconst 0, 1) := by decide +kernel
theorem dL_law_274 : decode cL_law 274 = .ok (.ireturn, 1) := by decide +kernel
theorem dL_law_275 : decode cL_law 275 = .ok (.aload_n 1, 1) := by decide +kernel
theorem dL_law_276 : decode cL_law 276 = .ok (.aload_n 0, 1) := by decide +kernel
theorem dL_law_277 : decode cL_law 277 = .ok (.iload_n 3, 1) := by decide +kernel
theorem dL_law_278 : decode cL_law 278 = .ok (.iconst 1, 1) := by decide +kernel
theorem dL_law_279 : decode cL_law 279 = .ok (.iadd, 1) := by decide +kernel
theorem dL_law_280 : decode cL_law 280 = .ok (.iaload, 1) := by decide +kernel
theorem dL_law_281 : decode cL_law 281 = .ok (.aload_n 0, 1) := by decide +kernel
theorem dL_law_282 : decode cL_law 282 = .ok (.iload_n 3, 1) := by decide +kernel
theorem dL_law_283 : decode cL_law 283 = .ok (.iconst 2, 1) := by decide +kernel
theorem dL_law_284 : decode cL_law 284 = .ok (.iadd, 1) := by decide +kernel
theorem dL_law_285 : decode cL_law 285 = .ok (.iaload, 1) := by decide +kernel
theorem dL_law_286 : decode cL_law 286 = .ok (.invokevirtual 28, 3) := by decide +kernel
theorem dL_law_289 : decode cL_law 289 = .ok (.aload_n 2, 1) := by decide +kernel
theorem dL_law_290 : decode cL_law 290 = .ok (.aload_n 0, 1) := by decide +kernel
theorem dL_law_291 : decode cL_law 291 = .ok (.iload_n 3, 1) := by decide +kernel
theorem dL_law_292 : decode cL_law 292 = .ok (.iconst 1, 1) := by decide +kernel
theorem dL_law_293 : decode cL_law 293 = .ok (.iadd, 1) := by decide +kernel
theorem dL_law_294 : decode cL_law 294 = .ok (.iaload, 1) := by decide +kernel
theorem dL_law_295 : decode cL_law 295 = .ok (.aload_n 0, 1) := by decide +kernel
theorem dL_law_296 : decode cL_law 296 = .ok (.iload_n 3, 1) := by decide +kernel
theorem dL_law_297 : decode cL_law 297 = .ok (.iconst 2, 1) := by decide +kernel
theorem dL_law_298 : decode cL_law 298 = .ok (.iadd, 1) := by decide +kernel
theorem dL_law_299 : decode cL_law 299 = .ok (.iaload, 1) := by decide +kernel
theorem dL_law_300 : decode cL_law 300 = .ok (.invokevirtual 31, 3) := by decide +kernel
theorem dL_law_303 : decode cL_law 303 = .ok (.if_icmp .eq 724, 3) := by decide +kernel
theorem dL_law_306 : decode cL_law 306 = .ok (.iconst 0, 1) := by decide +kernel
theorem dL_law_307 : decode cL_law 307 = .ok (.ireturn, 1) := by decide +kernel
theorem dL_law_308 : decode cL_law 308 = .ok (.aload_n 1, 1) := by decide +kernel
theorem dL_law_309 : decode cL_law 309 = .ok (.aload_n 0, 1) := by decide +kernel
theorem dL_law_310 : decode cL_law 310 = .ok (.iload_n 3, 1) := by decide +kernel
theorem dL_law_311 : decode cL_law 311 = .ok (.iconst 1, 1) := by decide +kernel
theorem dL_law_312 : decode cL_law 312 = .ok (.iadd, 1) := by decide +kernel
theorem dL_law_313 : decode cL_law 313 = .ok (.iaload, 1) := by decide +kernel
theorem dL_law_314 : decode cL_law 314 = .ok (.aload_n 0, 1) := by decide +kernel
theorem dL_law_315 : decode cL_law 315 = .ok (.iload_n 3, 1) := by decide +kernel
theorem dL_law_316 : decode cL_law 316 = .ok (.iconst 2, 1) := by decide +kernel
theorem dL_law_317 : decode cL_law 317 = .ok (.iadd, 1) := by decide +kernel
theorem dL_law_318 : decode cL_law 318 = .ok (.iaload, 1) := by decide +kernel
theorem dL_law_319 : decode cL_law 319 = .ok (.invokevirtual 32, 3) := by decide +kernel
theorem dL_law_322 : decode cL_law 322 = .ok (.aload_n 2, 1) := by decide +kernel
theorem dL_law_323 : decode cL_law 323 = .ok (.aload_n 0, 1) := by decide +kernel
theorem dL_law_324 : decode cL_law 324 = .ok (.iload_n 3, 1) := by decide +kernel
theorem dL_law_325 : decode cL_law 325 = .ok (.iconst 1, 1) := by decide +kernel
theorem dL_law_326 : decode cL_law 326 = .ok (.iadd, 1) := by decide +kernel
theorem dL_law_327 : decode cL_law 327 = .ok (.iaload, 1) := by decide +kernel
theorem dL_law_328 : decode cL_law 328 = .ok (.aload_n 0, 1) := by decide +kernel
theorem dL_law_329 : decode cL_law 329 = .ok (.iload_n 3, 1) := by decide +kernel
theorem dL_law_330 : decode cL_law 330 = .ok (.iconst 2, 1) := by decide +kernel
theorem dL_law_331 : decode cL_law 331 = .ok (.iadd, 1) := by decide +kernel
theorem dL_law_332 : decode cL_law 332 = .ok (.iaload, 1) := by decide +kernel
theorem dL_law_333 : decode cL_law 333 = .ok (.invokevirtual 35, 3) := by decide +kernel
theorem dL_law_336 : decode cL_law 336 = .ok (.if_icmp .eq 691, 3) := by decide +kernel
theorem dL_law_339 : decode cL_law 339 = .ok (.iconst 0, 1) := by decide +kernel
theorem dL_law_340 : decode cL_law 340 = .ok (.ireturn, 1) := by decide +kernel
theorem dL_law_341 : decode cL_law 341 = .ok (.aload_n 1, 1) := by decide +kernel
theorem dL_law_342 : decode cL_law 342 = .ok (.invokevirtual 36, 3) := by decide +kernel
theorem dL_law_345 : decode cL_law 345 = .ok (.aload_n 2, 1) := by decide +kernel
theorem dL_law_346 : decode cL_law 346 = .ok (.invokevirtual 40, 3) := by decide +kernel
theorem dL_law_349 : decode cL_law 349 = .ok (.if_icmp .eq 678, 3) := by decide +kernel
theorem dL_law_352 : decode cL_law 352 = .ok (.iconst 0, 1) := by decide +kernel
theorem dL_law_353 : decode cL_law 353 = .ok (.ireturn, 1) := by decide +kernel
theorem dL_law_354 : decode cL_law 354 = .ok (.aload_n 1, 1) := by decide +kernel
theorem dL_law_355 : decode cL_law 355 = .ok (.aload_n 0, 1) := by decide +kernel
theorem dL_law_356 : decode cL_law 356 = .ok (.iload_n 3, 1) := by decide +kernel
theorem dL_law_357 : decode cL_law 357 = .ok (.iconst 1, 1) := by decide +kernel
theorem dL_law_358 : decode cL_law 358 = .ok (.iadd, 1) := by decide +kernel
theorem dL_law_359 : decode cL_law 359 = .ok (.iaload, 1) := by decide +kernel
theorem dL_law_360 : decode cL_law 360 = .ok (.invokevirtual 41, 3) := by decide +kernel
theorem dL_law_363 : decode cL_law 363 = .ok (.aload_n 2, 1) := by decide +kernel
theorem dL_law_364 : decode cL_law 364 = .ok (.aload_n 0, 1) := by decide +kernel
theorem dL_law_365 : decode cL_law 365 = .ok (.iload_n 3, 1) := by decide +kernel
theorem dL_law_366 : decode cL_law 366 = .ok (.iconst 1, 1) := by decide +kernel
theorem dL_law_367 : decode cL_law 367 = .ok (.iadd, 1) := by decide +kernel
theorem dL_law_368 : decode cL_law 368 = .ok (.iaload, 1) := by decide +kernel
theorem dL_law_369 : decode cL_law 369 = .ok (.invokevirtual 44, 3) := by decide +kernel
theorem dL_law_372 : decode cL_law 372 = .ok (.if_icmp .eq 655, 3) := by decide +kernel
theorem dL_law_375 : decode cL_law 375 = .ok (.iconst 0, 1) := by decide +kernel
theorem dL_law_376 : decode cL_law 376 = .ok (.ireturn, 1) := by decide +kernel
theorem dL_law_377 : decode cL_law 377 = .ok (.aload_n 1, 1) := by decide +kernel
theorem dL_law_378 : decode cL_law 378 = .ok (.aload_n 0, 1) := by decide +kernel
theorem dL_law_379 : decode cL_law 379 = .ok (.iload_n 3, 1) := by decide +kernel
theorem dL_law_380 : decode cL_law 380 = .ok (.iconst 1, 1) := by decide +kernel
theorem dL_law_381 : decode cL_law 381 = .ok (.iadd, 1) := by decide +kernel
theorem dL_law_382 : decode cL_law 382 = .ok (.iaload, 1) := by decide +kernel
theorem dL_law_383 : decode cL_law 383 = .ok (.aload_n 0, 1) := by decide +kernel
theorem dL_law_384 : decode cL_law 384 = .ok (.iload_n 3, 1) := by decide +kernel
theorem dL_law_385 : decode cL_law 385 = .ok (.iconst 2, 1) := by decide +kernel
theorem dL_law_386 : decode cL_law 386 = .ok (.iadd, 1) := by decide +kernel
theorem dL_law_387 : decode cL_law 387 = .ok (.iaload, 1) := by decide +kernel
theorem dL_law_388 : decode cL_law 388 = .ok (.invokevirtual 45, 3) := by decide +kernel
theorem dL_law_391 : decode cL_law 391 = .ok (.aload_n 2, 1) := by decide +kernel
theorem dL_law_392 : decode cL_law 392 = .ok (.aload_n 0, 1) := by decide +kernel
theorem dL_law_393 : decode cL_law 393 = .ok (.iload_n 3, 1) := by decide +kernel
theorem dL_law_394 : decode cL_law 394 = .ok (.iconst 1, 1) := by decide +kernel
theorem dL_law_395 : decode cL_law 395 = .ok (.iadd, 1) := by decide +kernel
theorem dL_law_396 : decode cL_law 396 = .ok (.iaload, 1) := by decide +kernel
theorem dL_law_397 : decode cL_law 397 = .ok (.aload_n 0, 1) := by decide +kernel
theorem dL_law_398 : decode cL_law 398 = .ok (.iload_n 3, 1) := by decide +kernel
theorem dL_law_399 : decode cL_law 399 = .ok (.iconst 2, 1) := by decide +kernel
theorem dL_law_400 : decode cL_law 400 = .ok (.iadd, 1) := by decide +kernel
theorem dL_law_401 : decode cL_law 401 = .ok (.iaload, 1) := by decide +kernel
theorem dL_law_402 : decode cL_law 402 = .ok (.invokevirtual 48, 3) := by decide +kernel
theorem dL_law_405 : decode cL_law 405 = .ok (.if_icmp .eq 622, 3) := by decide +kernel
theorem dL_law_408 : decode cL_law 408 = .ok (.iconst 0, 1) := by decide +kernel
theorem dL_law_409 : decode cL_law 409 = .ok (.ireturn, 1) := by decide +kernel
theorem dL_law_410 : decode cL_law 410 = .ok (.aload_n 1, 1) := by decide +kernel
theorem dL_law_411 : decode cL_law 411 = .ok (.aload_n 0, 1) := by decide +kernel
theorem dL_law_412 : decode cL_law 412 = .ok (.iload_n 3, 1) := by decide +kernel
theorem dL_law_413 : decode cL_law 413 = .ok (.iconst 1, 1) := by decide +kernel
theorem dL_law_414 : decode cL_law 414 = .ok (.iadd, 1) := by decide +kernel
theorem dL_law_415 : decode cL_law 415 = .ok (.iaload, 1) := by decide +kernel
theorem dL_law_416 : decode cL_law 416 = .ok (.aload_n 0, 1) := by decide +kernel
theorem dL_law_417 : decode cL_law 417 = .ok (.iload_n 3, 1) := by decide +kernel
theorem dL_law_418 : decode cL_law 418 = .ok (.iconst 2, 1) := by decide +kernel
theorem dL_law_419 : decode cL_law 419 = .ok (.iadd, 1) := by decide +kernel
theorem dL_law_420 : decode cL_law 420 = .ok (.iaload, 1) := by decide +kernel
theorem dL_law_421 : decode cL_law 421 = .ok (.invokevirtual 49, 3) := by decide +kernel
theorem dL_law_424 : decode cL_law 424 = .ok (.aload_n 2, 1) := by decide +kernel
theorem dL_law_425 : decode cL_law 425 = .ok (.aload_n 0, 1) := by decide +kernel
theorem dL_law_426 : decode cL_law 426 = .ok (.iload_n 3, 1) := by decide +kernel
theorem dL_law_427 : decode cL_law 427 = .ok (.iconst 1, 1) := by decide +kernel
theorem dL_law_428 : decode cL_law 428 = .ok (.iadd, 1) := by decide +kernel
theorem dL_law_429 : decode cL_law 429 = .ok (.iaload, 1) := by decide +kernel
theorem dL_law_430 : decode cL_law 430 = .ok (.aload_n 0, 1) := by decide +kernel
theorem dL_law_431 : decode cL_law 431 = .ok (.iload_n 3, 1) := by decide +kernel
theorem dL_law_432 : decode cL_law 432 = .ok (.iconst 2, 1) := by decide +kernel
theorem dL_law_433 : decode cL_law 433 = .ok (.iadd, 1) := by decide +kernel
theorem dL_law_434 : decode cL_law 434 = .ok (.iaload, 1) := by decide +kernel
theorem dL_law_435 : decode cL_law 435 = .ok (.invokevirtual 52, 3) := by decide +kernel
theorem dL_law_438 : decode cL_law 438 = .ok (.if_icmp .eq 589, 3) := by decide +kernel
theorem dL_law_441 : decode cL_law 441 = .ok (.iconst 0, 1) := by decide +kernel
theorem dL_law_442 : decode cL_law 442 = .ok (.ireturn, 1) := by decide +kernel
theorem dL_law_443 : decode cL_law 443 = .ok (.aload_n 1, 1) := by decide +kernel
theorem dL_law_444 : decode cL_law 444 = .ok (.aload_n 0, 1) := by decide +kernel
theorem dL_law_445 : decode cL_law 445 = .ok (.iload_n 3, 1) := by decide +kernel
theorem dL_law_446 : decode cL_law 446 = .ok (.iconst 1, 1) := by decide +kernel
theorem dL_law_447 : decode cL_law 447 = .ok (.iadd, 1) := by decide +kernel
theorem dL_law_448 : decode cL_law 448 = .ok (.iaload, 1) := by decide +kernel
theorem dL_law_449 : decode cL_law 449 = .ok (.aload_n 0, 1) := by decide +kernel
theorem dL_law_450 : decode cL_law 450 = .ok (.iload_n 3, 1) := by decide +kernel
theorem dL_law_451 : decode cL_law 451 = .ok (.iconst 2, 1) := by decide +kernel
theorem dL_law_452 : decode cL_law 452 = .ok (.iadd, 1) := by decide +kernel
theorem dL_law_453 : decode cL_law 453 = .ok (.iaload, 1) := by decide +kernel
theorem dL_law_454 : decode cL_law 454 = .ok (.invokevirtual 53, 3) := by decide +kernel
theorem dL_law_457 : decode cL_law 457 = .ok (.aload_n 2, 1) := by decide +kernel
theorem dL_law_458 : decode cL_law 458 = .ok (.aload_n 0, 1) := by decide +kernel
theorem dL_law_459 : decode cL_law 459 = .ok (.iload_n 3, 1) := by decide +kernel
theorem dL_law_460 : decode cL_law 460 = .ok (.iconst 1, 1) := by decide +kernel
theorem dL_law_461 : decode cL_law 461 = .ok (.iadd, 1) := by decide +kernel
theorem dL_law_462 : decode cL_law 462 = .ok (.iaload, 1) := by decide +kernel
theorem dL_law_463 : decode cL_law 463 = .ok (.aload_n 0, 1) := by decide +kernel
theorem dL_law_464 : decode cL_law 464 = .ok (.iload_n 3, 1) := by decide +kernel
theorem dL_law_465 : decode cL_law 465 = .ok (.iconst 2, 1) := by decide +kernel
theorem dL_law_466 : decode cL_law 466 = .ok (.iadd, 1) := by decide +kernel
theorem dL_law_467 : decode cL_law 467 = .ok (.iaload, 1) := by decide +kernel
theorem dL_law_468 : decode cL_law 468 = .ok (.invokevirtual 56, 3) := by decide +kernel
theorem dL_law_471 : decode cL_law 471 = .ok (.if_icmp .eq 556, 3) := by decide +kernel
theorem dL_law_474 : decode cL_law 474 = .ok (.iconst 0, 1) := by decide +kernel
theorem dL_law_475 : decode cL_law 475 = .ok (.ireturn, 1) := by decide +kernel
theorem dL_law_476 : decode cL_law 476 = .ok (.aload_n 1, 1) := by decide +kernel
theorem dL_law_477 : decode cL_law 477 = .ok (.aload_n 0, 1) := by decide +kernel
theorem dL_law_478 : decode cL_law 478 = .ok (.iload_n 3, 1) := by decide +kernel
theorem dL_law_479 : decode cL_law 479 = .ok (.iconst 1, 1) := by decide +kernel
theorem dL_law_480 : decode cL_law 480 = .ok (.iadd, 1) := by decide +kernel
theorem dL_law_481 : decode cL_law 481 = .ok (.iaload, 1) := by decide +kernel
theorem dL_law_482 : decode cL_law 482 = .ok (.aload_n 0, 1) := by decide +kernel
theorem dL_law_483 : decode cL_law 483 = .ok (.iload_n 3, 1) := by decide +kernel
theorem dL_law_484 : decode cL_law 484 = .ok (.iconst 2, 1) := by decide +kernel
theorem dL_law_485 : decode cL_law 485 = .ok (.iadd, 1) := by decide +kernel
theorem dL_law_486 : decode cL_law 486 = .ok (.iaload, 1) := by decide +kernel
theorem dL_law_487 : decode cL_law 487 = .ok (.aload_n 0, 1) := by decide +kernel
theorem dL_law_488 : decode cL_law 488 = .ok (.iload_n 3, 1) := by decide +kernel
theorem dL_law_489 : decode cL_law 489 = .ok (.iconst 3, 1) := by decide +kernel
theorem dL_law_490 : decode cL_law 490 = .ok (.iadd, 1) := by decide +kernel
theorem dL_law_491 : decode cL_law 491 = .ok (.iaload, 1) := by decide +kernel
theorem dL_law_492 : decode cL_law 492 = .ok (.aload_n 0, 1) := by decide +kernel
theorem dL_law_493 : decode cL_law 493 = .ok (.iload_n 3, 1) := by decide +kernel
theorem dL_law_494 : decode cL_law 494 = .ok (.iconst 4, 1) := by decide +kernel
theorem dL_law_495 : decode cL_law 495 = .ok (.iadd, 1) := by decide +kernel
theorem dL_law_496 : decode cL_law 496 = .ok (.iaload, 1) := by decide +kernel
theorem dL_law_497 : decode cL_law 497 = .ok (.invokevirtual 57, 3) := by decide +kernel
theorem dL_law_500 : decode cL_law 500 = .ok (.aload_n 2, 1) := by decide +kernel
theorem dL_law_501 : decode cL_law 501 = .ok (.aload_n 0, 1) := by decide +kernel
theorem dL_law_502 : decode cL_law 502 = .ok (.iload_n 3, 1) := by decide +kernel
theorem dL_law_503 : decode cL_law 503 = .ok (.iconst 1, 1) := by decide +kernel
theorem dL_law_504 : decode cL_law 504 = .ok (.iadd, 1) := by decide +kernel
theorem dL_law_505 : decode cL_law 505 = .ok (.iaload, 1) := by decide +kernel
theorem dL_law_506 : decode cL_law 506 = .ok (.aload_n 0, 1) := by decide +kernel
theorem dL_law_507 : decode cL_law 507 = .ok (.iload_n 3, 1) := by decide +kernel
theorem dL_law_508 : decode cL_law 508 = .ok (.iconst 2, 1) := by decide +kernel
theorem dL_law_509 : decode cL_law 509 = .ok (.iadd, 1) := by decide +kernel
theorem dL_law_510 : decode cL_law 510 = .ok (.iaload, 1) := by decide +kernel
theorem dL_law_511 : decode cL_law 511 = .ok (.aload_n 0, 1) := by decide +kernel
theorem dL_law_512 : decode cL_law 512 = .ok (.iload_n 3, 1) := by decide +kernel
theorem dL_law_513 : decode cL_law 513 = .ok (.iconst 3, 1) := by decide +kernel
theorem dL_law_514 : decode cL_law 514 = .ok (.iadd, 1) := by decide +kernel
theorem dL_law_515 : decode cL_law 515 = .ok (.iaload, 1) := by decide +kernel
theorem dL_law_516 : decode cL_law 516 = .ok (.aload_n 0, 1) := by decide +kernel
theorem dL_law_517 : decode cL_law 517 = .ok (.iload_n 3, 1) := by decide +kernel
theorem dL_law_518 : decode cL_law 518 = .ok (.iconst 4, 1) := by decide +kernel
theorem dL_law_519 : decode cL_law 519 = .ok (.iadd, 1) := by decide +kernel
theorem dL_law_520 : decode cL_law 520 = .ok (.iaload, 1) := by decide +kernel
theorem dL_law_521 : decode cL_law 521 = .ok (.invokevirtual 61, 3) := by decide +kernel
theorem dL_law_524 : decode cL_law 524 = .ok (.if_icmp .eq 503, 3) := by decide +kernel
theorem dL_law_527 : decode cL_law 527 = .ok (.iconst 0, 1) := by decide +kernel
theorem dL_law_528 : decode cL_law 528 = .ok (.ireturn, 1) := by decide +kernel
theorem dL_law_529 : decode cL_law 529 = .ok (.aload_n 1, 1) := by decide +kernel
theorem dL_law_530 : decode cL_law 530 = .ok (.aload_n 0, 1) := by decide +kernel
theorem dL_law_531 : decode cL_law 531 = .ok (.iload_n 3, 1) := by decide +kernel
theorem dL_law_532 : decode cL_law 532 = .ok (.iconst 1, 1) := by decide +kernel
theorem dL_law_533 : decode cL_law 533 = .ok (.iadd, 1) := by decide +kernel
theorem dL_law_534 : decode cL_law 534 = .ok (.iaload, 1) := by decide +kernel
theorem dL_law_535 : decode cL_law 535 = .ok (.aload_n 0, 1) := by decide +kernel
theorem dL_law_536 : decode cL_law 536 = .ok (.iload_n 3, 1) := by decide +kernel
theorem dL_law_537 : decode cL_law 537 = .ok (.iconst 2, 1) := by decide +kernel
theorem dL_law_538 : decode cL_law 538 = .ok (.iadd, 1) := by decide +kernel
theorem dL_law_539 : decode cL_law 539 = .ok (.iaload, 1) := by decide +kernel
theorem dL_law_540 : decode cL_law 540 = .ok (.invokevirtual 62, 3) := by decide +kernel
theorem dL_law_543 : decode cL_law 543 = .ok (.f2d, 1) := by decide +kernel
theorem dL_law_544 : decode cL_law 544 = .ok (.dstore 4, 2) := by decide +kernel
theorem dL_law_546 : decode cL_law 546 = .ok (.aload_n 2, 1) := by decide +kernel
theorem dL_law_547 : decode cL_law 547 = .ok (.aload_n 0, 1) := by decide +kernel
theorem dL_law_548 : decode cL_law 548 = .ok (.iload_n 3, 1) := by decide +kernel
theorem dL_law_549 : decode cL_law 549 = .ok (.iconst 1, 1) := by decide +kernel
theorem dL_law_550 : decode cL_law 550 = .ok (.iadd, 1) := by decide +kernel
theorem dL_law_551 : decode cL_law 551 = .ok (.iaload, 1) := by decide +kernel
theorem dL_law_552 : decode cL_law 552 = .ok (.aload_n 0, 1) := by decide +kernel
theorem dL_law_553 : decode cL_law 553 = .ok (.iload_n 3, 1) := by decide +kernel
theorem dL_law_554 : decode cL_law 554 = .ok (.iconst 2, 1) := by decide +kernel
theorem dL_law_555 : decode cL_law 555 = .ok (.iadd, 1) := by decide +kernel
theorem dL_law_556 : decode cL_law 556 = .ok (.iaload, 1) := by decide +kernel
theorem dL_law_557 : decode cL_law 557 = .ok (.invokevirtual 66, 3) := by decide +kernel
theorem dL_law_560 : decode cL_law 560 = .ok (.f2d, 1) := by decide +kernel
theorem dL_law_561 : decode cL_law 561 = .ok (.dstore 6, 2) := by decide +kernel
theorem dL_law_563 : decode cL_law 563 = .ok (.dload 4, 2) := by decide +kernel
theorem dL_law_565 : decode cL_law 565 = .ok (.dload 6, 2) := by decide +kernel
theorem dL_law_567 : decode cL_law 567 = .ok (.dcmp .l, 1) := by decide +kernel
theorem dL_law_568 : decode cL_law 568 = .ok (.ifCond .eq 21, 3) := by decide +kernel
theorem dL_law_571 : decode cL_law 571 = .ok (.dload 4, 2) := by decide +kernel
theorem dL_law_573 : decode cL_law 573 = .ok (.dload 4, 2) := by decide +kernel
theorem dL_law_575 : decode cL_law 575 = .ok (.dcmp .l, 1) := by decide +kernel
theorem dL_law_576 : decode cL_law 576 = .ok (.ifCond .eq 11, 3) := by decide +kernel
theorem dL_law_579 : decode cL_law 579 = .ok (.dload 6, 2) := by decide +kernel
theorem dL_law_581 : decode cL_law 581 = .ok (.dload 6, 2) := by decide +kernel
theorem dL_law_583 : decode cL_law 583 = .ok (.dcmp .l, 1) := by decide +kernel
theorem dL_law_584 : decode cL_law 584 = .ok (.ifCond .ne 5, 3) := by decide +kernel
theorem dL_law_587 : decode cL_law 587 = .ok (.iconst 0, 1) := by decide +kernel
theorem dL_law_588 : decode cL_law 588 = .ok (.ireturn, 1) := by decide +kernel
theorem dL_law_589 : decode cL_law 589 = .ok (.goto 438, 3) := by decide +kernel
theorem dL_law_592 : decode cL_law 592 = .ok (.aload_n 1, 1) := by decide +kernel
theorem dL_law_593 : decode cL_law 593 = .ok (.aload_n 0, 1) := by decide +kernel
theorem dL_law_594 : decode cL_law 594 = .ok (.iload_n 3, 1) := by decide +kernel
theorem dL_law_595 : decode cL_law 595 = .ok (.iconst 1, 1) := by decide +kernel
theorem dL_law_596 : decode cL_law 596 = .ok (.iadd, 1) := by decide +kernel
theorem dL_law_597 : decode cL_law 597 = .ok (.iaload, 1) := by decide +kernel
theorem dL_law_598 : decode cL_law 598 = .ok (.aload_n 0, 1) := by decide +kernel
theorem dL_law_599 : decode cL_law 599 = .ok (.iload_n 3, 1) := by decide +kernel
theorem dL_law_600 : decode cL_law 600 = .ok (.iconst 2, 1) := by decide +kernel
theorem dL_law_601 : decode cL_law 601 = .ok (.iadd, 1) := by decide +kernel
theorem dL_law_602 : decode cL_law 602 = .ok (.iaload, 1) := by decide +kernel
theorem dL_law_603 : decode cL_law 603 = .ok (.invokevirtual 67, 3) := by decide +kernel
theorem dL_law_606 : decode cL_law 606 = .ok (.aload_n 2, 1) := by decide +kernel
theorem dL_law_607 : decode cL_law 607 = .ok (.aload_n 0, 1) := by decide +kernel
theorem dL_law_608 : decode cL_law 608 = .ok (.iload_n 3, 1) := by decide +kernel
theorem dL_law_609 : decode cL_law 609 = .ok (.iconst 1, 1) := by decide +kernel
theorem dL_law_610 : decode cL_law 610 = .ok (.iadd, 1) := by decide +kernel
theorem dL_law_611 : decode cL_law 611 = .ok (.iaload, 1) := by decide +kernel
theorem dL_law_612 : decode cL_law 612 = .ok (.aload_n 0, 1) := by decide +kernel
theorem dL_law_613 : decode cL_law 613 = .ok (.iload_n 3, 1) := by decide +kernel
theorem dL_law_614 : decode cL_law 614 = .ok (.iconst 2, 1) := by decide +kernel
theorem dL_law_615 : decode cL_law 615 = .ok (.iadd, 1) := by decide +kernel
theorem dL_law_616 : decode cL_law 616 = .ok (.iaload, 1) := by decide +kernel
theorem dL_law_617 : decode cL_law 617 = .ok (.invokevirtual 70, 3) := by decide +kernel
theorem dL_law_620 : decode cL_law 620 = .ok (.if_icmp .eq 407, 3) := by decide +kernel
theorem dL_law_623 : decode cL_law 623 = .ok (.iconst 0, 1) := by decide +kernel
theorem dL_law_624 : decode cL_law 624 = .ok (.ireturn, 1) := by decide +kernel
theorem dL_law_625 : decode cL_law 625 = .ok (.aload_n 1, 1) := by decide +kernel
theorem dL_law_626 : decode cL_law 626 = .ok (.aload_n 0, 1) := by decide +kernel
theorem dL_law_627 : decode cL_law 627 = .ok (.iload_n 3, 1) := by decide +kernel
theorem dL_law_628 : decode cL_law 628 = .ok (.iconst 1, 1) := by decide +kernel
theorem dL_law_629 : decode cL_law 629 = .ok (.iadd, 1) := by decide +kernel
theorem dL_law_630 : decode cL_law 630 = .ok (.iaload, 1) := by decide +kernel
theorem dL_law_631 : decode cL_law 631 = .ok (.aload_n 0, 1) := by decide +kernel
theorem dL_law_632 : decode cL_law 632 = .ok (.iload_n 3, 1) := by decide +kernel
theorem dL_law_633 : decode cL_law 633 = .ok (.iconst 2, 1) := by decide +kernel
theorem dL_law_634 : decode cL_law 634 = .ok (.iadd, 1) := by decide +kernel
theorem dL_law_635 : decode cL_law 635 = .ok (.iaload, 1) := by decide +kernel
theorem dL_law_636 : decode cL_law 636 = .ok (.invokevirtual 71, 3) := by decide +kernel
theorem dL_law_639 : decode cL_law 639 = .ok (.aload_n 2, 1) := by decide +kernel
theorem dL_law_640 : decode cL_law 640 = .ok (.aload_n 0, 1) := by decide +kernel
theorem dL_law_641 : decode cL_law 641 = .ok (.iload_n 3, 1) := by decide +kernel
theorem dL_law_642 : decode cL_law 642 = .ok (.iconst 1, 1) := by decide +kernel
theorem dL_law_643 : decode cL_law 643 = .ok (.iadd, 1) := by decide +kernel
theorem dL_law_644 : decode cL_law 644 = .ok (.iaload, 1) := by decide +kernel
theorem dL_law_645 : decode cL_law 645 = .ok (.aload_n 0, 1) := by decide +kernel
theorem dL_law_646 : decode cL_law 646 = .ok (.iload_n 3, 1) := by decide +kernel
theorem dL_law_647 : decode cL_law 647 = .ok (.iconst 2, 1) := by decide +kernel
theorem dL_law_648 : decode cL_law 648 = .ok (.iadd, 1) := by decide +kernel
theorem dL_law_649 : decode cL_law 649 = .ok (.iaload, 1) := by decide +kernel
theorem dL_law_650 : decode cL_law 650 = .ok (.invokevirtual 74, 3) := by decide +kernel
theorem dL_law_653 : decode cL_law 653 = .ok (.if_icmp .eq 374, 3) := by decide +kernel
theorem dL_law_656 : decode cL_law 656 = .ok (.iconst 0, 1) := by decide +kernel
theorem dL_law_657 : decode cL_law 657 = .ok (.ireturn, 1) := by decide +kernel
theorem dL_law_658 : decode cL_law 658 = .ok (.aload_n 1, 1) := by decide +kernel
theorem dL_law_659 : decode cL_law 659 = .ok (.invokevirtual 75, 3) := by decide +kernel
theorem dL_law_662 : decode cL_law 662 = .ok (.aload_n 2, 1) := by decide +kernel
theorem dL_law_663 : decode cL_law 663 = .ok (.invokevirtual 78, 3) := by decide +kernel
theorem dL_law_666 : decode cL_law 666 = .ok (.if_icmp .eq 361, 3) := by decide +kernel
theorem dL_law_669 : decode cL_law 669 = .ok (.iconst 0, 1) := by decide +kernel
theorem dL_law_670 : decode cL_law 670 = .ok (.ireturn, 1) := by decide +kernel
theorem dL_law_671 : decode cL_law 671 = .ok (.aload_n 1, 1) := by decide +kernel
theorem dL_law_672 : decode cL_law 672 = .ok (.aload_n 0, 1) := by decide +kernel
theorem dL_law_673 : decode cL_law 673 = .ok (.iload_n 3, 1) := by decide +kernel
theorem dL_law_674 : decode cL_law 674 = .ok (.iconst 1, 1) := by decide +kernel
theorem dL_law_675 : decode cL_law 675 = .ok (.iadd, 1) := by decide +kernel
theorem dL_law_676 : decode cL_law 676 = .ok (.iaload, 1) := by decide +kernel
theorem dL_law_677 : decode cL_law 677 = .ok (.aload_n 0, 1) := by decide +kernel
theorem dL_law_678 : decode cL_law 678 = .ok (.iload_n 3, 1) := by decide +kernel
theorem dL_law_679 : decode cL_law 679 = .ok (.iconst 2, 1) := by decide +kernel
theorem dL_law_680 : decode cL_law 680 = .ok (.iadd, 1) := by decide +kernel
theorem dL_law_681 : decode cL_law 681 = .ok (.iaload, 1) := by decide +kernel
theorem dL_law_682 : decode cL_law 682 = .ok (.aload_n 0, 1) := by decide +kernel
theorem dL_law_683 : decode cL_law 683 = .ok (.iload_n 3, 1) := by decide +kernel
theorem dL_law_684 : decode cL_law 684 = .ok (.iconst 3, 1) := by decide +kernel
theorem dL_law_685 : decode cL_law 685 = .ok (.iadd, 1) := by decide +kernel
theorem dL_law_686 : decode cL_law 686 = .ok (.iaload, 1) := by decide +kernel
theorem dL_law_687 : decode cL_law 687 = .ok (.invokevirtual 79, 3) := by decide +kernel
theorem dL_law_690 : decode cL_law 690 = .ok (.aload_n 2, 1) := by decide +kernel
theorem dL_law_691 : decode cL_law 691 = .ok (.aload_n 0, 1) := by decide +kernel
theorem dL_law_692 : decode cL_law 692 = .ok (.iload_n 3, 1) := by decide +kernel
theorem dL_law_693 : decode cL_law 693 = .ok (.iconst 1, 1) := by decide +kernel
theorem dL_law_694 : decode cL_law 694 = .ok (.iadd, 1) := by decide +kernel
theorem dL_law_695 : decode cL_law 695 = .ok (.iaload, 1) := by decide +kernel
theorem dL_law_696 : decode cL_law 696 = .ok (.aload_n 0, 1) := by decide +kernel
theorem dL_law_697 : decode cL_law 697 = .ok (.iload_n 3, 1) := by decide +kernel
theorem dL_law_698 : decode cL_law 698 = .ok (.iconst 2, 1) := by decide +kernel
theorem dL_law_699 : decode cL_law 699 = .ok (.iadd, 1) := by decide +kernel
theorem dL_law_700 : decode cL_law 700 = .ok (.iaload, 1) := by decide +kernel
theorem dL_law_701 : decode cL_law 701 = .ok (.aload_n 0, 1) := by decide +kernel
theorem dL_law_702 : decode cL_law 702 = .ok (.iload_n 3, 1) := by decide +kernel
theorem dL_law_703 : decode cL_law 703 = .ok (.iconst 3, 1) := by decide +kernel
theorem dL_law_704 : decode cL_law 704 = .ok (.iadd, 1) := by decide +kernel
theorem dL_law_705 : decode cL_law 705 = .ok (.iaload, 1) := by decide +kernel
theorem dL_law_706 : decode cL_law 706 = .ok (.invokevirtual 83, 3) := by decide +kernel
theorem dL_law_709 : decode cL_law 709 = .ok (.if_icmp .eq 318, 3) := by decide +kernel
theorem dL_law_712 : decode cL_law 712 = .ok (.iconst 0, 1) := by decide +kernel
theorem dL_law_713 : decode cL_law 713 = .ok (.ireturn, 1) := by decide +kernel
theorem dL_law_714 : decode cL_law 714 = .ok (.aload_n 1, 1) := by decide +kernel
theorem dL_law_715 : decode cL_law 715 = .ok (.aload_n 0, 1) := by decide +kernel
theorem dL_law_716 : decode cL_law 716 = .ok (.iload_n 3, 1) := by decide +kernel
theorem dL_law_717 : decode cL_law 717 = .ok (.iconst 1, 1) := by decide +kernel
theorem dL_law_718 : decode cL_law 718 = .ok (.iadd, 1) := by decide +kernel
theorem dL_law_719 : decode cL_law 719 = .ok (.iaload, 1) := by decide +kernel
theorem dL_law_720 : decode cL_law 720 = .ok (.aload_n 0, 1) := by decide +kernel
theorem dL_law_721 : decode cL_law 721 = .ok (.iload_n 3, 1) := by decide +kernel
theorem dL_law_722 : decode cL_law 722 = .ok (.iconst 2, 1) := by decide +kernel
theorem dL_law_723 : decode cL_law 723 = .ok (.iadd, 1) := by decide +kernel
theorem dL_law_724 : decode cL_law 724 = .ok (.iaload, 1) := by decide +kernel
theorem dL_law_725 : decode cL_law 725 = .ok (.aload_n 0, 1) := by decide +kernel
theorem dL_law_726 : decode cL_law 726 = .ok (.iload_n 3, 1) := by decide +kernel
theorem dL_law_727 : decode cL_law 727 = .ok (.iconst 3, 1) := by decide +kernel
theorem dL_law_728 : decode cL_law 728 = .ok (.iadd, 1) := by decide +kernel
theorem dL_law_729 : decode cL_law 729 = .ok (.iaload, 1) := by decide +kernel
theorem dL_law_730 : decode cL_law 730 = .ok (.invokevirtual 84, 3) := by decide +kernel
theorem dL_law_733 : decode cL_law 733 = .ok (.aload_n 2, 1) := by decide +kernel
theorem dL_law_734 : decode cL_law 734 = .ok (.aload_n 0, 1) := by decide +kernel
theorem dL_law_735 : decode cL_law 735 = .ok (.iload_n 3, 1) := by decide +kernel
theorem dL_law_736 : decode cL_law 736 = .ok (.iconst 1, 1) := by decide +kernel
theorem dL_law_737 : decode cL_law 737 = .ok (.iadd, 1) := by decide +kernel
theorem dL_law_738 : decode cL_law 738 = .ok (.iaload, 1) := by decide +kernel
theorem dL_law_739 : decode cL_law 739 = .ok (.aload_n 0, 1) := by decide +kernel
theorem dL_law_740 : decode cL_law 740 = .ok (.iload_n 3, 1) := by decide +kernel
theorem dL_law_741 : decode cL_law 741 = .ok (.iconst 2, 1) := by decide +kernel
theorem dL_law_742 : decode cL_law 742 = .ok (.iadd, 1) := by decide +kernel
theorem dL_law_743 : decode cL_law 743 = .ok (.iaload, 1) := by decide +kernel
theorem dL_law_744 : decode cL_law 744 = .ok (.aload_n 0, 1) := by decide +kernel
theorem dL_law_745 : decode cL_law 745 = .ok (.iload_n 3, 1) := by decide +kernel
theorem dL_law_746 : decode cL_law 746 = .ok (.iconst 3, 1) := by decide +kernel
theorem dL_law_747 : decode cL_law 747 = .ok (.iadd, 1) := by decide +kernel
theorem dL_law_748 : decode cL_law 748 = .ok (.iaload, 1) := by decide +kernel
theorem dL_law_749 : decode cL_law 749 = .ok (.invokevirtual 87, 3) := by decide +kernel
theorem dL_law_752 : decode cL_law 752 = .ok (.if_icmp .eq 275, 3) := by decide +kernel
theorem dL_law_755 : decode cL_law 755 = .ok (.iconst 0, 1) := by decide +kernel
theorem dL_law_756 : decode cL_law 756 = .ok (.ireturn, 1) := by decide +kernel
theorem dL_law_757 : decode cL_law 757 = .ok (.aload_n 1, 1) := by decide +kernel
theorem dL_law_758 : decode cL_law 758 = .ok (.invokevirtual 88, 3) := by decide +kernel
theorem dL_law_761 : decode cL_law 761 = .ok (.aload_n 2, 1) := by decide +kernel
theorem dL_law_762 : decode cL_law 762 = .ok (.invokevirtual 91, 3) := by decide +kernel
theorem dL_law_765 : decode cL_law 765 = .ok (.if_icmp .eq 262, 3) := by decide +kernel
theorem dL_law_768 : decode cL_law 768 = .ok (.iconst 0, 1) := by decide +kernel
theorem dL_law_769 : decode cL_law 769 = .ok (.ireturn, 1) := by decide +kernel
theorem dL_law_770 : decode cL_law 770 = .ok (.aload_n 1, 1) := by decide +kernel
theorem dL_law_771 : decode cL_law 771 = .ok (.aload_n 0, 1) := by decide +kernel
theorem dL_law_772 : decode cL_law 772 = .ok (.iload_n 3, 1) := by decide +kernel
theorem dL_law_773 : decode cL_law 773 = .ok (.iconst 1, 1) := by decide +kernel
theorem dL_law_774 : decode cL_law 774 = .ok (.iadd, 1) := by decide +kernel
theorem dL_law_775 : decode cL_law 775 = .ok (.iaload, 1) := by decide +kernel
theorem dL_law_776 : decode cL_law 776 = .ok (.aload_n 0, 1) := by decide +kernel
theorem dL_law_777 : decode cL_law 777 = .ok (.iload_n 3, 1) := by decide +kernel
theorem dL_law_778 : decode cL_law 778 = .ok (.iconst 2, 1) := by decide +kernel
theorem dL_law_779 : decode cL_law 779 = .ok (.iadd, 1) := by decide +kernel
theorem dL_law_780 : decode cL_law 780 = .ok (.iaload, 1) := by decide +kernel
theorem dL_law_781 : decode cL_law 781 = .ok (.invokevirtual 92, 3) := by decide +kernel
theorem dL_law_784 : decode cL_law 784 = .ok (.aload_n 2, 1) := by decide +kernel
theorem dL_law_785 : decode cL_law 785 = .ok (.aload_n 0, 1) := by decide +kernel
theorem dL_law_786 : decode cL_law 786 = .ok (.iload_n 3, 1) := by decide +kernel
theorem dL_law_787 : decode cL_law 787 = .ok (.iconst 1, 1) := by decide +kernel
theorem dL_law_788 : decode cL_law 788 = .ok (.iadd, 1) := by decide +kernel
theorem dL_law_789 : decode cL_law 789 = .ok (.iaload, 1) := by decide +kernel
theorem dL_law_790 : decode cL_law 790 = .ok (.aload_n 0, 1) := by decide +kernel
theorem dL_law_791 : decode cL_law 791 = .ok (.iload_n 3, 1) := by decide +kernel
theorem dL_law_792 : decode cL_law 792 = .ok (.iconst 2, 1) := by decide +kernel
theorem dL_law_793 : decode cL_law 793 = .ok (.iadd, 1) := by decide +kernel
theorem dL_law_794 : decode cL_law 794 = .ok (.iaload, 1) := by decide +kernel
theorem dL_law_795 : decode cL_law 795 = .ok (.invokevirtual 95, 3) := by decide +kernel
theorem dL_law_798 : decode cL_law 798 = .ok (.if_icmp .eq 229, 3) := by decide +kernel
theorem dL_law_801 : decode cL_law 801 = .ok (.iconst 0, 1) := by decide +kernel
theorem dL_law_802 : decode cL_law 802 = .ok (.ireturn, 1) := by decide +kernel
theorem dL_law_803 : decode cL_law 803 = .ok (.aload_n 1, 1) := by decide +kernel
theorem dL_law_804 : decode cL_law 804 = .ok (.aload_n 0, 1) := by decide +kernel
theorem dL_law_805 : decode cL_law 805 = .ok (.iload_n 3, 1) := by decide +kernel
theorem dL_law_806 : decode cL_law 806 = .ok (.iconst 1, 1) := by decide +kernel
theorem dL_law_807 : decode cL_law 807 = .ok (.iadd, 1) := by decide +kernel
theorem dL_law_808 : decode cL_law 808 = .ok (.iaload, 1) := by decide +kernel
theorem dL_law_809 : decode cL_law 809 = .ok (.aload_n 0, 1) := by decide +kernel
theorem dL_law_810 : decode cL_law 810 = .ok (.iload_n 3, 1) := by decide +kernel
theorem dL_law_811 : decode cL_law 811 = .ok (.iconst 2, 1) := by decide +kernel
theorem dL_law_812 : decode cL_law 812 = .ok (.iadd, 1) := by decide +kernel
theorem dL_law_813 : decode cL_law 813 = .ok (.iaload, 1) := by decide +kernel
theorem dL_law_814 : decode cL_law 814 = .ok (.aload_n 0, 1) := by decide +kernel
theorem dL_law_815 : decode cL_law 815 = .ok (.iload_n 3, 1) := by decide +kernel
theorem dL_law_816 : decode cL_law 816 = .ok (.iconst 3, 1) := by decide +kernel
theorem dL_law_817 : decode cL_law 817 = .ok (.iadd, 1) := by decide +kernel
theorem dL_law_818 : decode cL_law 818 = .ok (.iaload, 1) := by decide +kernel
theorem dL_law_819 : decode cL_law 819 = .ok (.invokevirtual 96, 3) := by decide +kernel
theorem dL_law_822 : decode cL_law 822 = .ok (.aload_n 2, 1) := by decide +kernel
theorem dL_law_823 : decode cL_law 823 = .ok (.aload_n 0, 1) := by decide +kernel
theorem dL_law_824 : decode cL_law 824 = .ok (.iload_n 3, 1) := by decide +kernel
theorem dL_law_825 : decode cL_law 825 = .ok (.iconst 1, 1) := by decide +kernel
theorem dL_law_826 : decode cL_law 826 = .ok (.iadd, 1) := by decide +kernel
theorem dL_law_827 : decode cL_law 827 = .ok (.iaload, 1) := by decide +kernel
theorem dL_law_828 : decode cL_law 828 = .ok (.aload_n 0, 1) := by decide +kernel
theorem dL_law_829 : decode cL_law 829 = .ok (.iload_n 3, 1) := by decide +kernel
theorem dL_law_830 : decode cL_law 830 = .ok (.iconst 2, 1) := by decide +kernel
theorem dL_law_831 : decode cL_law 831 = .ok (.iadd, 1) := by decide +kernel
theorem dL_law_832 : decode cL_law 832 = .ok (.iaload, 1) := by decide +kernel
theorem dL_law_833 : decode cL_law 833 = .ok (.aload_n 0, 1) := by decide +kernel
theorem dL_law_834 : decode cL_law 834 = .ok (.iload_n 3, 1) := by decide +kernel
theorem dL_law_835 : decode cL_law 835 = .ok (.iconst 3, 1) := by decide +kernel
theorem dL_law_836 : decode cL_law 836 = .ok (.iadd, 1) := by decide +kernel
theorem dL_law_837 : decode cL_law 837 = .ok (.iaload, 1) := by decide +kernel
theorem dL_law_838 : decode cL_law 838 = .ok (.invokevirtual 99, 3) := by decide +kernel
theorem dL_law_841 : decode cL_law 841 = .ok (.if_icmp .eq 186, 3) := by decide +kernel
theorem dL_law_844 : decode cL_law 844 = .ok (.iconst 0, 1) := by decide +kernel
theorem dL_law_845 : decode cL_law 845 = .ok (.ireturn, 1) := by decide +kernel
theorem dL_law_846 : decode cL_law 846 = .ok (.aload_n 1, 1) := by decide +kernel
theorem dL_law_847 : decode cL_law 847 = .ok (.aload_n 0, 1) := by decide +kernel
theorem dL_law_848 : decode cL_law 848 = .ok (.iload_n 3, 1) := by decide +kernel
theorem dL_law_849 : decode cL_law 849 = .ok (.iconst 1, 1) := by decide +kernel
theorem dL_law_850 : decode cL_law 850 = .ok (.iadd, 1) := by decide +kernel
theorem dL_law_851 : decode cL_law 851 = .ok (.iaload, 1) := by decide +kernel
theorem dL_law_852 : decode cL_law 852 = .ok (.aload_n 0, 1) := by decide +kernel
theorem dL_law_853 : decode cL_law 853 = .ok (.iload_n 3, 1) := by decide +kernel
theorem dL_law_854 : decode cL_law 854 = .ok (.iconst 2, 1) := by decide +kernel
theorem dL_law_855 : decode cL_law 855 = .ok (.iadd, 1) := by decide +kernel
theorem dL_law_856 : decode cL_law 856 = .ok (.iaload, 1) := by decide +kernel
theorem dL_law_857 : decode cL_law 857 = .ok (.aload_n 0, 1) := by decide +kernel
theorem dL_law_858 : decode cL_law 858 = .ok (.iload_n 3, 1) := by decide +kernel
theorem dL_law_859 : decode cL_law 859 = .ok (.iconst 3, 1) := by decide +kernel
theorem dL_law_860 : decode cL_law 860 = .ok (.iadd, 1) := by decide +kernel
theorem dL_law_861 : decode cL_law 861 = .ok (.iaload, 1) := by decide +kernel
theorem dL_law_862 : decode cL_law 862 = .ok (.invokevirtual 100, 3) := by decide +kernel
theorem dL_law_865 : decode cL_law 865 = .ok (.aload_n 2, 1) := by decide +kernel
theorem dL_law_866 : decode cL_law 866 = .ok (.aload_n 0, 1) := by decide +kernel
theorem dL_law_867 : decode cL_law 867 = .ok (.iload_n 3, 1) := by decide +kernel
theorem dL_law_868 : decode cL_law 868 = .ok (.iconst 1, 1) := by decide +kernel
theorem dL_law_869 : decode cL_law 869 = .ok (.iadd, 1) := by decide +kernel
theorem dL_law_870 : decode cL_law 870 = .ok (.iaload, 1) := by decide +kernel
theorem dL_law_871 : decode cL_law 871 = .ok (.aload_n 0, 1) := by decide +kernel
theorem dL_law_872 : decode cL_law 872 = .ok (.iload_n 3, 1) := by decide +kernel
theorem dL_law_873 : decode cL_law 873 = .ok (.iconst 2, 1) := by decide +kernel
theorem dL_law_874 : decode cL_law 874 = .ok (.iadd, 1) := by decide +kernel
theorem dL_law_875 : decode cL_law 875 = .ok (.iaload, 1) := by decide +kernel
theorem dL_law_876 : decode cL_law 876 = .ok (.aload_n 0, 1) := by decide +kernel
theorem dL_law_877 : decode cL_law 877 = .ok (.iload_n 3, 1) := by decide +kernel
theorem dL_law_878 : decode cL_law 878 = .ok (.iconst 3, 1) := by decide +kernel
theorem dL_law_879 : decode cL_law 879 = .ok (.iadd, 1) := by decide +kernel
theorem dL_law_880 : decode cL_law 880 = .ok (.iaload, 1) := by decide +kernel
theorem dL_law_881 : decode cL_law 881 = .ok (.invokevirtual 103, 3) := by decide +kernel
theorem dL_law_884 : decode cL_law 884 = .ok (.if_icmp .eq 143, 3) := by decide +kernel
theorem dL_law_887 : decode cL_law 887 = .ok (.iconst 0, 1) := by decide +kernel
theorem dL_law_888 : decode cL_law 888 = .ok (.ireturn, 1) := by decide +kernel
theorem dL_law_889 : decode cL_law 889 = .ok (.aload_n 1, 1) := by decide +kernel
theorem dL_law_890 : decode cL_law 890 = .ok (.aload_n 0, 1) := by decide +kernel
theorem dL_law_891 : decode cL_law 891 = .ok (.iload_n 3, 1) := by decide +kernel
theorem dL_law_892 : decode cL_law 892 = .ok (.iconst 1, 1) := by decide +kernel
theorem dL_law_893 : decode cL_law 893 = .ok (.iadd, 1) := by decide +kernel
theorem dL_law_894 : decode cL_law 894 = .ok (.iaload, 1) := by decide +kernel
theorem dL_law_895 : decode cL_law 895 = .ok (.aload_n 0, 1) := by decide +kernel
theorem dL_law_896 : decode cL_law 896 = .ok (.iload_n 3, 1) := by decide +kernel
theorem dL_law_897 : decode cL_law 897 = .ok (.iconst 2, 1) := by decide +kernel
theorem dL_law_898 : decode cL_law 898 = .ok (.iadd, 1) := by decide +kernel
theorem dL_law_899 : decode cL_law 899 = .ok (.iaload, 1) := by decide +kernel
theorem dL_law_900 : decode cL_law 900 = .ok (.invokevirtual 104, 3) := by decide +kernel
theorem dL_law_903 : decode cL_law 903 = .ok (.aload_n 2, 1) := by decide +kernel
theorem dL_law_904 : decode cL_law 904 = .ok (.aload_n 0, 1) := by decide +kernel
theorem dL_law_905 : decode cL_law 905 = .ok (.iload_n 3, 1) := by decide +kernel
theorem dL_law_906 : decode cL_law 906 = .ok (.iconst 1, 1) := by decide +kernel
theorem dL_law_907 : decode cL_law 907 = .ok (.iadd, 1) := by decide +kernel
theorem dL_law_908 : decode cL_law 908 = .ok (.iaload, 1) := by decide +kernel
theorem dL_law_909 : decode cL_law 909 = .ok (.aload_n 0, 1) := by decide +kernel
theorem dL_law_910 : decode cL_law 910 = .ok (.iload_n 3, 1) := by decide +kernel
theorem dL_law_911 : decode cL_law 911 = .ok (.iconst 2, 1) := by decide +kernel
theorem dL_law_912 : decode cL_law 912 = .ok (.iadd, 1) := by decide +kernel
theorem dL_law_913 : decode cL_law 913 = .ok (.iaload, 1) := by decide +kernel
theorem dL_law_914 : decode cL_law 914 = .ok (.invokevirtual 107, 3) := by decide +kernel
theorem dL_law_917 : decode cL_law 917 = .ok (.if_icmp .eq 110, 3) := by decide +kernel
theorem dL_law_920 : decode cL_law 920 = .ok (.iconst 0, 1) := by decide +kernel
theorem dL_law_921 : decode cL_law 921 = .ok (.ireturn, 1) := by decide +kernel
theorem dL_law_922 : decode cL_law 922 = .ok (.aload_n 1, 1) := by decide +kernel
theorem dL_law_923 : decode cL_law 923 = .ok (.aload_n 0, 1) := by decide +kernel
theorem dL_law_924 : decode cL_law 924 = .ok (.iload_n 3, 1) := by decide +kernel
theorem dL_law_925 : decode cL_law 925 = .ok (.iconst 1, 1) := by decide +kernel
theorem dL_law_926 : decode cL_law 926 = .ok (.iadd, 1) := by decide +kernel
theorem dL_law_927 : decode cL_law 927 = .ok (.iaload, 1) := by decide +kernel
theorem dL_law_928 : decode cL_law 928 = .ok (.aload_n 0, 1) := by decide +kernel
theorem dL_law_929 : decode cL_law 929 = .ok (.iload_n 3, 1) := by decide +kernel
theorem dL_law_930 : decode cL_law 930 = .ok (.iconst 2, 1) := by decide +kernel
theorem dL_law_931 : decode cL_law 931 = .ok (.iadd, 1) := by decide +kernel
theorem dL_law_932 : decode cL_law 932 = .ok (.iaload, 1) := by decide +kernel
theorem dL_law_933 : decode cL_law 933 = .ok (.aload_n 0, 1) := by decide +kernel
theorem dL_law_934 : decode cL_law 934 = .ok (.iload_n 3, 1) := by decide +kernel
theorem dL_law_935 : decode cL_law 935 = .ok (.iconst 3, 1) := by decide +kernel
theorem dL_law_936 : decode cL_law 936 = .ok (.iadd, 1) := by decide +kernel
theorem dL_law_937 : decode cL_law 937 = .ok (.iaload, 1) := by decide +kernel
theorem dL_law_938 : decode cL_law 938 = .ok (.invokevirtual 108, 3) := by decide +kernel
theorem dL_law_941 : decode cL_law 941 = .ok (.aload_n 2, 1) := by decide +kernel
theorem dL_law_942 : decode cL_law 942 = .ok (.aload_n 0, 1) := by decide +kernel
theorem dL_law_943 : decode cL_law 943 = .ok (.iload_n 3, 1) := by decide +kernel
theorem dL_law_944 : decode cL_law 944 = .ok (.iconst 1, 1) := by decide +kernel
theorem dL_law_945 : decode cL_law 945 = .ok (.iadd, 1) := by decide +kernel
theorem dL_law_946 : decode cL_law 946 = .ok (.iaload, 1) := by decide +kernel
theorem dL_law_947 : decode cL_law 947 = .ok (.aload_n 0, 1) := by decide +kernel
theorem dL_law_948 : decode cL_law 948 = .ok (.iload_n 3, 1) := by decide +kernel
theorem dL_law_949 : decode cL_law 949 = .ok (.iconst 2, 1) := by decide +kernel
theorem dL_law_950 : decode cL_law 950 = .ok (.iadd, 1) := by decide +kernel
theorem dL_law_951 : decode cL_law 951 = .ok (.iaload, 1) := by decide +kernel
theorem dL_law_952 : decode cL_law 952 = .ok (.aload_n 0, 1) := by decide +kernel
theorem dL_law_953 : decode cL_law 953 = .ok (.iload_n 3, 1) := by decide +kernel
theorem dL_law_954 : decode cL_law 954 = .ok (.iconst 3, 1) := by decide +kernel
theorem dL_law_955 : decode cL_law 955 = .ok (.iadd, 1) := by decide +kernel
theorem dL_law_956 : decode cL_law 956 = .ok (.iaload, 1) := by decide +kernel
theorem dL_law_957 : decode cL_law 957 = .ok (.invokevirtual 111, 3) := by decide +kernel
theorem dL_law_960 : decode cL_law 960 = .ok (.if_icmp .eq 67, 3) := by decide +kernel
theorem dL_law_963 : decode cL_law 963 = .ok (.iconst 0, 1) := by decide +kernel
theorem dL_law_964 : decode cL_law 964 = .ok (.ireturn, 1) := by decide +kernel
theorem dL_law_965 : decode cL_law 965 = .ok (.aload_n 1, 1) := by decide +kernel
theorem dL_law_966 : decode cL_law 966 = .ok (.aload_n 0, 1) := by decide +kernel
theorem dL_law_967 : decode cL_law 967 = .ok (.iload_n 3, 1) := by decide +kernel
theorem dL_law_968 : decode cL_law 968 = .ok (.iconst 1, 1) := by decide +kernel
theorem dL_law_969 : decode cL_law 969 = .ok (.iadd, 1) := by decide +kernel
theorem dL_law_970 : decode cL_law 970 = .ok (.iaload, 1) := by decide +kernel
theorem dL_law_971 : decode cL_law 971 = .ok (.invokevirtual 112, 3) := by decide +kernel
theorem dL_law_974 : decode cL_law 974 = .ok (.aload_n 2, 1) := by decide +kernel
theorem dL_law_975 : decode cL_law 975 = .ok (.aload_n 0, 1) := by decide +kernel
theorem dL_law_976 : decode cL_law 976 = .ok (.iload_n 3, 1) := by decide +kernel
theorem dL_law_977 : decode cL_law 977 = .ok (.iconst 1, 1) := by decide +kernel
theorem dL_law_978 : decode cL_law 978 = .ok (.iadd, 1) := by decide +kernel
theorem dL_law_979 : decode cL_law 979 = .ok (.iaload, 1) := by decide +kernel
theorem dL_law_980 : decode cL_law 980 = .ok (.invokevirtual 115, 3) := by decide +kernel
theorem dL_law_983 : decode cL_law 983 = .ok (.if_icmp .eq 44, 3) := by decide +kernel
theorem dL_law_986 : decode cL_law 986 = .ok (.iconst 0, 1) := by decide +kernel
theorem dL_law_987 : decode cL_law 987 = .ok (.ireturn, 1) := by decide +kernel
theorem dL_law_988 : decode cL_law 988 = .ok (.aload_n 1, 1) := by decide +kernel
theorem dL_law_989 : decode cL_law 989 = .ok (.invokevirtual 116, 3) := by decide +kernel
theorem dL_law_992 : decode cL_law 992 = .ok (.aload_n 2, 1) := by decide +kernel
theorem dL_law_993 : decode cL_law 993 = .ok (.invokevirtual 119, 3) := by decide +kernel
theorem dL_law_996 : decode cL_law 996 = .ok (.if_icmp .eq 31, 3) := by decide +kernel
theorem dL_law_999 : decode cL_law 999 = .ok (.iconst 0, 1) := by decide +kernel
theorem dL_law_1000 : decode cL_law 1000 = .ok (.ireturn, 1) := by decide +kernel
theorem dL_law_1001 : decode cL_law 1001 = .ok (.aload_n 1, 1) := by decide +kernel
theorem dL_law_1002 : decode cL_law 1002 = .ok (.invokevirtual 120, 3) := by decide +kernel
theorem dL_law_1005 : decode cL_law 1005 = .ok (.aload_n 2, 1) := by decide +kernel
theorem dL_law_1006 : decode cL_law 1006 = .ok (.invokevirtual 123, 3) := by decide +kernel
theorem dL_law_1009 : decode cL_law 1009 = .ok (.if_icmp .eq 18, 3) := by decide +kernel
theorem dL_law_1012 : decode cL_law 1012 = .ok (.iconst 0, 1) := by decide +kernel
theorem dL_law_1013 : decode cL_law 1013 = .ok (.ireturn, 1) := by decide +kernel
theorem dL_law_1014 : decode cL_law 1014 = .ok (.aload_n 1, 1) := by decide +kernel
theorem dL_law_1015 : decode cL_law 1015 = .ok (.invokevirtual 124, 3) := by decide +kernel
theorem dL_law_1018 : decode cL_law 1018 = .ok (.aload_n 2, 1) := by decide +kernel
theorem dL_law_1019 : decode cL_law 1019 = .ok (.invokevirtual 127, 3) := by decide +kernel
theorem dL_law_1022 : decode cL_law 1022 = .ok (.if_icmp .eq 5, 3) := by decide +kernel
theorem dL_law_1025 : decode cL_law 1025 = .ok (.iconst 0, 1) := by decide +kernel
theorem dL_law_1026 : decode cL_law 1026 = .ok (.ireturn, 1) := by decide +kernel
theorem dL_law_1027 : decode cL_law 1027 = .ok (.iinc 3 6, 3) := by decide +kernel
theorem dL_law_1030 : decode cL_law 1030 = .ok (.goto (-1012), 3) := by decide +kernel
theorem dL_law_1033 : decode cL_law 1033 = .ok (.iconst 1, 1) := by decide +kernel
theorem dL_law_1034 : decode cL_law 1034 = .ok (.ireturn, 1) := by decide +kernel

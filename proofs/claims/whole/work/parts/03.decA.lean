theorem dX0_init_0 : decode cX0_init 0 = .ok (.aload_n 0, 1) := by decide +kernel
theorem dX0_init_1 : decode cX0_init 1 = .ok (.invokespecial 3, 3) := by decide +kernel
theorem dX0_init_4 : decode cX0_init 4 = .ok (.aload_n 0, 1) := by decide +kernel
theorem dX0_init_5 : decode cX0_init 5 = .ok (.iconst 0, 1) := by decide +kernel
theorem dX0_init_6 : decode cX0_init 6 = .ok (.putfield 9, 3) := by decide +kernel
theorem dX0_init_9 : decode cX0_init 9 = .ok (.aload_n 0, 1) := by decide +kernel
theorem dX0_init_10 : decode cX0_init 10 = .ok (.bipush 8, 2) := by decide +kernel
theorem dX0_init_12 : decode cX0_init 12 = .ok (.anewarray 15, 3) := by decide +kernel
theorem dX0_init_15 : decode cX0_init 15 = .ok (.putfield 17, 3) := by decide +kernel
theorem dX0_init_18 : decode cX0_init 18 = .ok (.iconst 0, 1) := by decide +kernel
theorem dX0_init_19 : decode cX0_init 19 = .ok (.istore_n 1, 1) := by decide +kernel
theorem dX0_init_20 : decode cX0_init 20 = .ok (.iload_n 1, 1) := by decide +kernel
theorem dX0_init_21 : decode cX0_init 21 = .ok (.bipush 8, 2) := by decide +kernel
theorem dX0_init_23 : decode cX0_init 23 = .ok (.if_icmp .ge 22, 3) := by decide +kernel
theorem dX0_init_26 : decode cX0_init 26 = .ok (.aload_n 0, 1) := by decide +kernel
theorem dX0_init_27 : decode cX0_init 27 = .ok (.getfield 17, 3) := by decide +kernel
theorem dX0_init_30 : decode cX0_init 30 = .ok (.iload_n 1, 1) := by decide +kernel
theorem dX0_init_31 : decode cX0_init 31 = .ok (.new 15, 3) := by decide +kernel
theorem dX0_init_34 : decode cX0_init 34 = .ok (.dup, 1) := by decide +kernel
theorem dX0_init_35 : decode cX0_init 35 = .ok (.invokespecial 21, 3) := by decide +kernel
theorem dX0_init_38 : decode cX0_init 38 = .ok (.aastore, 1) := by decide +kernel
theorem dX0_init_39 : decode cX0_init 39 = .ok (.iinc 1 1, 3) := by decide +kernel
theorem dX0_init_42 : decode cX0_init 42 = .ok (.goto (-22), 3) := by decide +kernel
theorem dX0_init_45 : decode cX0_init 45 = .ok (.return_, 1) := by decide +kernel
theorem dX0_record_0 : decode cX0_record 0 = .ok (.aload_n 0, 1) := by decide +kernel
theorem dX0_record_1 : decode cX0_record 1 = .ok (.getfield 9, 3) := by decide +kernel
theorem dX0_record_4 : decode cX0_record 4 = .ok (.bipush 8, 2) := by decide +kernel
theorem dX0_record_6 : decode cX0_record 6 = .ok (.if_icmp .ge 16, 3) := by decide +kernel
theorem dX0_record_9 : decode cX0_record 9 = .ok (.aload_n 0, 1) := by decide +kernel
theorem dX0_record_10 : decode cX0_record 10 = .ok (.dup, 1) := by decide +kernel
theorem dX0_record_11 : decode cX0_record 11 = .ok (.getfield 9, 3) := by decide +kernel
theorem dX0_record_14 : decode cX0_record 14 = .ok (.iconst 1, 1) := by decide +kernel
theorem dX0_record_15 : decode cX0_record 15 = .ok (.iadd, 1) := by decide +kernel
theorem dX0_record_16 : decode cX0_record 16 = .ok (.putfield 9, 3) := by decide +kernel
theorem dX0_record_19 : decode cX0_record 19 = .ok (.goto 7, 3) := by decide +kernel
theorem dX0_record_22 : decode cX0_record 22 = .ok (.aload_n 0, 1) := by decide +kernel
theorem dX0_record_23 : decode cX0_record 23 = .ok (.invokevirtual 22, 3) := by decide +kernel
theorem dX0_record_26 : decode cX0_record 26 = .ok (.aload_n 0, 1) := by decide +kernel
theorem dX0_record_27 : decode cX0_record 27 = .ok (.getfield 17, 3) := by decide +kernel
theorem dX0_record_30 : decode cX0_record 30 = .ok (.aload_n 0, 1) := by decide +kernel
theorem dX0_record_31 : decode cX0_record 31 = .ok (.getfield 9, 3) := by decide +kernel
theorem dX0_record_34 : decode cX0_record 34 = .ok (.iconst 1, 1) := by decide +kernel
theorem dX0_record_35 : decode cX0_record 35 = .ok (.isub, 1) := by decide +kernel
theorem dX0_record_36 : decode cX0_record 36 = .ok (.aaload, 1) := by decide +kernel
theorem dX0_record_37 : decode cX0_record 37 = .ok (.aload_n 1, 1) := by decide +kernel
theorem dX0_record_38 : decode cX0_record 38 = .ok (.invokevirtual 25, 3) := by decide +kernel
theorem dX0_record_41 : decode cX0_record 41 = .ok (.return_, 1) := by decide +kernel
theorem dX0_dropOldest_0 : decode cX0_dropOldest 0 = .ok (.aload_n 0, 1) := by decide +kernel
theorem dX0_dropOldest_1 : decode cX0_dropOldest 1 = .ok (.getfield 17, 3) := by decide +kernel
theorem dX0_dropOldest_4 : decode cX0_dropOldest 4 = .ok (.iconst 0, 1) := by decide +kernel
theorem dX0_dropOldest_5 : decode cX0_dropOldest 5 = .ok (.aaload, 1) := by decide +kernel
theorem dX0_dropOldest_6 : decode cX0_dropOldest 6 = .ok (.astore_n 1, 1) := by decide +kernel
theorem dX0_dropOldest_7 : decode cX0_dropOldest 7 = .ok (.iconst 1, 1) := by decide +kernel
theorem dX0_dropOldest_8 : decode cX0_dropOldest 8 = .ok (.istore_n 2, 1) := by decide +kernel
theorem dX0_dropOldest_9 : decode cX0_dropOldest 9 = .ok (.iload_n 2, 1) := by decide +kernel
theorem dX0_dropOldest_10 : decode cX0_dropOldest 10 = .ok (.bipush 8, 2) := by decide +kernel
theorem dX0_dropOldest_12 : decode cX0_dropOldest 12 = .ok (.if_icmp .ge 23, 3) := by decide +kernel
theorem dX0_dropOldest_15 : decode cX0_dropOldest 15 = .ok (.aload_n 0, 1) := by decide +kernel
theorem dX0_dropOldest_16 : decode cX0_dropOldest 16 = .ok (.getfield 17, 3) := by decide +kernel
theorem dX0_dropOldest_19 : decode cX0_dropOldest 19 = .ok (.iload_n 2, 1) := by decide +kernel
theorem dX0_dropOldest_20 : decode cX0_dropOldest 20 = .ok (.iconst 1, 1) := by decide +kernel
theorem dX0_dropOldest_21 : decode cX0_dropOldest 21 = .ok (.isub, 1) := by decide +kernel
theorem dX0_dropOldest_22 : decode cX0_dropOldest 22 = .ok (.aload_n 0, 1) := by decide +kernel
theorem dX0_dropOldest_23 : decode cX0_dropOldest 23 = .ok (.getfield 17, 3) := by decide +kernel
theorem dX0_dropOldest_26 : decode cX0_dropOldest 26 = .ok (.iload_n 2, 1) := by decide +kernel
theorem dX0_dropOldest_27 : decode cX0_dropOldest 27 = .ok (.aaload, 1) := by decide +kernel
theorem dX0_dropOldest_28 : decode cX0_dropOldest 28 = .ok (.aastore, 1) := by decide +kernel
theorem dX0_dropOldest_29 : decode cX0_dropOldest 29 = .ok (.iinc 2 1, 3) := by decide +kernel
theorem dX0_dropOldest_32 : decode cX0_dropOldest 32 = .ok (.goto (-23), 3) := by decide +kernel
theorem dX0_dropOldest_35 : decode cX0_dropOldest 35 = .ok (.aload_n 0, 1) := by decide +kernel
theorem dX0_dropOldest_36 : decode cX0_dropOldest 36 = .ok (.getfield 17, 3) := by decide +kernel
theorem dX0_dropOldest_39 : decode cX0_dropOldest 39 = .ok (.bipush 7, 2) := by decide +kernel
theorem dX0_dropOldest_41 : decode cX0_dropOldest 41 = .ok (.aload_n 1, 1) := by decide +kernel
theorem dX0_dropOldest_42 : decode cX0_dropOldest 42 = .ok (.aastore, 1) := by decide +kernel
theorem dX0_dropOldest_43 : decode cX0_dropOldest 43 = .ok (.return_, 1) := by decide +kernel
theorem dX0_restore_0 : decode cX0_restore 0 = .ok (.aload_n 0, 1) := by decide +kernel
theorem dX0_restore_1 : decode cX0_restore 1 = .ok (.getfield 9, 3) := by decide +kernel
theorem dX0_restore_4 : decode cX0_restore 4 = .ok (.ifCond .le 26, 3) := by decide +kernel
theorem dX0_restore_7 : decode cX0_restore 7 = .ok (.aload_n 0, 1) := by decide +kernel
theorem dX0_restore_8 : decode cX0_restore 8 = .ok (.dup, 1) := by decide +kernel
theorem dX0_restore_9 : decode cX0_restore 9 = .ok (.getfield 9, 3) := by decide +kernel
theorem dX0_restore_12 : decode cX0_restore 12 = .ok (.iconst 1, 1) := by decide +kernel
theorem dX0_restore_13 : decode cX0_restore 13 = .ok (.isub, 1) := by decide +kernel
theorem dX0_restore_14 : decode cX0_restore 14 = .ok (.putfield 9, 3) := by decide +kernel
theorem dX0_restore_17 : decode cX0_restore 17 = .ok (.aload_n 1, 1) := by decide +kernel
theorem dX0_restore_18 : decode cX0_restore 18 = .ok (.aload_n 0, 1) := by decide +kernel
theorem dX0_restore_19 : decode cX0_restore 19 = .ok (.getfield 17, 3) := by decide +kernel
theorem dX0_restore_22 : decode cX0_restore 22 = .ok (.aload_n 0, 1) := by decide +kernel
theorem dX0_restore_23 : decode cX0_restore 23 = .ok (.getfield 9, 3) := by decide +kernel
theorem dX0_restore_26 : decode cX0_restore 26 = .ok (.aaload, 1) := by decide +kernel
theorem dX0_restore_27 : decode cX0_restore 27 = .ok (.invokevirtual 25, 3) := by decide +kernel
theorem dX0_restore_30 : decode cX0_restore 30 = .ok (.return_, 1) := by decide +kernel
theorem dX1_init_0 : decode cX1_init 0 = .ok (.aload_n 0, 1) := by decide +kernel
theorem dX1_init_1 : decode cX1_init 1 = .ok (.invokespecial 3, 3) := by decide +kernel
theorem dX1_init_4 : decode cX1_init 4 = .ok (.aload_n 0, 1) := by decide +kernel
theorem dX1_init_5 : decode cX1_init 5 = .ok (.iconst 0, 1) := by decide +kernel
theorem dX1_init_6 : decode cX1_init 6 = .ok (.putfield 9, 3) := by decide +kernel
theorem dX1_init_9 : decode cX1_init 9 = .ok (.aload_n 0, 1) := by decide +kernel
theorem dX1_init_10 : decode cX1_init 10 = .ok (.iconst 0, 1) := by decide +kernel
theorem dX1_init_11 : decode cX1_init 11 = .ok (.putfield 15, 3) := by decide +kernel
theorem dX1_init_14 : decode cX1_init 14 = .ok (.aload_n 0, 1) := by decide +kernel
theorem dX1_init_15 : decode cX1_init 15 = .ok (.sipush 4032, 3) := by decide +kernel
theorem dX1_init_18 : decode cX1_init 18 = .ok (.newarray .int, 2) := by decide +kernel
theorem dX1_init_20 : decode cX1_init 20 = .ok (.putfield 19, 3) := by decide +kernel
theorem dX1_init_23 : decode cX1_init 23 = .ok (.aload_n 0, 1) := by decide +kernel
theorem dX1_init_24 : decode cX1_init 24 = .ok (.bipush 24, 2) := by decide +kernel
theorem dX1_init_26 : decode cX1_init 26 = .ok (.bipush 20, 2) := by decide +kernel
theorem dX1_init_28 : decode cX1_init 28 = .ok (.multianewarray 23 2, 4) := by decide +kernel
theorem dX1_init_32 : decode cX1_init 32 = .ok (.putfield 25, 3) := by decide +kernel
theorem dX1_init_35 : decode cX1_init 35 = .ok (.aload_n 0, 1) := by decide +kernel
theorem dX1_init_36 : decode cX1_init 36 = .ok (.bipush 24, 2) := by decide +kernel
theorem dX1_init_38 : decode cX1_init 38 = .ok (.newarray .long, 2) := by decide +kernel
theorem dX1_init_40 : decode cX1_init 40 = .ok (.putfield 28, 3) := by decide +kernel
theorem dX1_init_43 : decode cX1_init 43 = .ok (.aload_n 0, 1) := by decide +kernel
theorem dX1_init_44 : decode cX1_init 44 = .ok (.bipush 20, 2) := by decide +kernel
theorem dX1_init_46 : decode cX1_init 46 = .ok (.newarray .boolean, 2) := by decide +kernel
theorem dX1_init_48 : decode cX1_init 48 = .ok (.putfield 32, 3) := by decide +kernel
theorem dX1_init_51 : decode cX1_init 51 = .ok (.aload_n 0, 1) := by decide +kernel
theorem dX1_init_52 : decode cX1_init 52 = .ok (.bipush 20, 2) := by decide +kernel
theorem dX1_init_54 : decode cX1_init 54 = .ok (.newarray .int, 2) := by decide +kernel
theorem dX1_init_56 : decode cX1_init 56 = .ok (.putfield 36, 3) := by decide +kernel
theorem dX1_init_59 : decode cX1_init 59 = .ok (.aload_n 0, 1) := by decide +kernel
theorem dX1_init_60 : decode cX1_init 60 = .ok (.iconst 0, 1) := by decide +kernel
theorem dX1_init_61 : decode cX1_init 61 = .ok (.putfield 39, 3) := by decide +kernel
theorem dX1_init_64 : decode cX1_init 64 = .ok (.aload_n 0, 1) := by decide +kernel
theorem dX1_init_65 : decode cX1_init 65 = .ok (.sipush 504, 3) := by decide +kernel
theorem dX1_init_68 : decode cX1_init 68 = .ok (.newarray .int, 2) := by decide +kernel
theorem dX1_init_70 : decode cX1_init 70 = .ok (.putfield 42, 3) := by decide +kernel
theorem dX1_init_73 : decode cX1_init 73 = .ok (.aload_n 0, 1) := by decide +kernel
theorem dX1_init_74 : decode cX1_init 74 = .ok (.sipush 504, 3) := by decide +kernel
theorem dX1_init_77 : decode cX1_init 77 = .ok (.newarray .int, 2) := by decide +kernel
theorem dX1_init_79 : decode cX1_init 79 = .ok (.putfield 45, 3) := by decide +kernel
theorem dX1_init_82 : decode cX1_init 82 = .ok (.aload_n 0, 1) := by decide +kernel
theorem dX1_init_83 : decode cX1_init 83 = .ok (.sipush 504, 3) := by decide +kernel
theorem dX1_init_86 : decode cX1_init 86 = .ok (.newarray .int, 2) := by decide +kernel
theorem dX1_init_88 : decode cX1_init 88 = .ok (.putfield 48, 3) := by decide +kernel
theorem dX1_init_91 : decode cX1_init 91 = .ok (.aload_n 0, 1) := by decide +kernel
theorem dX1_init_92 : decode cX1_init 92 = .ok (.aload_n 1, 1) := by decide +kernel
theorem dX1_init_93 : decode cX1_init 93 = .ok (.putfield 51, 3) := by decide +kernel
theorem dX1_init_96 : decode cX1_init 96 = .ok (.aload_n 0, 1) := by decide +kernel
theorem dX1_init_97 : decode cX1_init 97 = .ok (.aload_n 2, 1) := by decide +kernel
theorem dX1_init_98 : decode cX1_init 98 = .ok (.putfield 55, 3) := by decide +kernel
theorem dX1_init_101 : decode cX1_init 101 = .ok (.return_, 1) := by decide +kernel
theorem dX1_build_0 : decode cX1_build 0 = .ok (.aload_n 0, 1) := by decide +kernel
theorem dX1_build_1 : decode cX1_build 1 = .ok (.getfield 9, 3) := by decide +kernel
theorem dX1_build_4 : decode cX1_build 4 = .ok (.ifCond .eq 4, 3) := by decide +kernel
theorem dX1_build_7 : decode cX1_build 7 = .ok (.return_, 1) := by decide +kernel
theorem dX1_build_8 : decode cX1_build 8 = .ok (.aload_n 0, 1) := by decide +kernel
theorem dX1_build_9 : decode cX1_build 9 = .ok (.getfield 19, 3) := by decide +kernel
theorem dX1_build_12 : decode cX1_build 12 = .ok (.bipush (-6), 2) := by decide +kernel
theorem dX1_build_14 : decode cX1_build 14 = .ok (.invokestatic 59, 3) := by decide +kernel
theorem dX1_build_17 : decode cX1_build 17 = .ok (.iconst 0, 1) := by decide +kernel
theorem dX1_build_18 : decode cX1_build 18 = .ok (.istore_n 1, 1) := by decide +kernel
theorem dX1_build_19 : decode cX1_build 19 = .ok (.iload_n 1, 1) := by decide +kernel
theorem dX1_build_20 : decode cX1_build 20 = .ok (.bipush 24, 2) := by decide +kernel
theorem dX1_build_22 : decode cX1_build 22 = .ok (.if_icmp .ge 21, 3) := by decide +kernel
theorem dX1_build_25 : decode cX1_build 25 = .ok (.aload_n 0, 1) := by decide +kernel
theorem dX1_build_26 : decode cX1_build 26 = .ok (.getfield 25, 3) := by decide +kernel
theorem dX1_build_29 : decode cX1_build 29 = .ok (.iload_n 1, 1) := by decide +kernel
theorem dX1_build_30 : decode cX1_build 30 = .ok (.aaload, 1) := by decide +kernel
theorem dX1_build_31 : decode cX1_build 31 = .ok (.ldc2_w 65, 3) := by decide +kernel
theorem dX1_build_34 : decode cX1_build 34 = .ok (.invokestatic 67, 3) := by decide +kernel
theorem dX1_build_37 : decode cX1_build 37 = .ok (.iinc 1 1, 3) := by decide +kernel
theorem dX1_build_40 : decode cX1_build 40 = .ok (.goto (-21), 3) := by decide +kernel
theorem dX1_build_43 : decode cX1_build 43 = .ok (.iconst 0, 1) := by decide +kernel
theorem dX1_build_44 : decode cX1_build 44 = .ok (.istore_n 1, 1) := by decide +kernel
theorem dX1_build_45 : decode cX1_build 45 = .ok (.iload_n 1, 1) := by decide +kernel
theorem dX1_build_46 : decode cX1_build 46 = .ok (.bipush 20, 2) := by decide +kernel
theorem dX1_build_48 : decode cX1_build 48 = .ok (.if_icmp .ge 16, 3) := by decide +kernel
theorem dX1_build_51 : decode cX1_build 51 = .ok (.aload_n 0, 1) := by decide +kernel
theorem dX1_build_52 : decode cX1_build 52 = .ok (.getfield 32, 3) := by decide +kernel
theorem dX1_build_55 : decode cX1_build 55 = .ok (.iload_n 1, 1) := by decide +kernel
theorem dX1_build_56 : decode cX1_build 56 = .ok (.iconst 0, 1) := by decide +kernel
theorem dX1_build_57 : decode cX1_build 57 = .ok (.bastore, 1) := by decide +kernel
theorem dX1_build_58 : decode cX1_build 58 = .ok (.iinc 1 1, 3) := by decide +kernel
theorem dX1_build_61 : decode cX1_build 61 = .ok (.goto (-16), 3) := by decide +kernel
theorem dX1_build_64 : decode cX1_build 64 = .ok (.aload_n 0, 1) := by decide +kernel
theorem dX1_build_65 : decode cX1_build 65 = .ok (.iconst 0, 1) := by decide +kernel
theorem dX1_build_66 : decode cX1_build 66 = .ok (.putfield 39, 3) := by decide +kernel
theorem dX1_build_69 : decode cX1_build 69 = .ok (.aload_n 0, 1) := by decide +kernel
theorem dX1_build_70 : decode cX1_build 70 = .ok (.invokevirtual 70, 3) := by decide +kernel
theorem dX1_build_73 : decode cX1_build 73 = .ok (.iconst 0, 1) := by decide +kernel
theorem dX1_build_74 : decode cX1_build 74 = .ok (.istore_n 1, 1) := by decide +kernel
theorem dX1_build_75 : decode cX1_build 75 = .ok (.iload_n 1, 1) := by decide +kernel
theorem dX1_build_76 : decode cX1_build 76 = .ok (.aload_n 0, 1) := by decide +kernel
theorem dX1_build_77 : decode cX1_build 77 = .ok (.getfield 39, 3) := by decide +kernel
theorem dX1_build_80 : decode cX1_build 80 = .ok (.if_icmp .ge 25, 3) := by decide +kernel
theorem dX1_build_83 : decode cX1_build 83 = .ok (.iload_n 1, 1) := by decide +kernel
theorem dX1_build_84 : decode cX1_build 84 = .ok (.bipush 20, 2) := by decide +kernel
theorem dX1_build_86 : decode cX1_build 86 = .ok (.if_icmp .ge 19, 3) := by decide +kernel
theorem dX1_build_89 : decode cX1_build 89 = .ok (.aload_n 0, 1) := by decide +kernel
theorem dX1_build_90 : decode cX1_build 90 = .ok (.aload_n 0, 1) := by decide +kernel
theorem dX1_build_91 : decode cX1_build 91 = .ok (.getfield 36, 3) := by decide +kernel
theorem dX1_build_94 : decode cX1_build 94 = .ok (.iload_n 1, 1) := by decide +kernel
theorem dX1_build_95 : decode cX1_build 95 = .ok (.iaload, 1) := by decide +kernel
theorem dX1_build_96 : decode cX1_build 96 = .ok (.invokevirtual 73, 3) := by decide +kernel
theorem dX1_build_99 : decode cX1_build 99 = .ok (.iinc 1 1, 3) := by decide +kernel
theorem dX1_build_102 : decode cX1_build 102 = .ok (.goto (-27), 3) := by decide +kernel
theorem dX1_build_105 : decode cX1_build 105 = .ok (.aload_n 0, 1) := by decide +kernel
theorem dX1_build_106 : decode cX1_build 106 = .ok (.invokevirtual 77, 3) := by decide +kernel
theorem dX1_build_109 : decode cX1_build 109 = .ok (.aload_n 0, 1) := by decide +kernel
theorem dX1_build_110 : decode cX1_build 110 = .ok (.invokevirtual 80, 3) := by decide +kernel
theorem dX1_build_113 : decode cX1_build 113 = .ok (.aload_n 0, 1) := by decide +kernel
theorem dX1_build_114 : decode cX1_build 114 = .ok (.iconst 1, 1) := by decide +kernel
theorem dX1_build_115 : decode cX1_build 115 = .ok (.putfield 9, 3) := by decide +kernel
theorem dX1_build_118 : decode cX1_build 118 = .ok (.return_, 1) := by decide +kernel
theorem dX1_readStartStack_0 : decode cX1_readStartStack 0 = .ok (.iconst 0, 1) := by decide +kernel
theorem dX1_readStartStack_1 : decode cX1_readStartStack 1 = .ok (.istore_n 1, 1) := by decide +kernel
theorem dX1_readStartStack_2 : decode cX1_readStartStack 2 = .ok (.iload_n 1, 1) := by decide +kernel
theorem dX1_readStartStack_3 : decode cX1_readStartStack 3 = .ok (.aload_n 0, 1) := by decide +kernel
theorem dX1_readStartStack_4 : decode cX1_readStartStack 4 = .ok (.getfield 51, 3) := by decide +kernel
theorem dX1_readStartStack_7 : decode cX1_readStartStack 7 = .ok (.getfield 83, 3) := by decide +kernel
theorem dX1_readStartStack_10 : decode cX1_readStartStack 10 = .ok (.getfield 89, 3) := by decide +kernel
theorem dX1_readStartStack_13 : decode cX1_readStartStack 13 = .ok (.if_icmp .ge 97, 3) := by decide +kernel
theorem dX1_readStartStack_16 : decode cX1_readStartStack 16 = .ok (.iload_n 1, 1) := by decide +kernel
theorem dX1_readStartStack_17 : decode cX1_readStartStack 17 = .ok (.iconst 4, 1) := by decide +kernel
theorem dX1_readStartStack_18 : decode cX1_readStartStack 18 = .ok (.if_icmp .ge 92, 3) := by decide +kernel
theorem dX1_readStartStack_21 : decode cX1_readStartStack 21 = .ok (.bipush 20, 2) := by decide +kernel
theorem dX1_readStartStack_23 : decode cX1_readStartStack 23 = .ok (.iload_n 1, 1) := by decide +kernel
theorem dX1_readStartStack_24 : decode cX1_readStartStack 24 = .ok (.iadd, 1) := by decide +kernel
theorem dX1_readStartStack_25 : decode cX1_readStartStack 25 = .ok (.istore_n 2, 1) := by decide +kernel
theorem dX1_readStartStack_26 : decode cX1_readStartStack 26 = .ok (.aload_n 0, 1) := by decide +kernel
theorem dX1_readStartStack_27 : decode cX1_readStartStack 27 = .ok (.getfield 51, 3) := by decide +kernel
theorem dX1_readStartStack_30 : decode cX1_readStartStack 30 = .ok (.getfield 83, 3) := by decide +kernel
theorem dX1_readStartStack_33 : decode cX1_readStartStack 33 = .ok (.getfield 94, 3) := by decide +kernel
theorem dX1_readStartStack_36 : decode cX1_readStartStack 36 = .ok (.iload_n 1, 1) := by decide +kernel
theorem dX1_readStartStack_37 : decode cX1_readStartStack 37 = .ok (.iaload, 1) := by decide +kernel
theorem dX1_readStartStack_38 : decode cX1_readStartStack 38 = .ok (.istore_n 3, 1) := by decide +kernel
theorem dX1_readStartStack_39 : decode cX1_readStartStack 39 = .ok (.iload_n 1, 1) := by decide +kernel
theorem dX1_readStartStack_40 : decode cX1_readStartStack 40 = .ok (.ifCond .ne 39, 3) := by decide +kernel
theorem dX1_readStartStack_43 : decode cX1_readStartStack 43 = .ok (.aload_n 0, 1) := by decide +kernel
theorem dX1_readStartStack_44 : decode cX1_readStartStack 44 = .ok (.getfield 25, 3) := by decide +kernel
theorem dX1_readStartStack_47 : decode cX1_readStartStack 47 = .ok (.iload_n 2, 1) := by decide +kernel
theorem dX1_readStartStack_48 : decode cX1_readStartStack 48 = .ok (.aaload, 1) := by decide +kernel
theorem dX1_readStartStack_49 : decode cX1_readStartStack 49 = .ok (.aload_n 0, 1) := by decide +kernel
theorem dX1_readStartStack_50 : decode cX1_readStartStack 50 = .ok (.getfield 51, 3) := by decide +kernel
theorem dX1_readStartStack_53 : decode cX1_readStartStack 53 = .ok (.getfield 97, 3) := by decide +kernel
theorem dX1_readStartStack_56 : decode cX1_readStartStack 56 = .ok (.iload_n 3, 1) := by decide +kernel
theorem dX1_readStartStack_57 : decode cX1_readStartStack 57 = .ok (.invokestatic 100, 3) := by decide +kernel
theorem dX1_readStartStack_60 : decode cX1_readStartStack 60 = .ok (.lconst 0, 1) := by decide +kernel
theorem dX1_readStartStack_61 : decode cX1_readStartStack 61 = .ok (.lastore, 1) := by decide +kernel
theorem dX1_readStartStack_62 : decode cX1_readStartStack 62 = .ok (.aload_n 0, 1) := by decide +kernel
theorem dX1_readStartStack_63 : decode cX1_readStartStack 63 = .ok (.aload_n 0, 1) := by decide +kernel
theorem dX1_readStartStack_64 : decode cX1_readStartStack 64 = .ok (.getfield 51, 3) := by decide +kernel
theorem dX1_readStartStack_67 : decode cX1_readStartStack 67 = .ok (.getfield 97, 3) := by decide +kernel
theorem dX1_readStartStack_70 : decode cX1_readStartStack 70 = .ok (.iload_n 3, 1) := by decide +kernel
theorem dX1_readStartStack_71 : decode cX1_readStartStack 71 = .ok (.iload_n 2, 1) := by decide +kernel
theorem dX1_readStartStack_72 : decode cX1_readStartStack 72 = .ok (.lconst 0, 1) := by decide +kernel
theorem dX1_readStartStack_73 : decode cX1_readStartStack 73 = .ok (.invokevirtual 104, 3) := by decide +kernel
theorem dX1_readStartStack_76 : decode cX1_readStartStack 76 = .ok (.goto 23, 3) := by decide +kernel
theorem dX1_readStartStack_79 : decode cX1_readStartStack 79 = .ok (.aload_n 0, 1) := by decide +kernel
theorem dX1_readStartStack_80 : decode cX1_readStartStack 80 = .ok (.iload_n 2, 1) := by decide +kernel
theorem dX1_readStartStack_81 : decode cX1_readStartStack 81 = .ok (.iconst 1, 1) := by decide +kernel
theorem dX1_readStartStack_82 : decode cX1_readStartStack 82 = .ok (.isub, 1) := by decide +kernel
theorem dX1_readStartStack_83 : decode cX1_readStartStack 83 = .ok (.iload_n 3, 1) := by decide +kernel
theorem dX1_readStartStack_84 : decode cX1_readStartStack 84 = .ok (.invokevirtual 108, 3) := by decide +kernel
theorem dX1_readStartStack_87 : decode cX1_readStartStack 87 = .ok (.aload_n 0, 1) := by decide +kernel
theorem dX1_readStartStack_88 : decode cX1_readStartStack 88 = .ok (.iconst 4, 1) := by decide +kernel
theorem dX1_readStartStack_89 : decode cX1_readStartStack 89 = .ok (.iload_n 2, 1) := by decide +kernel
theorem dX1_readStartStack_90 : decode cX1_readStartStack 90 = .ok (.iadd, 1) := by decide +kernel
theorem dX1_readStartStack_91 : decode cX1_readStartStack 91 = .ok (.iconst 1, 1) := by decide +kernel
theorem dX1_readStartStack_92 : decode cX1_readStartStack 92 = .ok (.isub, 1) := by decide +kernel
theorem dX1_readStartStack_93 : decode cX1_readStartStack 93 = .ok (.iload_n 3, 1) := by decide +kernel
theorem dX1_readStartStack_94 : decode cX1_readStartStack 94 = .ok (.iload_n 2, 1) := by decide +kernel
theorem dX1_readStartStack_95 : decode cX1_readStartStack 95 = .ok (.lconst 0, 1) := by decide +kernel
theorem dX1_readStartStack_96 : decode cX1_readStartStack 96 = .ok (.invokevirtual 104, 3) := by decide +kernel
theorem dX1_readStartStack_99 : decode cX1_readStartStack 99 = .ok (.aload_n 0, 1) := by decide +kernel
theorem dX1_readStartStack_100 : decode cX1_readStartStack 100 = .ok (.iload_n 2, 1) := by decide +kernel
theorem dX1_readStartStack_101 : decode cX1_readStartStack 101 = .ok (.invokevirtual 112, 3) := by decide +kernel
theorem dX1_readStartStack_104 : decode cX1_readStartStack 104 = .ok (.iinc 1 1, 3) := by decide +kernel
theorem dX1_readStartStack_107 : decode cX1_readStartStack 107 = .ok (.goto (-105), 3) := by decide +kernel
theorem dX1_readStartStack_110 : decode cX1_readStartStack 110 = .ok (.return_, 1) := by decide +kernel
theorem dX1_readOnFrom_0 : decode cX1_readOnFrom 0 = .ok (.iconst 0, 1) := by decide +kernel
theorem dX1_readOnFrom_1 : decode cX1_readOnFrom 1 = .ok (.istore_n 3, 1) := by decide +kernel
theorem dX1_readOnFrom_2 : decode cX1_readOnFrom 2 = .ok (.iload_n 3, 1) := by decide +kernel
theorem dX1_readOnFrom_3 : decode cX1_readOnFrom 3 = .ok (.aload_n 0, 1) := by decide +kernel
theorem dX1_readOnFrom_4 : decode cX1_readOnFrom 4 = .ok (.getfield 51, 3) := by decide +kernel
theorem dX1_readOnFrom_7 : decode cX1_readOnFrom 7 = .ok (.getfield 115, 3) := by decide +kernel
theorem dX1_readOnFrom_10 : decode cX1_readOnFrom 10 = .ok (.if_icmp .ge 44, 3) := by decide +kernel
theorem dX1_readOnFrom_13 : decode cX1_readOnFrom 13 = .ok (.aload_n 0, 1) := by decide +kernel
theorem dX1_readOnFrom_14 : decode cX1_readOnFrom 14 = .ok (.iload_n 3, 1) := by decide +kernel
theorem dX1_readOnFrom_15 : decode cX1_readOnFrom 15 = .ok (.iconst 0, 1) := by decide +kernel
theorem dX1_readOnFrom_16 : decode cX1_readOnFrom 16 = .ok (.iload_n 1, 1) := by decide +kernel
theorem dX1_readOnFrom_17 : decode cX1_readOnFrom 17 = .ok (.invokevirtual 118, 3) := by decide +kernel
theorem dX1_readOnFrom_20 : decode cX1_readOnFrom 20 = .ok (.istore 4, 2) := by decide +kernel
theorem dX1_readOnFrom_22 : decode cX1_readOnFrom 22 = .ok (.iload 4, 2) := by decide +kernel
theorem dX1_readOnFrom_24 : decode cX1_readOnFrom 24 = .ok (.bipush (-6), 2) := by decide +kernel
theorem dX1_readOnFrom_26 : decode cX1_readOnFrom 26 = .ok (.if_icmp .eq 22, 3) := by decide +kernel
theorem dX1_readOnFrom_29 : decode cX1_readOnFrom 29 = .ok (.aload_n 0, 1) := by decide +kernel
theorem dX1_readOnFrom_30 : decode cX1_readOnFrom 30 = .ok (.getfield 25, 3) := by decide +kernel
theorem dX1_readOnFrom_33 : decode cX1_readOnFrom 33 = .ok (.iload_n 1, 1) := by decide +kernel
theorem dX1_readOnFrom_34 : decode cX1_readOnFrom 34 = .ok (.iconst 1, 1) := by decide +kernel
theorem dX1_readOnFrom_35 : decode cX1_readOnFrom 35 = .ok (.iadd, 1) := by decide +kernel
theorem dX1_readOnFrom_36 : decode cX1_readOnFrom 36 = .ok (.aaload, 1) := by decide +kernel
theorem dX1_readOnFrom_37 : decode cX1_readOnFrom 37 = .ok (.iload_n 3, 1) := by decide +kernel
theorem dX1_readOnFrom_38 : decode cX1_readOnFrom 38 = .ok (.iload_n 2, 1) := by decide +kernel
theorem dX1_readOnFrom_39 : decode cX1_readOnFrom 39 = .ok (.invokestatic 100, 3) := by decide +kernel
theorem dX1_readOnFrom_42 : decode cX1_readOnFrom 42 = .ok (.iload 4, 2) := by decide +kernel
theorem dX1_readOnFrom_44 : decode cX1_readOnFrom 44 = .ok (.invokestatic 122, 3) := by decide +kernel
theorem dX1_readOnFrom_47 : decode cX1_readOnFrom 47 = .ok (.lastore, 1) := by decide +kernel
theorem dX1_readOnFrom_48 : decode cX1_readOnFrom 48 = .ok (.iinc 3 1, 3) := by decide +kernel
theorem dX1_readOnFrom_51 : decode cX1_readOnFrom 51 = .ok (.goto (-49), 3) := by decide +kernel
theorem dX1_readOnFrom_54 : decode cX1_readOnFrom 54 = .ok (.return_, 1) := by decide +kernel
theorem dX1_readFromHead_0 : decode cX1_readFromHead 0 = .ok (.aload_n 0, 1) := by decide +kernel
theorem dX1_readFromHead_1 : decode cX1_readFromHead 1 = .ok (.getfield 25, 3) := by decide +kernel
theorem dX1_readFromHead_4 : decode cX1_readFromHead 4 = .ok (.iload_n 1, 1) := by decide +kernel
theorem dX1_readFromHead_5 : decode cX1_readFromHead 5 = .ok (.aaload, 1) := by decide +kernel
theorem dX1_readFromHead_6 : decode cX1_readFromHead 6 = .ok (.iload_n 1, 1) := by decide +kernel
theorem dX1_readFromHead_7 : decode cX1_readFromHead 7 = .ok (.lconst 0, 1) := by decide +kernel
theorem dX1_readFromHead_8 : decode cX1_readFromHead 8 = .ok (.lastore, 1) := by decide +kernel
theorem dX1_readFromHead_9 : decode cX1_readFromHead 9 = .ok (.aload_n 0, 1) := by decide +kernel
theorem dX1_readFromHead_10 : decode cX1_readFromHead 10 = .ok (.iload_n 1, 1) := by decide +kernel
theorem dX1_readFromHead_11 : decode cX1_readFromHead 11 = .ok (.iconst 5, 1) := by decide +kernel
theorem dX1_readFromHead_12 : decode cX1_readFromHead 12 = .ok (.idiv, 1) := by decide +kernel
theorem dX1_readFromHead_13 : decode cX1_readFromHead 13 = .ok (.iload_n 1, 1) := by decide +kernel
theorem dX1_readFromHead_14 : decode cX1_readFromHead 14 = .ok (.iconst 5, 1) := by decide +kernel
theorem dX1_readFromHead_15 : decode cX1_readFromHead 15 = .ok (.irem, 1) := by decide +kernel
theorem dX1_readFromHead_16 : decode cX1_readFromHead 16 = .ok (.iconst 1, 1) := by decide +kernel
theorem dX1_readFromHead_17 : decode cX1_readFromHead 17 = .ok (.iadd, 1) := by decide +kernel
theorem dX1_readFromHead_18 : decode cX1_readFromHead 18 = .ok (.iload_n 1, 1) := by decide +kernel
theorem dX1_readFromHead_19 : decode cX1_readFromHead 19 = .ok (.lconst 0, 1) := by decide +kernel
theorem dX1_readFromHead_20 : decode cX1_readFromHead 20 = .ok (.invokevirtual 104, 3) := by decide +kernel
theorem dX1_readFromHead_23 : decode cX1_readFromHead 23 = .ok (.aload_n 0, 1) := by decide +kernel
theorem dX1_readFromHead_24 : decode cX1_readFromHead 24 = .ok (.iload_n 1, 1) := by decide +kernel
theorem dX1_readFromHead_25 : decode cX1_readFromHead 25 = .ok (.invokevirtual 112, 3) := by decide +kernel
theorem dX1_readFromHead_28 : decode cX1_readFromHead 28 = .ok (.return_, 1) := by decide +kernel
theorem dX1_addArcsTo_0 : decode cX1_addArcsTo 0 = .ok (.aload_n 0, 1) := by decide +kernel
theorem dX1_addArcsTo_1 : decode cX1_addArcsTo 1 = .ok (.getfield 25, 3) := by decide +kernel
theorem dX1_addArcsTo_4 : decode cX1_addArcsTo 4 = .ok (.iload_n 1, 1) := by decide +kernel
theorem dX1_addArcsTo_5 : decode cX1_addArcsTo 5 = .ok (.aaload, 1) := by decide +kernel
theorem dX1_addArcsTo_6 : decode cX1_addArcsTo 6 = .ok (.astore_n 2, 1) := by decide +kernel
theorem dX1_addArcsTo_7 : decode cX1_addArcsTo 7 = .ok (.aload_n 0, 1) := by decide +kernel
theorem dX1_addArcsTo_8 : decode cX1_addArcsTo 8 = .ok (.getfield 55, 3) := by decide +kernel
theorem dX1_addArcsTo_11 : decode cX1_addArcsTo 11 = .ok (.aload_n 2, 1) := by decide +kernel
theorem dX1_addArcsTo_12 : decode cX1_addArcsTo 12 = .ok (.invokevirtual 126, 3) := by decide +kernel
theorem dX1_addArcsTo_15 : decode cX1_addArcsTo 15 = .ok (.iconst 0, 1) := by decide +kernel
theorem dX1_addArcsTo_16 : decode cX1_addArcsTo 16 = .ok (.istore_n 3, 1) := by decide +kernel
theorem dX1_addArcsTo_17 : decode cX1_addArcsTo 17 = .ok (.iload_n 3, 1) := by decide +kernel
theorem dX1_addArcsTo_18 : decode cX1_addArcsTo 18 = .ok (.aload_n 0, 1) := by decide +kernel
theorem dX1_addArcsTo_19 : decode cX1_addArcsTo 19 = .ok (.getfield 51, 3) := by decide +kernel
theorem dX1_addArcsTo_22 : decode cX1_addArcsTo 22 = .ok (.getfield 132, 3) := by decide +kernel
theorem dX1_addArcsTo_25 : decode cX1_addArcsTo 25 = .ok (.if_icmp .ge 54, 3) := by decide +kernel
theorem dX1_addArcsTo_28 : decode cX1_addArcsTo 28 = .ok (.aload_n 2, 1) := by decide +kernel
theorem dX1_addArcsTo_29 : decode cX1_addArcsTo 29 = .ok (.aload_n 0, 1) := by decide +kernel
theorem dX1_addArcsTo_30 : decode cX1_addArcsTo 30 = .ok (.getfield 51, 3) := by decide +kernel
theorem dX1_addArcsTo_33 : decode cX1_addArcsTo 33 = .ok (.getfield 133, 3) := by decide +kernel
theorem dX1_addArcsTo_36 : decode cX1_addArcsTo 36 = .ok (.iload_n 3, 1) := by decide +kernel
theorem dX1_addArcsTo_37 : decode cX1_addArcsTo 37 = .ok (.iaload, 1) := by decide +kernel
theorem dX1_addArcsTo_38 : decode cX1_addArcsTo 38 = .ok (.laload, 1) := by decide +kernel
theorem dX1_addArcsTo_39 : decode cX1_addArcsTo 39 = .ok (.ldc2_w 65, 3) := by decide +kernel
theorem dX1_addArcsTo_42 : decode cX1_addArcsTo 42 = .ok (.lcmp, 1) := by decide +kernel
theorem dX1_addArcsTo_43 : decode cX1_addArcsTo 43 = .ok (.ifCond .ge 30, 3) := by decide +kernel
theorem dX1_addArcsTo_46 : decode cX1_addArcsTo 46 = .ok (.aload_n 0, 1) := by decide +kernel
theorem dX1_addArcsTo_47 : decode cX1_addArcsTo 47 = .ok (.iload_n 3, 1) := by decide +kernel
theorem dX1_addArcsTo_48 : decode cX1_addArcsTo 48 = .ok (.iload_n 1, 1) := by decide +kernel
theorem dX1_addArcsTo_49 : decode cX1_addArcsTo 49 = .ok (.aload_n 2, 1) := by decide +kernel
theorem dX1_addArcsTo_50 : decode cX1_addArcsTo 50 = .ok (.aload_n 0, 1) := by decide +kernel
theorem dX1_addArcsTo_51 : decode cX1_addArcsTo 51 = .ok (.getfield 51, 3) := by decide +kernel
theorem dX1_addArcsTo_54 : decode cX1_addArcsTo 54 = .ok (.getfield 133, 3) := by decide +kernel
theorem dX1_addArcsTo_57 : decode cX1_addArcsTo 57 = .ok (.iload_n 3, 1) := by decide +kernel
theorem dX1_addArcsTo_58 : decode cX1_addArcsTo 58 = .ok (.iaload, 1) := by decide +kernel
theorem dX1_addArcsTo_59 : decode cX1_addArcsTo 59 = .ok (.laload, 1) := by decide +kernel
theorem dX1_addArcsTo_60 : decode cX1_addArcsTo 60 = .ok (.aload_n 0, 1) := by decide +kernel
theorem dX1_addArcsTo_61 : decode cX1_addArcsTo 61 = .ok (.getfield 51, 3) := by decide +kernel
theorem dX1_addArcsTo_64 : decode cX1_addArcsTo 64 = .ok (.getfield 136, 3) := by decide +kernel
theorem dX1_addArcsTo_67 : decode cX1_addArcsTo 67 = .ok (.iload_n 3, 1) := by decide +kernel
theorem dX1_addArcsTo_68 : decode cX1_addArcsTo 68 = .ok (.laload, 1) := by decide +kernel
theorem dX1_addArcsTo_69 : decode cX1_addArcsTo 69 = .ok (.ladd, 1) := by decide +kernel
theorem dX1_addArcsTo_70 : decode cX1_addArcsTo 70 = .ok (.invokevirtual 139, 3) := by decide +kernel
theorem dX1_addArcsTo_73 : decode cX1_addArcsTo 73 = .ok (.iinc 3 1, 3) := by decide +kernel
theorem dX1_addArcsTo_76 : decode cX1_addArcsTo 76 = .ok (.goto (-59), 3) := by decide +kernel
theorem dX1_addArcsTo_79 : decode cX1_addArcsTo 79 = .ok (.return_, 1) := by decide +kernel
theorem dX1_addArcsBy_0 : decode cX1_addArcsBy 0 = .ok (.aload_n 0, 1) := by decide +kernel
theorem dX1_addArcsBy_1 : decode cX1_addArcsBy 1 = .ok (.getfield 51, 3) := by decide +kernel
theorem dX1_addArcsBy_4 : decode cX1_addArcsBy 4 = .ok (.getfield 143, 3) := by decide +kernel
theorem dX1_addArcsBy_7 : decode cX1_addArcsBy 7 = .ok (.iload_n 1, 1) := by decide +kernel
theorem dX1_addArcsBy_8 : decode cX1_addArcsBy 8 = .ok (.iaload, 1) := by decide +kernel
theorem dX1_addArcsBy_9 : decode cX1_addArcsBy 9 = .ok (.istore 5, 2) := by decide +kernel
theorem dX1_addArcsBy_11 : decode cX1_addArcsBy 11 = .ok (.aload_n 0, 1) := by decide +kernel
theorem dX1_addArcsBy_12 : decode cX1_addArcsBy 12 = .ok (.getfield 51, 3) := by decide +kernel
theorem dX1_addArcsBy_15 : decode cX1_addArcsBy 15 = .ok (.getfield 146, 3) := by decide +kernel
theorem dX1_addArcsBy_18 : decode cX1_addArcsBy 18 = .ok (.iload_n 1, 1) := by decide +kernel
theorem dX1_addArcsBy_19 : decode cX1_addArcsBy 19 = .ok (.iaload, 1) := by decide +kernel
theorem dX1_addArcsBy_20 : decode cX1_addArcsBy 20 = .ok (.ifCond .ne 22, 3) := by decide +kernel
theorem dX1_addArcsBy_23 : decode cX1_addArcsBy 23 = .ok (.aload_n 0, 1) := by decide +kernel
theorem dX1_addArcsBy_24 : decode cX1_addArcsBy 24 = .ok (.aload_n 0, 1) := by decide +kernel
theorem dX1_addArcsBy_25 : decode cX1_addArcsBy 25 = .ok (.getfield 51, 3) := by decide +kernel
theorem dX1_addArcsBy_28 : decode cX1_addArcsBy 28 = .ok (.getfield 149, 3) := by decide +kernel
theorem dX1_addArcsBy_31 : decode cX1_addArcsBy 31 = .ok (.iload_n 1, 1) := by decide +kernel
theorem dX1_addArcsBy_32 : decode cX1_addArcsBy 32 = .ok (.iaload, 1) := by decide +kernel
theorem dX1_addArcsBy_33 : decode cX1_addArcsBy 33 = .ok (.iconst 0, 1) := by decide +kernel
theorem dX1_addArcsBy_34 : decode cX1_addArcsBy 34 = .ok (.iload_n 2, 1) := by decide +kernel
theorem dX1_addArcsBy_35 : decode cX1_addArcsBy 35 = .ok (.lload_n 3, 1) := by decide +kernel
theorem dX1_addArcsBy_36 : decode cX1_addArcsBy 36 = .ok (.invokevirtual 104, 3) := by decide +kernel
theorem dX1_addArcsBy_39 : decode cX1_addArcsBy 39 = .ok (.goto 65, 3) := by decide +kernel
theorem dX1_addArcsBy_42 : decode cX1_addArcsBy 42 = .ok (.aload_n 0, 1) := by decide +kernel
theorem dX1_addArcsBy_43 : decode cX1_addArcsBy 43 = .ok (.getfield 51, 3) := by decide +kernel
theorem dX1_addArcsBy_46 : decode cX1_addArcsBy 46 = .ok (.getfield 146, 3) := by decide +kernel
theorem dX1_addArcsBy_49 : decode cX1_addArcsBy 49 = .ok (.iload_n 1, 1) := by decide +kernel
theorem dX1_addArcsBy_50 : decode cX1_addArcsBy 50 = .ok (.iaload, 1) := by decide +kernel
theorem dX1_addArcsBy_51 : decode cX1_addArcsBy 51 = .ok (.iconst 1, 1) := by decide +kernel
theorem dX1_addArcsBy_52 : decode cX1_addArcsBy 52 = .ok (.if_icmp .ne 27, 3) := by decide +kernel
theorem dX1_addArcsBy_55 : decode cX1_addArcsBy 55 = .ok (.aload_n 0, 1) := by decide +kernel
theorem dX1_addArcsBy_56 : decode cX1_addArcsBy 56 = .ok (.aload_n 0, 1) := by decide +kernel
theorem dX1_addArcsBy_57 : decode cX1_addArcsBy 57 = .ok (.getfield 51, 3) := by decide +kernel
theorem dX1_addArcsBy_60 : decode cX1_addArcsBy 60 = .ok (.getfield 149, 3) := by decide +kernel
theorem dX1_addArcsBy_63 : decode cX1_addArcsBy 63 = .ok (.iload_n 1, 1) := by decide +kernel
theorem dX1_addArcsBy_64 : decode cX1_addArcsBy 64 = .ok (.iaload, 1) := by decide +kernel
theorem dX1_addArcsBy_65 : decode cX1_addArcsBy 65 = .ok (.iload 5, 2) := by decide +kernel
theorem dX1_addArcsBy_67 : decode cX1_addArcsBy 67 = .ok (.iconst 5, 1) := by decide +kernel
theorem dX1_addArcsBy_68 : decode cX1_addArcsBy 68 = .ok (.irem, 1) := by decide +kernel
theorem dX1_addArcsBy_69 : decode cX1_addArcsBy 69 = .ok (.iconst 1, 1) := by decide +kernel
theorem dX1_addArcsBy_70 : decode cX1_addArcsBy 70 = .ok (.iadd, 1) := by decide +kernel
theorem dX1_addArcsBy_71 : decode cX1_addArcsBy 71 = .ok (.iload_n 2, 1) := by decide +kernel
theorem dX1_addArcsBy_72 : decode cX1_addArcsBy 72 = .ok (.lload_n 3, 1) := by decide +kernel
theorem dX1_addArcsBy_73 : decode cX1_addArcsBy 73 = .ok (.invokevirtual 104, 3) := by decide +kernel
theorem dX1_addArcsBy_76 : decode cX1_addArcsBy 76 = .ok (.goto 28, 3) := by decide +kernel
theorem dX1_addArcsBy_79 : decode cX1_addArcsBy 79 = .ok (.aload_n 0, 1) := by decide +kernel
theorem dX1_addArcsBy_80 : decode cX1_addArcsBy 80 = .ok (.iload 5, 2) := by decide +kernel
theorem dX1_addArcsBy_82 : decode cX1_addArcsBy 82 = .ok (.invokevirtual 152, 3) := by decide +kernel
theorem dX1_addArcsBy_85 : decode cX1_addArcsBy 85 = .ok (.aload_n 0, 1) := by decide +kernel
theorem dX1_addArcsBy_86 : decode cX1_addArcsBy 86 = .ok (.iconst 4, 1) := by decide +kernel
theorem dX1_addArcsBy_87 : decode cX1_addArcsBy 87 = .ok (.iload 5, 2) := by decide +kernel
theorem dX1_addArcsBy_89 : decode cX1_addArcsBy 89 = .ok (.iadd, 1) := by decide +kernel
theorem dX1_addArcsBy_90 : decode cX1_addArcsBy 90 = .ok (.aload_n 0, 1) := by decide +kernel
theorem dX1_addArcsBy_91 : decode cX1_addArcsBy 91 = .ok (.getfield 51, 3) := by decide +kernel
theorem dX1_addArcsBy_94 : decode cX1_addArcsBy 94 = .ok (.getfield 155, 3) := by decide +kernel
theorem dX1_addArcsBy_97 : decode cX1_addArcsBy 97 = .ok (.iload_n 1, 1) := by decide +kernel
theorem dX1_addArcsBy_98 : decode cX1_addArcsBy 98 = .ok (.iaload, 1) := by decide +kernel
theorem dX1_addArcsBy_99 : decode cX1_addArcsBy 99 = .ok (.iload_n 2, 1) := by decide +kernel
theorem dX1_addArcsBy_100 : decode cX1_addArcsBy 100 = .ok (.lload_n 3, 1) := by decide +kernel
theorem dX1_addArcsBy_101 : decode cX1_addArcsBy 101 = .ok (.invokevirtual 104, 3) := by decide +kernel
theorem dX1_addArcsBy_104 : decode cX1_addArcsBy 104 = .ok (.return_, 1) := by decide +kernel
theorem dX1_openHead_0 : decode cX1_openHead 0 = .ok (.aload_n 0, 1) := by decide +kernel
theorem dX1_openHead_1 : decode cX1_openHead 1 = .ok (.getfield 32, 3) := by decide +kernel
theorem dX1_openHead_4 : decode cX1_openHead 4 = .ok (.iload_n 1, 1) := by decide +kernel
theorem dX1_openHead_5 : decode cX1_openHead 5 = .ok (.baload, 1) := by decide +kernel
theorem dX1_openHead_6 : decode cX1_openHead 6 = .ok (.ifCond .ne 39, 3) := by decide +kernel
theorem dX1_openHead_9 : decode cX1_openHead 9 = .ok (.aload_n 0, 1) := by decide +kernel
theorem dX1_openHead_10 : decode cX1_openHead 10 = .ok (.getfield 39, 3) := by decide +kernel
theorem dX1_openHead_13 : decode cX1_openHead 13 = .ok (.bipush 20, 2) := by decide +kernel
theorem dX1_openHead_15 : decode cX1_openHead 15 = .ok (.if_icmp .ge 30, 3) := by decide +kernel
theorem dX1_openHead_18 : decode cX1_openHead 18 = .ok (.aload_n 0, 1) := by decide +kernel
theorem dX1_openHead_19 : decode cX1_openHead 19 = .ok (.getfield 32, 3) := by decide +kernel
theorem dX1_openHead_22 : decode cX1_openHead 22 = .ok (.iload_n 1, 1) := by decide +kernel
theorem dX1_openHead_23 : decode cX1_openHead 23 = .ok (.iconst 1, 1) := by decide +kernel
theorem dX1_openHead_24 : decode cX1_openHead 24 = .ok (.bastore, 1) := by decide +kernel
theorem dX1_openHead_25 : decode cX1_openHead 25 = .ok (.aload_n 0, 1) := by decide +kernel
theorem dX1_openHead_26 : decode cX1_openHead 26 = .ok (.getfield 36, 3) := by decide +kernel
theorem dX1_openHead_29 : decode cX1_openHead 29 = .ok (.aload_n 0, 1) := by decide +kernel
theorem dX1_openHead_30 : decode cX1_openHead 30 = .ok (.getfield 39, 3) := by decide +kernel
theorem dX1_openHead_33 : decode cX1_openHead 33 = .ok (.iload_n 1, 1) := by decide +kernel
theorem dX1_openHead_34 : decode cX1_openHead 34 = .ok (.iastore, 1) := by decide +kernel
theorem dX1_openHead_35 : decode cX1_openHead 35 = .ok (.aload_n 0, 1) := by decide +kernel
theorem dX1_openHead_36 : decode cX1_openHead 36 = .ok (.dup, 1) := by decide +kernel
theorem dX1_openHead_37 : decode cX1_openHead 37 = .ok (.getfield 39, 3) := by decide +kernel
theorem dX1_openHead_40 : decode cX1_openHead 40 = .ok (.iconst 1, 1) := by decide +kernel
theorem dX1_openHead_41 : decode cX1_openHead 41 = .ok (.iadd, 1) := by decide +kernel
theorem dX1_openHead_42 : decode cX1_openHead 42 = .ok (.putfield 39, 3) := by decide +kernel
theorem dX1_openHead_45 : decode cX1_openHead 45 = .ok (.return_, 1) := by decide +kernel
theorem dX1_keepLeast_0 : decode cX1_keepLeast 0 = .ok (.iload_n 1, 1) := by decide +kernel
theorem dX1_keepLeast_1 : decode cX1_keepLeast 1 = .ok (.bipush 6, 2) := by decide +kernel
theorem dX1_keepLeast_3 : decode cX1_keepLeast 3 = .ok (.imul, 1) := by decide +kernel
theorem dX1_keepLeast_4 : decode cX1_keepLeast 4 = .ok (.iload_n 2, 1) := by decide +kernel
theorem dX1_keepLeast_5 : decode cX1_keepLeast 5 = .ok (.iadd, 1) := by decide +kernel
theorem dX1_keepLeast_6 : decode cX1_keepLeast 6 = .ok (.bipush 24, 2) := by decide +kernel
theorem dX1_keepLeast_8 : decode cX1_keepLeast 8 = .ok (.imul, 1) := by decide +kernel
theorem dX1_keepLeast_9 : decode cX1_keepLeast 9 = .ok (.iload_n 3, 1) := by decide +kernel
theorem dX1_keepLeast_10 : decode cX1_keepLeast 10 = .ok (.iadd, 1) := by decide +kernel
theorem dX1_keepLeast_11 : decode cX1_keepLeast 11 = .ok (.istore 6, 2) := by decide +kernel
theorem dX1_keepLeast_13 : decode cX1_keepLeast 13 = .ok (.lload 4, 2) := by decide +kernel
theorem dX1_keepLeast_15 : decode cX1_keepLeast 15 = .ok (.invokestatic 158, 3) := by decide +kernel
theorem dX1_keepLeast_18 : decode cX1_keepLeast 18 = .ok (.istore 7, 2) := by decide +kernel
theorem dX1_keepLeast_20 : decode cX1_keepLeast 20 = .ok (.lload 4, 2) := by decide +kernel
theorem dX1_keepLeast_22 : decode cX1_keepLeast 22 = .ok (.ldc2_w 65, 3) := by decide +kernel
theorem dX1_keepLeast_25 : decode cX1_keepLeast 25 = .ok (.lcmp, 1) := by decide +kernel
theorem dX1_keepLeast_26 : decode cX1_keepLeast 26 = .ok (.ifCond .ge 36, 3) := by decide +kernel
theorem dX1_keepLeast_29 : decode cX1_keepLeast 29 = .ok (.aload_n 0, 1) := by decide +kernel
theorem dX1_keepLeast_30 : decode cX1_keepLeast 30 = .ok (.getfield 19, 3) := by decide +kernel
theorem dX1_keepLeast_33 : decode cX1_keepLeast 33 = .ok (.iload 6, 2) := by decide +kernel
theorem dX1_keepLeast_35 : decode cX1_keepLeast 35 = .ok (.iaload, 1) := by decide +kernel
theorem dX1_keepLeast_36 : decode cX1_keepLeast 36 = .ok (.bipush (-6), 2) := by decide +kernel
theorem dX1_keepLeast_38 : decode cX1_keepLeast 38 = .ok (.if_icmp .eq 15, 3) := by decide +kernel
theorem dX1_keepLeast_41 : decode cX1_keepLeast 41 = .ok (.iload 7, 2) := by decide +kernel
theorem dX1_keepLeast_43 : decode cX1_keepLeast 43 = .ok (.aload_n 0, 1) := by decide +kernel
theorem dX1_keepLeast_44 : decode cX1_keepLeast 44 = .ok (.getfield 19, 3) := by decide +kernel
theorem dX1_keepLeast_47 : decode cX1_keepLeast 47 = .ok (.iload 6, 2) := by decide +kernel
theorem dX1_keepLeast_49 : decode cX1_keepLeast 49 = .ok (.iaload, 1) := by decide +kernel
theorem dX1_keepLeast_50 : decode cX1_keepLeast 50 = .ok (.if_icmp .ge 12, 3) := by decide +kernel
theorem dX1_keepLeast_53 : decode cX1_keepLeast 53 = .ok (.aload_n 0, 1) := by decide +kernel
theorem dX1_keepLeast_54 : decode cX1_keepLeast 54 = .ok (.getfield 19, 3) := by decide +kernel
theorem dX1_keepLeast_57 : decode cX1_keepLeast 57 = .ok (.iload 6, 2) := by decide +kernel
theorem dX1_keepLeast_59 : decode cX1_keepLeast 59 = .ok (.iload 7, 2) := by decide +kernel
theorem dX1_keepLeast_61 : decode cX1_keepLeast 61 = .ok (.iastore, 1) := by decide +kernel
theorem dX1_keepLeast_62 : decode cX1_keepLeast 62 = .ok (.return_, 1) := by decide +kernel
theorem dX1_weightAt_0 : decode cX1_weightAt 0 = .ok (.aload_n 0, 1) := by decide +kernel
theorem dX1_weightAt_1 : decode cX1_weightAt 1 = .ok (.getfield 19, 3) := by decide +kernel
theorem dX1_weightAt_4 : decode cX1_weightAt 4 = .ok (.iload_n 1, 1) := by decide +kernel
theorem dX1_weightAt_5 : decode cX1_weightAt 5 = .ok (.bipush 6, 2) := by decide +kernel
theorem dX1_weightAt_7 : decode cX1_weightAt 7 = .ok (.imul, 1) := by decide +kernel
theorem dX1_weightAt_8 : decode cX1_weightAt 8 = .ok (.iload_n 2, 1) := by decide +kernel
theorem dX1_weightAt_9 : decode cX1_weightAt 9 = .ok (.iadd, 1) := by decide +kernel
theorem dX1_weightAt_10 : decode cX1_weightAt 10 = .ok (.bipush 24, 2) := by decide +kernel
theorem dX1_weightAt_12 : decode cX1_weightAt 12 = .ok (.imul, 1) := by decide +kernel
theorem dX1_weightAt_13 : decode cX1_weightAt 13 = .ok (.iload_n 3, 1) := by decide +kernel
theorem dX1_weightAt_14 : decode cX1_weightAt 14 = .ok (.iadd, 1) := by decide +kernel
theorem dX1_weightAt_15 : decode cX1_weightAt 15 = .ok (.iaload, 1) := by decide +kernel
theorem dX1_weightAt_16 : decode cX1_weightAt 16 = .ok (.ireturn, 1) := by decide +kernel
theorem dX1_listArcs_0 : decode cX1_listArcs 0 = .ok (.aload_n 0, 1) := by decide +kernel
theorem dX1_listArcs_1 : decode cX1_listArcs 1 = .ok (.iconst 0, 1) := by decide +kernel
theorem dX1_listArcs_2 : decode cX1_listArcs 2 = .ok (.putfield 15, 3) := by decide +kernel
theorem dX1_listArcs_5 : decode cX1_listArcs 5 = .ok (.iconst 0, 1) := by decide +kernel
theorem dX1_listArcs_6 : decode cX1_listArcs 6 = .ok (.istore_n 1, 1) := by decide +kernel
theorem dX1_listArcs_7 : decode cX1_listArcs 7 = .ok (.iconst 0, 1) := by decide +kernel
theorem dX1_listArcs_8 : decode cX1_listArcs 8 = .ok (.istore_n 2, 1) := by decide +kernel
theorem dX1_listArcs_9 : decode cX1_listArcs 9 = .ok (.iload_n 2, 1) := by decide +kernel
theorem dX1_listArcs_10 : decode cX1_listArcs 10 = .ok (.bipush 28, 2) := by decide +kernel
theorem dX1_listArcs_12 : decode cX1_listArcs 12 = .ok (.if_icmp .ge 104, 3) := by decide +kernel
theorem dX1_listArcs_15 : decode cX1_listArcs 15 = .ok (.iconst 0, 1) := by decide +kernel
theorem dX1_listArcs_16 : decode cX1_listArcs 16 = .ok (.istore_n 3, 1) := by decide +kernel
theorem dX1_listArcs_17 : decode cX1_listArcs 17 = .ok (.iload_n 3, 1) := by decide +kernel
theorem dX1_listArcs_18 : decode cX1_listArcs 18 = .ok (.bipush 6, 2) := by decide +kernel
theorem dX1_listArcs_20 : decode cX1_listArcs 20 = .ok (.if_icmp .ge 90, 3) := by decide +kernel
theorem dX1_listArcs_23 : decode cX1_listArcs 23 = .ok (.iconst 0, 1) := by decide +kernel
theorem dX1_listArcs_24 : decode cX1_listArcs 24 = .ok (.istore 4, 2) := by decide +kernel
theorem dX1_listArcs_26 : decode cX1_listArcs 26 = .ok (.iload 4, 2) := by decide +kernel
theorem dX1_listArcs_28 : decode cX1_listArcs 28 = .ok (.bipush 24, 2) := by decide +kernel
theorem dX1_listArcs_30 : decode cX1_listArcs 30 = .ok (.if_icmp .ge 74, 3) := by decide +kernel
theorem dX1_listArcs_33 : decode cX1_listArcs 33 = .ok (.aload_n 0, 1) := by decide +kernel
theorem dX1_listArcs_34 : decode cX1_listArcs 34 = .ok (.getfield 19, 3) := by decide +kernel
theorem dX1_listArcs_37 : decode cX1_listArcs 37 = .ok (.iload_n 1, 1) := by decide +kernel
theorem dX1_listArcs_38 : decode cX1_listArcs 38 = .ok (.iaload, 1) := by decide +kernel
theorem dX1_listArcs_39 : decode cX1_listArcs 39 = .ok (.bipush (-6), 2) := by decide +kernel
theorem dX1_listArcs_41 : decode cX1_listArcs 41 = .ok (.if_icmp .eq 54, 3) := by decide +kernel
theorem dX1_listArcs_44 : decode cX1_listArcs 44 = .ok (.aload_n 0, 1) := by decide +kernel
theorem dX1_listArcs_45 : decode cX1_listArcs 45 = .ok (.getfield 15, 3) := by decide +kernel
theorem dX1_listArcs_48 : decode cX1_listArcs 48 = .ok (.sipush 504, 3) := by decide +kernel
theorem dX1_listArcs_51 : decode cX1_listArcs 51 = .ok (.if_icmp .ge 44, 3) := by decide +kernel
theorem dX1_listArcs_54 : decode cX1_listArcs 54 = .ok (.aload_n 0, 1) := by decide +kernel
theorem dX1_listArcs_55 : decode cX1_listArcs 55 = .ok (.getfield 42, 3) := by decide +kernel
theorem dX1_listArcs_58 : decode cX1_listArcs 58 = .ok (.aload_n 0, 1) := by decide +kernel
theorem dX1_listArcs_59 : decode cX1_listArcs 59 = .ok (.getfield 15, 3) := by decide +kernel
theorem dX1_listArcs_62 : decode cX1_listArcs 62 = .ok (.iload_n 2, 1) := by decide +kernel
theorem dX1_listArcs_63 : decode cX1_listArcs 63 = .ok (.iastore, 1) := by decide +kernel
theorem dX1_listArcs_64 : decode cX1_listArcs 64 = .ok (.aload_n 0, 1) := by decide +kernel
theorem dX1_listArcs_65 : decode cX1_listArcs 65 = .ok (.getfield 45, 3) := by decide +kernel
theorem dX1_listArcs_68 : decode cX1_listArcs 68 = .ok (.aload_n 0, 1) := by decide +kernel
theorem dX1_listArcs_69 : decode cX1_listArcs 69 = .ok (.getfield 15, 3) := by decide +kernel
theorem dX1_listArcs_72 : decode cX1_listArcs 72 = .ok (.iload_n 3, 1) := by decide +kernel
theorem dX1_listArcs_73 : decode cX1_listArcs 73 = .ok (.iastore, 1) := by decide +kernel
theorem dX1_listArcs_74 : decode cX1_listArcs 74 = .ok (.aload_n 0, 1) := by decide +kernel
theorem dX1_listArcs_75 : decode cX1_listArcs 75 = .ok (.getfield 48, 3) := by decide +kernel
theorem dX1_listArcs_78 : decode cX1_listArcs 78 = .ok (.aload_n 0, 1) := by decide +kernel
theorem dX1_listArcs_79 : decode cX1_listArcs 79 = .ok (.getfield 15, 3) := by decide +kernel
theorem dX1_listArcs_82 : decode cX1_listArcs 82 = .ok (.iload 4, 2) := by decide +kernel
theorem dX1_listArcs_84 : decode cX1_listArcs 84 = .ok (.iastore, 1) := by decide +kernel
theorem dX1_listArcs_85 : decode cX1_listArcs 85 = .ok (.aload_n 0, 1) := by decide +kernel
theorem dX1_listArcs_86 : decode cX1_listArcs 86 = .ok (.dup, 1) := by decide +kernel
theorem dX1_listArcs_87 : decode cX1_listArcs 87 = .ok (.getfield 15, 3) := by decide +kernel
theorem dX1_listArcs_90 : decode cX1_listArcs 90 = .ok (.iconst 1, 1) := by decide +kernel
theorem dX1_listArcs_91 : decode cX1_listArcs 91 = .ok (.iadd, 1) := by decide +kernel
theorem dX1_listArcs_92 : decode cX1_listArcs 92 = .ok (.putfield 15, 3) := by decide +kernel
theorem dX1_listArcs_95 : decode cX1_listArcs 95 = .ok (.iinc 1 1, 3) := by decide +kernel
theorem dX1_listArcs_98 : decode cX1_listArcs 98 = .ok (.iinc 4 1, 3) := by decide +kernel
theorem dX1_listArcs_101 : decode cX1_listArcs 101 = .ok (.goto (-75), 3) := by decide +kernel
theorem dX1_listArcs_104 : decode cX1_listArcs 104 = .ok (.iinc 3 1, 3) := by decide +kernel
theorem dX1_listArcs_107 : decode cX1_listArcs 107 = .ok (.goto (-90), 3) := by decide +kernel
theorem dX1_listArcs_110 : decode cX1_listArcs 110 = .ok (.iinc 2 1, 3) := by decide +kernel
theorem dX1_listArcs_113 : decode cX1_listArcs 113 = .ok (.goto (-104), 3) := by decide +kernel
theorem dX1_listArcs_116 : decode cX1_listArcs 116 = .ok (.return_, 1) := by decide +kernel
theorem dX1_part_0 : decode cX1_part 0 = .ok (.iload_n 2, 1) := by decide +kernel
theorem dX1_part_1 : decode cX1_part 1 = .ok (.tableswitch 56 0 2 #[27, 37, 44], 27) := by decide +kernel
theorem dX1_part_28 : decode cX1_part 28 = .ok (.aload_n 0, 1) := by decide +kernel
theorem dX1_part_29 : decode cX1_part 29 = .ok (.getfield 42, 3) := by decide +kernel
theorem dX1_part_32 : decode cX1_part 32 = .ok (.iload_n 1, 1) := by decide +kernel
theorem dX1_part_33 : decode cX1_part 33 = .ok (.iaload, 1) := by decide +kernel
theorem dX1_part_34 : decode cX1_part 34 = .ok (.invokestatic 162, 3) := by decide +kernel
theorem dX1_part_37 : decode cX1_part 37 = .ok (.ireturn, 1) := by decide +kernel
theorem dX1_part_38 : decode cX1_part 38 = .ok (.aload_n 0, 1) := by decide +kernel
theorem dX1_part_39 : decode cX1_part 39 = .ok (.getfield 45, 3) := by decide +kernel
theorem dX1_part_42 : decode cX1_part 42 = .ok (.iload_n 1, 1) := by decide +kernel
theorem dX1_part_43 : decode cX1_part 43 = .ok (.iaload, 1) := by decide +kernel
theorem dX1_part_44 : decode cX1_part 44 = .ok (.ireturn, 1) := by decide +kernel
theorem dX1_part_45 : decode cX1_part 45 = .ok (.iconst 4, 1) := by decide +kernel
theorem dX1_part_46 : decode cX1_part 46 = .ok (.aload_n 0, 1) := by decide +kernel
theorem dX1_part_47 : decode cX1_part 47 = .ok (.getfield 48, 3) := by decide +kernel
theorem dX1_part_50 : decode cX1_part 50 = .ok (.iload_n 1, 1) := by decide +kernel
theorem dX1_part_51 : decode cX1_part 51 = .ok (.iaload, 1) := by decide +kernel
theorem dX1_part_52 : decode cX1_part 52 = .ok (.iadd, 1) := by decide +kernel
theorem dX1_part_53 : decode cX1_part 53 = .ok (.invokestatic 162, 3) := by decide +kernel
theorem dX1_part_56 : decode cX1_part 56 = .ok (.ireturn, 1) := by decide +kernel
theorem dX1_part_57 : decode cX1_part 57 = .ok (.aload_n 0, 1) := by decide +kernel
theorem dX1_part_58 : decode cX1_part 58 = .ok (.iload_n 1, 1) := by decide +kernel
theorem dX1_part_59 : decode cX1_part 59 = .ok (.invokevirtual 166, 3) := by decide +kernel
theorem dX1_part_62 : decode cX1_part 62 = .ok (.ireturn, 1) := by decide +kernel
theorem dX1_weightOfArc_0 : decode cX1_weightOfArc 0 = .ok (.aload_n 0, 1) := by decide +kernel
theorem dX1_weightOfArc_1 : decode cX1_weightOfArc 1 = .ok (.aload_n 0, 1) := by decide +kernel
theorem dX1_weightOfArc_2 : decode cX1_weightOfArc 2 = .ok (.getfield 42, 3) := by decide +kernel
theorem dX1_weightOfArc_5 : decode cX1_weightOfArc 5 = .ok (.iload_n 1, 1) := by decide +kernel
theorem dX1_weightOfArc_6 : decode cX1_weightOfArc 6 = .ok (.iaload, 1) := by decide +kernel
theorem dX1_weightOfArc_7 : decode cX1_weightOfArc 7 = .ok (.aload_n 0, 1) := by decide +kernel
theorem dX1_weightOfArc_8 : decode cX1_weightOfArc 8 = .ok (.getfield 45, 3) := by decide +kernel
theorem dX1_weightOfArc_11 : decode cX1_weightOfArc 11 = .ok (.iload_n 1, 1) := by decide +kernel
theorem dX1_weightOfArc_12 : decode cX1_weightOfArc 12 = .ok (.iaload, 1) := by decide +kernel
theorem dX1_weightOfArc_13 : decode cX1_weightOfArc 13 = .ok (.aload_n 0, 1) := by decide +kernel
theorem dX1_weightOfArc_14 : decode cX1_weightOfArc 14 = .ok (.getfield 48, 3) := by decide +kernel
theorem dX1_weightOfArc_17 : decode cX1_weightOfArc 17 = .ok (.iload_n 1, 1) := by decide +kernel
theorem dX1_weightOfArc_18 : decode cX1_weightOfArc 18 = .ok (.iaload, 1) := by decide +kernel
theorem dX1_weightOfArc_19 : decode cX1_weightOfArc 19 = .ok (.invokevirtual 118, 3) := by decide +kernel
theorem dX1_weightOfArc_22 : decode cX1_weightOfArc 22 = .ok (.ireturn, 1) := by decide +kernel
theorem dX1_costOverArc_0 : decode cX1_costOverArc 0 = .ok (.aload_n 0, 1) := by decide +kernel
theorem dX1_costOverArc_1 : decode cX1_costOverArc 1 = .ok (.iload_n 1, 1) := by decide +kernel
theorem dX1_costOverArc_2 : decode cX1_costOverArc 2 = .ok (.invokevirtual 166, 3) := by decide +kernel
theorem dX1_costOverArc_5 : decode cX1_costOverArc 5 = .ok (.invokestatic 122, 3) := by decide +kernel
theorem dX1_costOverArc_8 : decode cX1_costOverArc 8 = .ok (.lconst 1, 1) := by decide +kernel
theorem dX1_costOverArc_9 : decode cX1_costOverArc 9 = .ok (.ladd, 1) := by decide +kernel
theorem dX1_costOverArc_10 : decode cX1_costOverArc 10 = .ok (.aload_n 0, 1) := by decide +kernel
theorem dX1_costOverArc_11 : decode cX1_costOverArc 11 = .ok (.getfield 28, 3) := by decide +kernel
theorem dX1_costOverArc_14 : decode cX1_costOverArc 14 = .ok (.aload_n 0, 1) := by decide +kernel
theorem dX1_costOverArc_15 : decode cX1_costOverArc 15 = .ok (.getfield 48, 3) := by decide +kernel
theorem dX1_costOverArc_18 : decode cX1_costOverArc 18 = .ok (.iload_n 1, 1) := by decide +kernel
theorem dX1_costOverArc_19 : decode cX1_costOverArc 19 = .ok (.iaload, 1) := by decide +kernel
theorem dX1_costOverArc_20 : decode cX1_costOverArc 20 = .ok (.laload, 1) := by decide +kernel
theorem dX1_costOverArc_21 : decode cX1_costOverArc 21 = .ok (.ladd, 1) := by decide +kernel
theorem dX1_costOverArc_22 : decode cX1_costOverArc 22 = .ok (.lreturn, 1) := by decide +kernel
theorem dX1_findWaysHome_0 : decode cX1_findWaysHome 0 = .ok (.aload_n 0, 1) := by decide +kernel
theorem dX1_findWaysHome_1 : decode cX1_findWaysHome 1 = .ok (.getfield 28, 3) := by decide +kernel
theorem dX1_findWaysHome_4 : decode cX1_findWaysHome 4 = .ok (.ldc2_w 65, 3) := by decide +kernel
theorem dX1_findWaysHome_7 : decode cX1_findWaysHome 7 = .ok (.invokestatic 67, 3) := by decide +kernel
theorem dX1_findWaysHome_10 : decode cX1_findWaysHome 10 = .ok (.bipush 20, 2) := by decide +kernel
theorem dX1_findWaysHome_12 : decode cX1_findWaysHome 12 = .ok (.aload_n 0, 1) := by decide +kernel
theorem dX1_findWaysHome_13 : decode cX1_findWaysHome 13 = .ok (.getfield 51, 3) := by decide +kernel
theorem dX1_findWaysHome_16 : decode cX1_findWaysHome 16 = .ok (.getfield 83, 3) := by decide +kernel
theorem dX1_findWaysHome_19 : decode cX1_findWaysHome 19 = .ok (.getfield 89, 3) := by decide +kernel
theorem dX1_findWaysHome_22 : decode cX1_findWaysHome 22 = .ok (.iadd, 1) := by decide +kernel
theorem dX1_findWaysHome_23 : decode cX1_findWaysHome 23 = .ok (.iconst 1, 1) := by decide +kernel
theorem dX1_findWaysHome_24 : decode cX1_findWaysHome 24 = .ok (.isub, 1) := by decide +kernel
theorem dX1_findWaysHome_25 : decode cX1_findWaysHome 25 = .ok (.istore_n 1, 1) := by decide +kernel
theorem dX1_findWaysHome_26 : decode cX1_findWaysHome 26 = .ok (.iload_n 1, 1) := by decide +kernel
theorem dX1_findWaysHome_27 : decode cX1_findWaysHome 27 = .ok (.bipush 20, 2) := by decide +kernel
theorem dX1_findWaysHome_29 : decode cX1_findWaysHome 29 = .ok (.if_icmp .lt 16, 3) := by decide +kernel
theorem dX1_findWaysHome_32 : decode cX1_findWaysHome 32 = .ok (.iload_n 1, 1) := by decide +kernel
theorem dX1_findWaysHome_33 : decode cX1_findWaysHome 33 = .ok (.bipush 24, 2) := by decide +kernel
theorem dX1_findWaysHome_35 : decode cX1_findWaysHome 35 = .ok (.if_icmp .ge 10, 3) := by decide +kernel
theorem dX1_findWaysHome_38 : decode cX1_findWaysHome 38 = .ok (.aload_n 0, 1) := by decide +kernel
theorem dX1_findWaysHome_39 : decode cX1_findWaysHome 39 = .ok (.getfield 28, 3) := by decide +kernel
theorem dX1_findWaysHome_42 : decode cX1_findWaysHome 42 = .ok (.iload_n 1, 1) := by decide +kernel
theorem dX1_findWaysHome_43 : decode cX1_findWaysHome 43 = .ok (.lconst 0, 1) := by decide +kernel
theorem dX1_findWaysHome_44 : decode cX1_findWaysHome 44 = .ok (.lastore, 1) := by decide +kernel
theorem dX1_findWaysHome_45 : decode cX1_findWaysHome 45 = .ok (.iconst 1, 1) := by decide +kernel
theorem dX1_findWaysHome_46 : decode cX1_findWaysHome 46 = .ok (.istore_n 2, 1) := by decide +kernel
theorem dX1_findWaysHome_47 : decode cX1_findWaysHome 47 = .ok (.iconst 0, 1) := by decide +kernel
theorem dX1_findWaysHome_48 : decode cX1_findWaysHome 48 = .ok (.istore_n 3, 1) := by decide +kernel
theorem dX1_findWaysHome_49 : decode cX1_findWaysHome 49 = .ok (.iload_n 2, 1) := by decide +kernel
theorem dX1_findWaysHome_50 : decode cX1_findWaysHome 50 = .ok (.ifCond .eq 71, 3) := by decide +kernel
theorem dX1_findWaysHome_53 : decode cX1_findWaysHome 53 = .ok (.iload_n 3, 1) := by decide +kernel
theorem dX1_findWaysHome_54 : decode cX1_findWaysHome 54 = .ok (.bipush 24, 2) := by decide +kernel
theorem dX1_findWaysHome_56 : decode cX1_findWaysHome 56 = .ok (.if_icmp .gt 65, 3) := by decide +kernel
theorem dX1_findWaysHome_59 : decode cX1_findWaysHome 59 = .ok (.iconst 0, 1) := by decide +kernel
theorem dX1_findWaysHome_60 : decode cX1_findWaysHome 60 = .ok (.istore_n 2, 1) := by decide +kernel
theorem dX1_findWaysHome_61 : decode cX1_findWaysHome 61 = .ok (.iconst 0, 1) := by decide +kernel
theorem dX1_findWaysHome_62 : decode cX1_findWaysHome 62 = .ok (.istore 4, 2) := by decide +kernel
theorem dX1_findWaysHome_64 : decode cX1_findWaysHome 64 = .ok (.iload 4, 2) := by decide +kernel
theorem dX1_findWaysHome_66 : decode cX1_findWaysHome 66 = .ok (.aload_n 0, 1) := by decide +kernel
theorem dX1_findWaysHome_67 : decode cX1_findWaysHome 67 = .ok (.getfield 15, 3) := by decide +kernel
theorem dX1_findWaysHome_70 : decode cX1_findWaysHome 70 = .ok (.if_icmp .ge 45, 3) := by decide +kernel
theorem dX1_findWaysHome_73 : decode cX1_findWaysHome 73 = .ok (.aload_n 0, 1) := by decide +kernel
theorem dX1_findWaysHome_74 : decode cX1_findWaysHome 74 = .ok (.getfield 42, 3) := by decide +kernel
theorem dX1_findWaysHome_77 : decode cX1_findWaysHome 77 = .ok (.iload 4, 2) := by decide +kernel
theorem dX1_findWaysHome_79 : decode cX1_findWaysHome 79 = .ok (.iaload, 1) := by decide +kernel
theorem dX1_findWaysHome_80 : decode cX1_findWaysHome 80 = .ok (.iconst 4, 1) := by decide +kernel
theorem dX1_findWaysHome_81 : decode cX1_findWaysHome 81 = .ok (.isub, 1) := by decide +kernel
theorem dX1_findWaysHome_82 : decode cX1_findWaysHome 82 = .ok (.istore 5, 2) := by decide +kernel
theorem dX1_findWaysHome_84 : decode cX1_findWaysHome 84 = .ok (.iload 5, 2) := by decide +kernel
theorem dX1_findWaysHome_86 : decode cX1_findWaysHome 86 = .ok (.ifCond .lt 23, 3) := by decide +kernel
theorem dX1_findWaysHome_89 : decode cX1_findWaysHome 89 = .ok (.aload_n 0, 1) := by decide +kernel
theorem dX1_findWaysHome_90 : decode cX1_findWaysHome 90 = .ok (.getfield 28, 3) := by decide +kernel
theorem dX1_findWaysHome_93 : decode cX1_findWaysHome 93 = .ok (.iload 5, 2) := by decide +kernel
theorem dX1_findWaysHome_95 : decode cX1_findWaysHome 95 = .ok (.aload_n 0, 1) := by decide +kernel
theorem dX1_findWaysHome_96 : decode cX1_findWaysHome 96 = .ok (.iload 4, 2) := by decide +kernel
theorem dX1_findWaysHome_98 : decode cX1_findWaysHome 98 = .ok (.invokevirtual 169, 3) := by decide +kernel
theorem dX1_findWaysHome_101 : decode cX1_findWaysHome 101 = .ok (.invokestatic 172, 3) := by decide +kernel
theorem dX1_findWaysHome_104 : decode cX1_findWaysHome 104 = .ok (.ifCond .eq 5, 3) := by decide +kernel
theorem dX1_findWaysHome_107 : decode cX1_findWaysHome 107 = .ok (.iconst 1, 1) := by decide +kernel
theorem dX1_findWaysHome_108 : decode cX1_findWaysHome 108 = .ok (.istore_n 2, 1) := by decide +kernel
theorem dX1_findWaysHome_109 : decode cX1_findWaysHome 109 = .ok (.iinc 4 1, 3) := by decide +kernel
theorem dX1_findWaysHome_112 : decode cX1_findWaysHome 112 = .ok (.goto (-48), 3) := by decide +kernel
theorem dX1_findWaysHome_115 : decode cX1_findWaysHome 115 = .ok (.iinc 3 1, 3) := by decide +kernel
theorem dX1_findWaysHome_118 : decode cX1_findWaysHome 118 = .ok (.goto (-69), 3) := by decide +kernel
theorem dX1_findWaysHome_121 : decode cX1_findWaysHome 121 = .ok (.return_, 1) := by decide +kernel
theorem dX1_costThrough_0 : decode cX1_costThrough 0 = .ok (.aload_n 0, 1) := by decide +kernel
theorem dX1_costThrough_1 : decode cX1_costThrough 1 = .ok (.getfield 25, 3) := by decide +kernel
theorem dX1_costThrough_4 : decode cX1_costThrough 4 = .ok (.iload_n 1, 1) := by decide +kernel
theorem dX1_costThrough_5 : decode cX1_costThrough 5 = .ok (.aaload, 1) := by decide +kernel
theorem dX1_costThrough_6 : decode cX1_costThrough 6 = .ok (.iload_n 2, 1) := by decide +kernel
theorem dX1_costThrough_7 : decode cX1_costThrough 7 = .ok (.laload, 1) := by decide +kernel
theorem dX1_costThrough_8 : decode cX1_costThrough 8 = .ok (.lstore_n 3, 1) := by decide +kernel
theorem dX1_costThrough_9 : decode cX1_costThrough 9 = .ok (.lload_n 3, 1) := by decide +kernel
theorem dX1_costThrough_10 : decode cX1_costThrough 10 = .ok (.ldc2_w 65, 3) := by decide +kernel
theorem dX1_costThrough_13 : decode cX1_costThrough 13 = .ok (.lcmp, 1) := by decide +kernel
theorem dX1_costThrough_14 : decode cX1_costThrough 14 = .ok (.ifCond .lt 9, 3) := by decide +kernel
theorem dX1_costThrough_17 : decode cX1_costThrough 17 = .ok (.ldc2_w 65, 3) := by decide +kernel
theorem dX1_costThrough_20 : decode cX1_costThrough 20 = .ok (.goto 19, 3) := by decide +kernel
theorem dX1_costThrough_23 : decode cX1_costThrough 23 = .ok (.lload_n 3, 1) := by decide +kernel
theorem dX1_costThrough_24 : decode cX1_costThrough 24 = .ok (.invokestatic 158, 3) := by decide +kernel
theorem dX1_costThrough_27 : decode cX1_costThrough 27 = .ok (.invokestatic 122, 3) := by decide +kernel
theorem dX1_costThrough_30 : decode cX1_costThrough 30 = .ok (.lconst 1, 1) := by decide +kernel
theorem dX1_costThrough_31 : decode cX1_costThrough 31 = .ok (.ladd, 1) := by decide +kernel
theorem dX1_costThrough_32 : decode cX1_costThrough 32 = .ok (.aload_n 0, 1) := by decide +kernel
theorem dX1_costThrough_33 : decode cX1_costThrough 33 = .ok (.getfield 28, 3) := by decide +kernel
theorem dX1_costThrough_36 : decode cX1_costThrough 36 = .ok (.iload_n 1, 1) := by decide +kernel
theorem dX1_costThrough_37 : decode cX1_costThrough 37 = .ok (.laload, 1) := by decide +kernel
theorem dX1_costThrough_38 : decode cX1_costThrough 38 = .ok (.ladd, 1) := by decide +kernel
theorem dX1_costThrough_39 : decode cX1_costThrough 39 = .ok (.lreturn, 1) := by decide +kernel
theorem dX1_costOfHead_0 : decode cX1_costOfHead 0 = .ok (.ldc2_w 65, 3) := by decide +kernel
theorem dX1_costOfHead_3 : decode cX1_costOfHead 3 = .ok (.lstore_n 2, 1) := by decide +kernel
theorem dX1_costOfHead_4 : decode cX1_costOfHead 4 = .ok (.iconst 0, 1) := by decide +kernel
theorem dX1_costOfHead_5 : decode cX1_costOfHead 5 = .ok (.istore 4, 2) := by decide +kernel
theorem dX1_costOfHead_7 : decode cX1_costOfHead 7 = .ok (.iload 4, 2) := by decide +kernel
theorem dX1_costOfHead_9 : decode cX1_costOfHead 9 = .ok (.bipush 24, 2) := by decide +kernel
theorem dX1_costOfHead_11 : decode cX1_costOfHead 11 = .ok (.if_icmp .ge 21, 3) := by decide +kernel
theorem dX1_costOfHead_14 : decode cX1_costOfHead 14 = .ok (.lload_n 2, 1) := by decide +kernel
theorem dX1_costOfHead_15 : decode cX1_costOfHead 15 = .ok (.aload_n 0, 1) := by decide +kernel
theorem dX1_costOfHead_16 : decode cX1_costOfHead 16 = .ok (.iload 4, 2) := by decide +kernel
theorem dX1_costOfHead_18 : decode cX1_costOfHead 18 = .ok (.iload_n 1, 1) := by decide +kernel
theorem dX1_costOfHead_19 : decode cX1_costOfHead 19 = .ok (.invokevirtual 176, 3) := by decide +kernel
theorem dX1_costOfHead_22 : decode cX1_costOfHead 22 = .ok (.invokestatic 180, 3) := by decide +kernel
theorem dX1_costOfHead_25 : decode cX1_costOfHead 25 = .ok (.lstore_n 2, 1) := by decide +kernel
theorem dX1_costOfHead_26 : decode cX1_costOfHead 26 = .ok (.iinc 4 1, 3) := by decide +kernel
theorem dX1_costOfHead_29 : decode cX1_costOfHead 29 = .ok (.goto (-22), 3) := by decide +kernel
theorem dX1_costOfHead_32 : decode cX1_costOfHead 32 = .ok (.lload_n 2, 1) := by decide +kernel
theorem dX1_costOfHead_33 : decode cX1_costOfHead 33 = .ok (.lreturn, 1) := by decide +kernel
theorem dX1_leastStack_0 : decode cX1_leastStack 0 = .ok (.aload_n 0, 1) := by decide +kernel
theorem dX1_leastStack_1 : decode cX1_leastStack 1 = .ok (.iload_n 1, 1) := by decide +kernel
theorem dX1_leastStack_2 : decode cX1_leastStack 2 = .ok (.invokevirtual 186, 3) := by decide +kernel
theorem dX1_leastStack_5 : decode cX1_leastStack 5 = .ok (.lstore_n 3, 1) := by decide +kernel
theorem dX1_leastStack_6 : decode cX1_leastStack 6 = .ok (.lload_n 3, 1) := by decide +kernel
theorem dX1_leastStack_7 : decode cX1_leastStack 7 = .ok (.ldc2_w 65, 3) := by decide +kernel
theorem dX1_leastStack_10 : decode cX1_leastStack 10 = .ok (.lcmp, 1) := by decide +kernel
theorem dX1_leastStack_11 : decode cX1_leastStack 11 = .ok (.ifCond .ge 12, 3) := by decide +kernel
theorem dX1_leastStack_14 : decode cX1_leastStack 14 = .ok (.lload_n 3, 1) := by decide +kernel
theorem dX1_leastStack_15 : decode cX1_leastStack 15 = .ok (.invokestatic 189, 3) := by decide +kernel
theorem dX1_leastStack_18 : decode cX1_leastStack 18 = .ok (.bipush 6, 2) := by decide +kernel
theorem dX1_leastStack_20 : decode cX1_leastStack 20 = .ok (.if_icmp .le 6, 3) := by decide +kernel
theorem dX1_leastStack_23 : decode cX1_leastStack 23 = .ok (.bipush (-6), 2) := by decide +kernel
theorem dX1_leastStack_25 : decode cX1_leastStack 25 = .ok (.ireturn, 1) := by decide +kernel
theorem dX1_leastStack_26 : decode cX1_leastStack 26 = .ok (.iconst 0, 1) := by decide +kernel
theorem dX1_leastStack_27 : decode cX1_leastStack 27 = .ok (.istore 5, 2) := by decide +kernel
theorem dX1_leastStack_29 : decode cX1_leastStack 29 = .ok (.iconst 0, 1) := by decide +kernel
theorem dX1_leastStack_30 : decode cX1_leastStack 30 = .ok (.istore 6, 2) := by decide +kernel
theorem dX1_leastStack_32 : decode cX1_leastStack 32 = .ok (.iload 6, 2) := by decide +kernel
theorem dX1_leastStack_34 : decode cX1_leastStack 34 = .ok (.bipush 24, 2) := by decide +kernel
theorem dX1_leastStack_36 : decode cX1_leastStack 36 = .ok (.if_icmp .ge 30, 3) := by decide +kernel
theorem dX1_leastStack_39 : decode cX1_leastStack 39 = .ok (.aload_n 0, 1) := by decide +kernel
theorem dX1_leastStack_40 : decode cX1_leastStack 40 = .ok (.iload 6, 2) := by decide +kernel
theorem dX1_leastStack_42 : decode cX1_leastStack 42 = .ok (.iload_n 1, 1) := by decide +kernel
theorem dX1_leastStack_43 : decode cX1_leastStack 43 = .ok (.invokevirtual 176, 3) := by decide +kernel
theorem dX1_leastStack_46 : decode cX1_leastStack 46 = .ok (.lload_n 3, 1) := by decide +kernel
theorem dX1_leastStack_47 : decode cX1_leastStack 47 = .ok (.lcmp, 1) := by decide +kernel
theorem dX1_leastStack_48 : decode cX1_leastStack 48 = .ok (.ifCond .ne 12, 3) := by decide +kernel
theorem dX1_leastStack_51 : decode cX1_leastStack 51 = .ok (.iload 5, 2) := by decide +kernel
theorem dX1_leastStack_53 : decode cX1_leastStack 53 = .ok (.iconst 1, 1) := by decide +kernel
theorem dX1_leastStack_54 : decode cX1_leastStack 54 = .ok (.iload 6, 2) := by decide +kernel
theorem dX1_leastStack_56 : decode cX1_leastStack 56 = .ok (.ishl, 1) := by decide +kernel
theorem dX1_leastStack_57 : decode cX1_leastStack 57 = .ok (.ior, 1) := by decide +kernel
theorem dX1_leastStack_58 : decode cX1_leastStack 58 = .ok (.istore 5, 2) := by decide +kernel
theorem dX1_leastStack_60 : decode cX1_leastStack 60 = .ok (.iinc 6 1, 3) := by decide +kernel
theorem dX1_leastStack_63 : decode cX1_leastStack 63 = .ok (.goto (-31), 3) := by decide +kernel
theorem dX1_leastStack_66 : decode cX1_leastStack 66 = .ok (.iload_n 2, 1) := by decide +kernel
theorem dX1_leastStack_67 : decode cX1_leastStack 67 = .ok (.istore 6, 2) := by decide +kernel
theorem dX1_leastStack_69 : decode cX1_leastStack 69 = .ok (.iconst 1, 1) := by decide +kernel
theorem dX1_leastStack_70 : decode cX1_leastStack 70 = .ok (.istore 7, 2) := by decide +kernel
theorem dX1_leastStack_72 : decode cX1_leastStack 72 = .ok (.iload 7, 2) := by decide +kernel
theorem dX1_leastStack_74 : decode cX1_leastStack 74 = .ok (.lload_n 3, 1) := by decide +kernel
theorem dX1_leastStack_75 : decode cX1_leastStack 75 = .ok (.invokestatic 189, 3) := by decide +kernel
theorem dX1_leastStack_78 : decode cX1_leastStack 78 = .ok (.if_icmp .ge 37, 3) := by decide +kernel
theorem dX1_leastStack_81 : decode cX1_leastStack 81 = .ok (.aload_n 0, 1) := by decide +kernel
theorem dX1_leastStack_82 : decode cX1_leastStack 82 = .ok (.iload 5, 2) := by decide +kernel
theorem dX1_leastStack_84 : decode cX1_leastStack 84 = .ok (.invokevirtual 192, 3) := by decide +kernel
theorem dX1_leastStack_87 : decode cX1_leastStack 87 = .ok (.istore 8, 2) := by decide +kernel
theorem dX1_leastStack_89 : decode cX1_leastStack 89 = .ok (.aload_n 0, 1) := by decide +kernel
theorem dX1_leastStack_90 : decode cX1_leastStack 90 = .ok (.iload 5, 2) := by decide +kernel
theorem dX1_leastStack_92 : decode cX1_leastStack 92 = .ok (.iload 8, 2) := by decide +kernel
theorem dX1_leastStack_94 : decode cX1_leastStack 94 = .ok (.invokevirtual 195, 3) := by decide +kernel
theorem dX1_leastStack_97 : decode cX1_leastStack 97 = .ok (.istore 5, 2) := by decide +kernel
theorem dX1_leastStack_99 : decode cX1_leastStack 99 = .ok (.iload 6, 2) := by decide +kernel
theorem dX1_leastStack_101 : decode cX1_leastStack 101 = .ok (.bipush 10, 2) := by decide +kernel
theorem dX1_leastStack_103 : decode cX1_leastStack 103 = .ok (.imul, 1) := by decide +kernel
theorem dX1_leastStack_104 : decode cX1_leastStack 104 = .ok (.iload 8, 2) := by decide +kernel
theorem dX1_leastStack_106 : decode cX1_leastStack 106 = .ok (.iadd, 1) := by decide +kernel
theorem dX1_leastStack_107 : decode cX1_leastStack 107 = .ok (.istore 6, 2) := by decide +kernel
theorem dX1_leastStack_109 : decode cX1_leastStack 109 = .ok (.iinc 7 1, 3) := by decide +kernel
theorem dX1_leastStack_112 : decode cX1_leastStack 112 = .ok (.goto (-40), 3) := by decide +kernel
theorem dX1_leastStack_115 : decode cX1_leastStack 115 = .ok (.iload 6, 2) := by decide +kernel
theorem dX1_leastStack_117 : decode cX1_leastStack 117 = .ok (.ireturn, 1) := by decide +kernel
theorem dX1_isBestFrom_0 : decode cX1_isBestFrom 0 = .ok (.aload_n 0, 1) := by decide +kernel
theorem dX1_isBestFrom_1 : decode cX1_isBestFrom 1 = .ok (.getfield 42, 3) := by decide +kernel
theorem dX1_isBestFrom_4 : decode cX1_isBestFrom 4 = .ok (.iload_n 2, 1) := by decide +kernel
theorem dX1_isBestFrom_5 : decode cX1_isBestFrom 5 = .ok (.iaload, 1) := by decide +kernel
theorem dX1_isBestFrom_6 : decode cX1_isBestFrom 6 = .ok (.iconst 4, 1) := by decide +kernel
theorem dX1_isBestFrom_7 : decode cX1_isBestFrom 7 = .ok (.isub, 1) := by decide +kernel
theorem dX1_isBestFrom_8 : decode cX1_isBestFrom 8 = .ok (.istore_n 3, 1) := by decide +kernel
theorem dX1_isBestFrom_9 : decode cX1_isBestFrom 9 = .ok (.iload_n 3, 1) := by decide +kernel
theorem dX1_isBestFrom_10 : decode cX1_isBestFrom 10 = .ok (.ifCond .lt 30, 3) := by decide +kernel
theorem dX1_isBestFrom_13 : decode cX1_isBestFrom 13 = .ok (.iload_n 1, 1) := by decide +kernel
theorem dX1_isBestFrom_14 : decode cX1_isBestFrom 14 = .ok (.iload_n 3, 1) := by decide +kernel
theorem dX1_isBestFrom_15 : decode cX1_isBestFrom 15 = .ok (.ishr, 1) := by decide +kernel
theorem dX1_isBestFrom_16 : decode cX1_isBestFrom 16 = .ok (.iconst 1, 1) := by decide +kernel
theorem dX1_isBestFrom_17 : decode cX1_isBestFrom 17 = .ok (.iand, 1) := by decide +kernel
theorem dX1_isBestFrom_18 : decode cX1_isBestFrom 18 = .ok (.ifCond .eq 22, 3) := by decide +kernel
theorem dX1_isBestFrom_21 : decode cX1_isBestFrom 21 = .ok (.aload_n 0, 1) := by decide +kernel
theorem dX1_isBestFrom_22 : decode cX1_isBestFrom 22 = .ok (.iload_n 2, 1) := by decide +kernel
theorem dX1_isBestFrom_23 : decode cX1_isBestFrom 23 = .ok (.invokevirtual 169, 3) := by decide +kernel
theorem dX1_isBestFrom_26 : decode cX1_isBestFrom 26 = .ok (.aload_n 0, 1) := by decide +kernel
theorem dX1_isBestFrom_27 : decode cX1_isBestFrom 27 = .ok (.getfield 28, 3) := by decide +kernel
theorem dX1_isBestFrom_30 : decode cX1_isBestFrom 30 = .ok (.iload_n 3, 1) := by decide +kernel
theorem dX1_isBestFrom_31 : decode cX1_isBestFrom 31 = .ok (.laload, 1) := by decide +kernel
theorem dX1_isBestFrom_32 : decode cX1_isBestFrom 32 = .ok (.lcmp, 1) := by decide +kernel
theorem dX1_isBestFrom_33 : decode cX1_isBestFrom 33 = .ok (.ifCond .ne 7, 3) := by decide +kernel
theorem dX1_isBestFrom_36 : decode cX1_isBestFrom 36 = .ok (.iconst 1, 1) := by decide +kernel
theorem dX1_isBestFrom_37 : decode cX1_isBestFrom 37 = .ok (.goto 4, 3) := by decide +kernel
theorem dX1_isBestFrom_40 : decode cX1_isBestFrom 40 = .ok (.iconst 0, 1) := by decide +kernel
theorem dX1_isBestFrom_41 : decode cX1_isBestFrom 41 = .ok (.ireturn, 1) := by decide +kernel
theorem dX1_leastLabel_0 : decode cX1_leastLabel 0 = .ok (.bipush 6, 2) := by decide +kernel
theorem dX1_leastLabel_2 : decode cX1_leastLabel 2 = .ok (.istore_n 2, 1) := by decide +kernel
theorem dX1_leastLabel_3 : decode cX1_leastLabel 3 = .ok (.iconst 0, 1) := by decide +kernel
theorem dX1_leastLabel_4 : decode cX1_leastLabel 4 = .ok (.istore_n 3, 1) := by decide +kernel
theorem dX1_leastLabel_5 : decode cX1_leastLabel 5 = .ok (.iload_n 3, 1) := by decide +kernel
theorem dX1_leastLabel_6 : decode cX1_leastLabel 6 = .ok (.aload_n 0, 1) := by decide +kernel
theorem dX1_leastLabel_7 : decode cX1_leastLabel 7 = .ok (.getfield 15, 3) := by decide +kernel
theorem dX1_leastLabel_10 : decode cX1_leastLabel 10 = .ok (.if_icmp .ge 35, 3) := by decide +kernel
theorem dX1_leastLabel_13 : decode cX1_leastLabel 13 = .ok (.aload_n 0, 1) := by decide +kernel
theorem dX1_leastLabel_14 : decode cX1_leastLabel 14 = .ok (.getfield 45, 3) := by decide +kernel
theorem dX1_leastLabel_17 : decode cX1_leastLabel 17 = .ok (.iload_n 3, 1) := by decide +kernel
theorem dX1_leastLabel_18 : decode cX1_leastLabel 18 = .ok (.iaload, 1) := by decide +kernel
theorem dX1_leastLabel_19 : decode cX1_leastLabel 19 = .ok (.iload_n 2, 1) := by decide +kernel
theorem dX1_leastLabel_20 : decode cX1_leastLabel 20 = .ok (.if_icmp .ge 19, 3) := by decide +kernel
theorem dX1_leastLabel_23 : decode cX1_leastLabel 23 = .ok (.aload_n 0, 1) := by decide +kernel
theorem dX1_leastLabel_24 : decode cX1_leastLabel 24 = .ok (.iload_n 1, 1) := by decide +kernel
theorem dX1_leastLabel_25 : decode cX1_leastLabel 25 = .ok (.iload_n 3, 1) := by decide +kernel
theorem dX1_leastLabel_26 : decode cX1_leastLabel 26 = .ok (.invokevirtual 198, 3) := by decide +kernel
theorem dX1_leastLabel_29 : decode cX1_leastLabel 29 = .ok (.ifCond .eq 10, 3) := by decide +kernel
theorem dX1_leastLabel_32 : decode cX1_leastLabel 32 = .ok (.aload_n 0, 1) := by decide +kernel
theorem dX1_leastLabel_33 : decode cX1_leastLabel 33 = .ok (.getfield 45, 3) := by decide +kernel
theorem dX1_leastLabel_36 : decode cX1_leastLabel 36 = .ok (.iload_n 3, 1) := by decide +kernel
theorem dX1_leastLabel_37 : decode cX1_leastLabel 37 = .ok (.iaload, 1) := by decide +kernel
theorem dX1_leastLabel_38 : decode cX1_leastLabel 38 = .ok (.istore_n 2, 1) := by decide +kernel
theorem dX1_leastLabel_39 : decode cX1_leastLabel 39 = .ok (.iinc 3 1, 3) := by decide +kernel
theorem dX1_leastLabel_42 : decode cX1_leastLabel 42 = .ok (.goto (-37), 3) := by decide +kernel
theorem dX1_leastLabel_45 : decode cX1_leastLabel 45 = .ok (.iload_n 2, 1) := by decide +kernel
theorem dX1_leastLabel_46 : decode cX1_leastLabel 46 = .ok (.ireturn, 1) := by decide +kernel
theorem dX1_endsAfter_0 : decode cX1_endsAfter 0 = .ok (.iconst 0, 1) := by decide +kernel
theorem dX1_endsAfter_1 : decode cX1_endsAfter 1 = .ok (.istore_n 3, 1) := by decide +kernel
theorem dX1_endsAfter_2 : decode cX1_endsAfter 2 = .ok (.iconst 0, 1) := by decide +kernel
theorem dX1_endsAfter_3 : decode cX1_endsAfter 3 = .ok (.istore 4, 2) := by decide +kernel
theorem dX1_endsAfter_5 : decode cX1_endsAfter 5 = .ok (.iload 4, 2) := by decide +kernel
theorem dX1_endsAfter_7 : decode cX1_endsAfter 7 = .ok (.aload_n 0, 1) := by decide +kernel
theorem dX1_endsAfter_8 : decode cX1_endsAfter 8 = .ok (.getfield 15, 3) := by decide +kernel
theorem dX1_endsAfter_11 : decode cX1_endsAfter 11 = .ok (.if_icmp .ge 42, 3) := by decide +kernel
theorem dX1_endsAfter_14 : decode cX1_endsAfter 14 = .ok (.aload_n 0, 1) := by decide +kernel
theorem dX1_endsAfter_15 : decode cX1_endsAfter 15 = .ok (.getfield 45, 3) := by decide +kernel
theorem dX1_endsAfter_18 : decode cX1_endsAfter 18 = .ok (.iload 4, 2) := by decide +kernel
theorem dX1_endsAfter_20 : decode cX1_endsAfter 20 = .ok (.iaload, 1) := by decide +kernel
theorem dX1_endsAfter_21 : decode cX1_endsAfter 21 = .ok (.iload_n 2, 1) := by decide +kernel
theorem dX1_endsAfter_22 : decode cX1_endsAfter 22 = .ok (.if_icmp .ne 25, 3) := by decide +kernel
theorem dX1_endsAfter_25 : decode cX1_endsAfter 25 = .ok (.aload_n 0, 1) := by decide +kernel
theorem dX1_endsAfter_26 : decode cX1_endsAfter 26 = .ok (.iload_n 1, 1) := by decide +kernel
theorem dX1_endsAfter_27 : decode cX1_endsAfter 27 = .ok (.iload 4, 2) := by decide +kernel
theorem dX1_endsAfter_29 : decode cX1_endsAfter 29 = .ok (.invokevirtual 198, 3) := by decide +kernel
theorem dX1_endsAfter_32 : decode cX1_endsAfter 32 = .ok (.ifCond .eq 15, 3) := by decide +kernel
theorem dX1_endsAfter_35 : decode cX1_endsAfter 35 = .ok (.iload_n 3, 1) := by decide +kernel
theorem dX1_endsAfter_36 : decode cX1_endsAfter 36 = .ok (.iconst 1, 1) := by decide +kernel
theorem dX1_endsAfter_37 : decode cX1_endsAfter 37 = .ok (.aload_n 0, 1) := by decide +kernel
theorem dX1_endsAfter_38 : decode cX1_endsAfter 38 = .ok (.getfield 48, 3) := by decide +kernel
theorem dX1_endsAfter_41 : decode cX1_endsAfter 41 = .ok (.iload 4, 2) := by decide +kernel
theorem dX1_endsAfter_43 : decode cX1_endsAfter 43 = .ok (.iaload, 1) := by decide +kernel
theorem dX1_endsAfter_44 : decode cX1_endsAfter 44 = .ok (.ishl, 1) := by decide +kernel
theorem dX1_endsAfter_45 : decode cX1_endsAfter 45 = .ok (.ior, 1) := by decide +kernel
theorem dX1_endsAfter_46 : decode cX1_endsAfter 46 = .ok (.istore_n 3, 1) := by decide +kernel
theorem dX1_endsAfter_47 : decode cX1_endsAfter 47 = .ok (.iinc 4 1, 3) := by decide +kernel
theorem dX1_endsAfter_50 : decode cX1_endsAfter 50 = .ok (.goto (-45), 3) := by decide +kernel
theorem dX1_endsAfter_53 : decode cX1_endsAfter 53 = .ok (.iload_n 3, 1) := by decide +kernel
theorem dX1_endsAfter_54 : decode cX1_endsAfter 54 = .ok (.ireturn, 1) := by decide +kernel
theorem dX2_init_0 : decode cX2_init 0 = .ok (.aload_n 0, 1) := by decide +kernel
theorem dX2_init_1 : decode cX2_init 1 = .ok (.invokespecial 3, 3) := by decide +kernel
theorem dX2_init_4 : decode cX2_init 4 = .ok (.aload_n 0, 1) := by decide +kernel
theorem dX2_init_5 : decode cX2_init 5 = .ok (.iconst 0, 1) := by decide +kernel
theorem dX2_init_6 : decode cX2_init 6 = .ok (.putfield 9, 3) := by decide +kernel
theorem dX2_init_9 : decode cX2_init 9 = .ok (.aload_n 0, 1) := by decide +kernel
theorem dX2_init_10 : decode cX2_init 10 = .ok (.iconst 0, 1) := by decide +kernel
theorem dX2_init_11 : decode cX2_init 11 = .ok (.putfield 15, 3) := by decide +kernel
theorem dX2_init_14 : decode cX2_init 14 = .ok (.aload_n 0, 1) := by decide +kernel
theorem dX2_init_15 : decode cX2_init 15 = .ok (.iconst 0, 1) := by decide +kernel
theorem dX2_init_16 : decode cX2_init 16 = .ok (.putfield 18, 3) := by decide +kernel
theorem dX2_init_19 : decode cX2_init 19 = .ok (.aload_n 0, 1) := by decide +kernel
theorem dX2_init_20 : decode cX2_init 20 = .ok (.new 21, 3) := by decide +kernel
theorem dX2_init_23 : decode cX2_init 23 = .ok (.dup, 1) := by decide +kernel
theorem dX2_init_24 : decode cX2_init 24 = .ok (.invokespecial 23, 3) := by decide +kernel
theorem dX2_init_27 : decode cX2_init 27 = .ok (.putfield 24, 3) := by decide +kernel
theorem dX2_init_30 : decode cX2_init 30 = .ok (.aload_n 0, 1) := by decide +kernel
theorem dX2_init_31 : decode cX2_init 31 = .ok (.bipush 20, 2) := by decide +kernel
theorem dX2_init_33 : decode cX2_init 33 = .ok (.newarray .int, 2) := by decide +kernel
theorem dX2_init_35 : decode cX2_init 35 = .ok (.putfield 28, 3) := by decide +kernel
theorem dX2_init_38 : decode cX2_init 38 = .ok (.aload_n 0, 1) := by decide +kernel
theorem dX2_init_39 : decode cX2_init 39 = .ok (.bipush 20, 2) := by decide +kernel
theorem dX2_init_41 : decode cX2_init 41 = .ok (.newarray .int, 2) := by decide +kernel
theorem dX2_init_43 : decode cX2_init 43 = .ok (.putfield 32, 3) := by decide +kernel
theorem dX2_init_46 : decode cX2_init 46 = .ok (.aload_n 0, 1) := by decide +kernel
theorem dX2_init_47 : decode cX2_init 47 = .ok (.bipush 20, 2) := by decide +kernel
theorem dX2_init_49 : decode cX2_init 49 = .ok (.newarray .int, 2) := by decide +kernel
theorem dX2_init_51 : decode cX2_init 51 = .ok (.putfield 35, 3) := by decide +kernel
theorem dX2_init_54 : decode cX2_init 54 = .ok (.aload_n 0, 1) := by decide +kernel
theorem dX2_init_55 : decode cX2_init 55 = .ok (.bipush 20, 2) := by decide +kernel
theorem dX2_init_57 : decode cX2_init 57 = .ok (.newarray .int, 2) := by decide +kernel
theorem dX2_init_59 : decode cX2_init 59 = .ok (.putfield 38, 3) := by decide +kernel
theorem dX2_init_62 : decode cX2_init 62 = .ok (.aload_n 0, 1) := by decide +kernel
theorem dX2_init_63 : decode cX2_init 63 = .ok (.bipush 20, 2) := by decide +kernel
theorem dX2_init_65 : decode cX2_init 65 = .ok (.newarray .int, 2) := by decide +kernel
theorem dX2_init_67 : decode cX2_init 67 = .ok (.putfield 41, 3) := by decide +kernel
theorem dX2_init_70 : decode cX2_init 70 = .ok (.aload_n 0, 1) := by decide +kernel
theorem dX2_init_71 : decode cX2_init 71 = .ok (.bipush 20, 2) := by decide +kernel
theorem dX2_init_73 : decode cX2_init 73 = .ok (.newarray .long, 2) := by decide +kernel
theorem dX2_init_75 : decode cX2_init 75 = .ok (.putfield 44, 3) := by decide +kernel
theorem dX2_init_78 : decode cX2_init 78 = .ok (.return_, 1) := by decide +kernel
theorem dX2_takeFrom_0 : decode cX2_takeFrom 0 = .ok (.aload_n 0, 1) := by decide +kernel
theorem dX2_takeFrom_1 : decode cX2_takeFrom 1 = .ok (.aload_n 1, 1) := by decide +kernel
theorem dX2_takeFrom_2 : decode cX2_takeFrom 2 = .ok (.getfield 48, 3) := by decide +kernel
theorem dX2_takeFrom_5 : decode cX2_takeFrom 5 = .ok (.putfield 9, 3) := by decide +kernel
theorem dX2_takeFrom_8 : decode cX2_takeFrom 8 = .ok (.aload_n 0, 1) := by decide +kernel
theorem dX2_takeFrom_9 : decode cX2_takeFrom 9 = .ok (.aload_n 1, 1) := by decide +kernel
theorem dX2_takeFrom_10 : decode cX2_takeFrom 10 = .ok (.getfield 51, 3) := by decide +kernel
theorem dX2_takeFrom_13 : decode cX2_takeFrom 13 = .ok (.putfield 15, 3) := by decide +kernel
theorem dX2_takeFrom_16 : decode cX2_takeFrom 16 = .ok (.aload_n 0, 1) := by decide +kernel
theorem dX2_takeFrom_17 : decode cX2_takeFrom 17 = .ok (.aload_n 1, 1) := by decide +kernel
theorem dX2_takeFrom_18 : decode cX2_takeFrom 18 = .ok (.getfield 52, 3) := by decide +kernel
theorem dX2_takeFrom_21 : decode cX2_takeFrom 21 = .ok (.putfield 18, 3) := by decide +kernel
theorem dX2_takeFrom_24 : decode cX2_takeFrom 24 = .ok (.aload_n 0, 1) := by decide +kernel
theorem dX2_takeFrom_25 : decode cX2_takeFrom 25 = .ok (.getfield 24, 3) := by decide +kernel
theorem dX2_takeFrom_28 : decode cX2_takeFrom 28 = .ok (.aload_n 1, 1) := by decide +kernel
theorem dX2_takeFrom_29 : decode cX2_takeFrom 29 = .ok (.getfield 53, 3) := by decide +kernel
theorem dX2_takeFrom_32 : decode cX2_takeFrom 32 = .ok (.aload_n 1, 1) := by decide +kernel
theorem dX2_takeFrom_33 : decode cX2_takeFrom 33 = .ok (.getfield 56, 3) := by decide +kernel
theorem dX2_takeFrom_36 : decode cX2_takeFrom 36 = .ok (.invokevirtual 59, 3) := by decide +kernel
theorem dX2_takeFrom_39 : decode cX2_takeFrom 39 = .ok (.pop, 1) := by decide +kernel
theorem dX2_takeFrom_40 : decode cX2_takeFrom 40 = .ok (.iconst 0, 1) := by decide +kernel
theorem dX2_takeFrom_41 : decode cX2_takeFrom 41 = .ok (.istore_n 2, 1) := by decide +kernel
theorem dX2_takeFrom_42 : decode cX2_takeFrom 42 = .ok (.iload_n 2, 1) := by decide +kernel
theorem dX2_takeFrom_43 : decode cX2_takeFrom 43 = .ok (.aload_n 0, 1) := by decide +kernel
theorem dX2_takeFrom_44 : decode cX2_takeFrom 44 = .ok (.getfield 15, 3) := by decide +kernel
theorem dX2_takeFrom_47 : decode cX2_takeFrom 47 = .ok (.if_icmp .ge 15, 3) := by decide +kernel
theorem dX2_takeFrom_50 : decode cX2_takeFrom 50 = .ok (.aload_n 0, 1) := by decide +kernel
theorem dX2_takeFrom_51 : decode cX2_takeFrom 51 = .ok (.aload_n 1, 1) := by decide +kernel
theorem dX2_takeFrom_52 : decode cX2_takeFrom 52 = .ok (.iload_n 2, 1) := by decide +kernel
theorem dX2_takeFrom_53 : decode cX2_takeFrom 53 = .ok (.invokevirtual 63, 3) := by decide +kernel
theorem dX2_takeFrom_56 : decode cX2_takeFrom 56 = .ok (.iinc 2 1, 3) := by decide +kernel
theorem dX2_takeFrom_59 : decode cX2_takeFrom 59 = .ok (.goto (-17), 3) := by decide +kernel
theorem dX2_takeFrom_62 : decode cX2_takeFrom 62 = .ok (.return_, 1) := by decide +kernel
theorem dX2_takeRule_0 : decode cX2_takeRule 0 = .ok (.aload_n 1, 1) := by decide +kernel
theorem dX2_takeRule_1 : decode cX2_takeRule 1 = .ok (.iload_n 2, 1) := by decide +kernel
theorem dX2_takeRule_2 : decode cX2_takeRule 2 = .ok (.iconst 3, 1) := by decide +kernel
theorem dX2_takeRule_3 : decode cX2_takeRule 3 = .ok (.invokevirtual 67, 3) := by decide +kernel
theorem dX2_takeRule_6 : decode cX2_takeRule 6 = .ok (.istore_n 3, 1) := by decide +kernel
theorem dX2_takeRule_7 : decode cX2_takeRule 7 = .ok (.aload_n 0, 1) := by decide +kernel
theorem dX2_takeRule_8 : decode cX2_takeRule 8 = .ok (.getfield 28, 3) := by decide +kernel
theorem dX2_takeRule_11 : decode cX2_takeRule 11 = .ok (.iload_n 2, 1) := by decide +kernel
theorem dX2_takeRule_12 : decode cX2_takeRule 12 = .ok (.aload_n 1, 1) := by decide +kernel
theorem dX2_takeRule_13 : decode cX2_takeRule 13 = .ok (.iload_n 2, 1) := by decide +kernel
theorem dX2_takeRule_14 : decode cX2_takeRule 14 = .ok (.iconst 0, 1) := by decide +kernel
theorem dX2_takeRule_15 : decode cX2_takeRule 15 = .ok (.invokevirtual 67, 3) := by decide +kernel
theorem dX2_takeRule_18 : decode cX2_takeRule 18 = .ok (.aload_n 1, 1) := by decide +kernel
theorem dX2_takeRule_19 : decode cX2_takeRule 19 = .ok (.iload_n 2, 1) := by decide +kernel
theorem dX2_takeRule_20 : decode cX2_takeRule 20 = .ok (.iconst 1, 1) := by decide +kernel
theorem dX2_takeRule_21 : decode cX2_takeRule 21 = .ok (.invokevirtual 67, 3) := by decide +kernel
theorem dX2_takeRule_24 : decode cX2_takeRule 24 = .ok (.invokestatic 71, 3) := by decide +kernel
theorem dX2_takeRule_27 : decode cX2_takeRule 27 = .ok (.iastore, 1) := by decide +kernel
theorem dX2_takeRule_28 : decode cX2_takeRule 28 = .ok (.aload_n 0, 1) := by decide +kernel
theorem dX2_takeRule_29 : decode cX2_takeRule 29 = .ok (.getfield 32, 3) := by decide +kernel
theorem dX2_takeRule_32 : decode cX2_takeRule 32 = .ok (.iload_n 2, 1) := by decide +kernel
theorem dX2_takeRule_33 : decode cX2_takeRule 33 = .ok (.aload_n 1, 1) := by decide +kernel
theorem dX2_takeRule_34 : decode cX2_takeRule 34 = .ok (.iload_n 2, 1) := by decide +kernel
theorem dX2_takeRule_35 : decode cX2_takeRule 35 = .ok (.iconst 2, 1) := by decide +kernel
theorem dX2_takeRule_36 : decode cX2_takeRule 36 = .ok (.invokevirtual 67, 3) := by decide +kernel
theorem dX2_takeRule_39 : decode cX2_takeRule 39 = .ok (.iastore, 1) := by decide +kernel
theorem dX2_takeRule_40 : decode cX2_takeRule 40 = .ok (.aload_n 0, 1) := by decide +kernel
theorem dX2_takeRule_41 : decode cX2_takeRule 41 = .ok (.getfield 35, 3) := by decide +kernel
theorem dX2_takeRule_44 : decode cX2_takeRule 44 = .ok (.iload_n 2, 1) := by decide +kernel
theorem dX2_takeRule_45 : decode cX2_takeRule 45 = .ok (.iload_n 3, 1) := by decide +kernel
theorem dX2_takeRule_46 : decode cX2_takeRule 46 = .ok (.invokestatic 74, 3) := by decide +kernel
theorem dX2_takeRule_49 : decode cX2_takeRule 49 = .ok (.iastore, 1) := by decide +kernel
theorem dX2_takeRule_50 : decode cX2_takeRule 50 = .ok (.aload_n 0, 1) := by decide +kernel
theorem dX2_takeRule_51 : decode cX2_takeRule 51 = .ok (.getfield 38, 3) := by decide +kernel
theorem dX2_takeRule_54 : decode cX2_takeRule 54 = .ok (.iload_n 2, 1) := by decide +kernel
theorem dX2_takeRule_55 : decode cX2_takeRule 55 = .ok (.aload_n 0, 1) := by decide +kernel
theorem dX2_takeRule_56 : decode cX2_takeRule 56 = .ok (.getfield 35, 3) := by decide +kernel
theorem dX2_takeRule_59 : decode cX2_takeRule 59 = .ok (.iload_n 2, 1) := by decide +kernel
theorem dX2_takeRule_60 : decode cX2_takeRule 60 = .ok (.iaload, 1) := by decide +kernel
theorem dX2_takeRule_61 : decode cX2_takeRule 61 = .ok (.ifCond .ne 7, 3) := by decide +kernel
theorem dX2_takeRule_64 : decode cX2_takeRule 64 = .ok (.iconst 0, 1) := by decide +kernel
theorem dX2_takeRule_65 : decode cX2_takeRule 65 = .ok (.goto 30, 3) := by decide +kernel
theorem dX2_takeRule_68 : decode cX2_takeRule 68 = .ok (.aload_n 0, 1) := by decide +kernel
theorem dX2_takeRule_69 : decode cX2_takeRule 69 = .ok (.getfield 32, 3) := by decide +kernel
theorem dX2_takeRule_72 : decode cX2_takeRule 72 = .ok (.iload_n 2, 1) := by decide +kernel
theorem dX2_takeRule_73 : decode cX2_takeRule 73 = .ok (.iaload, 1) := by decide +kernel
theorem dX2_takeRule_74 : decode cX2_takeRule 74 = .ok (.aload_n 0, 1) := by decide +kernel
theorem dX2_takeRule_75 : decode cX2_takeRule 75 = .ok (.getfield 35, 3) := by decide +kernel
theorem dX2_takeRule_78 : decode cX2_takeRule 78 = .ok (.iload_n 2, 1) := by decide +kernel
theorem dX2_takeRule_79 : decode cX2_takeRule 79 = .ok (.iaload, 1) := by decide +kernel
theorem dX2_takeRule_80 : decode cX2_takeRule 80 = .ok (.iconst 1, 1) := by decide +kernel
theorem dX2_takeRule_81 : decode cX2_takeRule 81 = .ok (.if_icmp .ne 7, 3) := by decide +kernel
theorem dX2_takeRule_84 : decode cX2_takeRule 84 = .ok (.iload_n 3, 1) := by decide +kernel
theorem dX2_takeRule_85 : decode cX2_takeRule 85 = .ok (.goto 7, 3) := by decide +kernel
theorem dX2_takeRule_88 : decode cX2_takeRule 88 = .ok (.iload_n 3, 1) := by decide +kernel
theorem dX2_takeRule_89 : decode cX2_takeRule 89 = .ok (.bipush 10, 2) := by decide +kernel
theorem dX2_takeRule_91 : decode cX2_takeRule 91 = .ok (.idiv, 1) := by decide +kernel
theorem dX2_takeRule_92 : decode cX2_takeRule 92 = .ok (.invokestatic 71, 3) := by decide +kernel
theorem dX2_takeRule_95 : decode cX2_takeRule 95 = .ok (.iastore, 1) := by decide +kernel
theorem dX2_takeRule_96 : decode cX2_takeRule 96 = .ok (.aload_n 0, 1) := by decide +kernel
theorem dX2_takeRule_97 : decode cX2_takeRule 97 = .ok (.getfield 41, 3) := by decide +kernel
theorem dX2_takeRule_100 : decode cX2_takeRule 100 = .ok (.iload_n 2, 1) := by decide +kernel
theorem dX2_takeRule_101 : decode cX2_takeRule 101 = .ok (.aload_n 0, 1) := by decide +kernel
theorem dX2_takeRule_102 : decode cX2_takeRule 102 = .ok (.getfield 35, 3) := by decide +kernel
theorem dX2_takeRule_105 : decode cX2_takeRule 105 = .ok (.iload_n 2, 1) := by decide +kernel
theorem dX2_takeRule_106 : decode cX2_takeRule 106 = .ok (.iaload, 1) := by decide +kernel
theorem dX2_takeRule_107 : decode cX2_takeRule 107 = .ok (.iconst 2, 1) := by decide +kernel
theorem dX2_takeRule_108 : decode cX2_takeRule 108 = .ok (.if_icmp .ne 10, 3) := by decide +kernel
theorem dX2_takeRule_111 : decode cX2_takeRule 111 = .ok (.iload_n 3, 1) := by decide +kernel
theorem dX2_takeRule_112 : decode cX2_takeRule 112 = .ok (.bipush 10, 2) := by decide +kernel
theorem dX2_takeRule_114 : decode cX2_takeRule 114 = .ok (.irem, 1) := by decide +kernel
theorem dX2_takeRule_115 : decode cX2_takeRule 115 = .ok (.goto 4, 3) := by decide +kernel
theorem dX2_takeRule_118 : decode cX2_takeRule 118 = .ok (.iconst 0, 1) := by decide +kernel
theorem dX2_takeRule_119 : decode cX2_takeRule 119 = .ok (.iastore, 1) := by decide +kernel
theorem dX2_takeRule_120 : decode cX2_takeRule 120 = .ok (.aload_n 0, 1) := by decide +kernel
theorem dX2_takeRule_121 : decode cX2_takeRule 121 = .ok (.getfield 44, 3) := by decide +kernel
theorem dX2_takeRule_124 : decode cX2_takeRule 124 = .ok (.iload_n 2, 1) := by decide +kernel
theorem dX2_takeRule_125 : decode cX2_takeRule 125 = .ok (.aload_n 1, 1) := by decide +kernel
theorem dX2_takeRule_126 : decode cX2_takeRule 126 = .ok (.iload_n 2, 1) := by decide +kernel
theorem dX2_takeRule_127 : decode cX2_takeRule 127 = .ok (.iconst 4, 1) := by decide +kernel
theorem dX2_takeRule_128 : decode cX2_takeRule 128 = .ok (.invokevirtual 67, 3) := by decide +kernel
theorem dX2_takeRule_131 : decode cX2_takeRule 131 = .ok (.invokestatic 78, 3) := by decide +kernel
theorem dX2_takeRule_134 : decode cX2_takeRule 134 = .ok (.lconst 1, 1) := by decide +kernel
theorem dX2_takeRule_135 : decode cX2_takeRule 135 = .ok (.ladd, 1) := by decide +kernel
theorem dX2_takeRule_136 : decode cX2_takeRule 136 = .ok (.lastore, 1) := by decide +kernel
theorem dX2_takeRule_137 : decode cX2_takeRule 137 = .ok (.return_, 1) := by decide +kernel
theorem dX3_init_0 : decode cX3_init 0 = .ok (.aload_n 0, 1) := by decide +kernel
theorem dX3_init_1 : decode cX3_init 1 = .ok (.invokespecial 3, 3) := by decide +kernel
theorem dX3_init_4 : decode cX3_init 4 = .ok (.aload_n 0, 1) := by decide +kernel
theorem dX3_init_5 : decode cX3_init 5 = .ok (.ldc2_w 9, 3) := by decide +kernel
theorem dX3_init_8 : decode cX3_init 8 = .ok (.putfield 11, 3) := by decide +kernel
theorem dX3_init_11 : decode cX3_init 11 = .ok (.aload_n 0, 1) := by decide +kernel
theorem dX3_init_12 : decode cX3_init 12 = .ok (.iconst 0, 1) := by decide +kernel
theorem dX3_init_13 : decode cX3_init 13 = .ok (.putfield 17, 3) := by decide +kernel
theorem dX3_init_16 : decode cX3_init 16 = .ok (.aload_n 0, 1) := by decide +kernel
theorem dX3_init_17 : decode cX3_init 17 = .ok (.iconst 0, 1) := by decide +kernel
theorem dX3_init_18 : decode cX3_init 18 = .ok (.putfield 21, 3) := by decide +kernel
theorem dX3_init_21 : decode cX3_init 21 = .ok (.aload_n 0, 1) := by decide +kernel
theorem dX3_init_22 : decode cX3_init 22 = .ok (.iconst 0, 1) := by decide +kernel
theorem dX3_init_23 : decode cX3_init 23 = .ok (.putfield 25, 3) := by decide +kernel
theorem dX3_init_26 : decode cX3_init 26 = .ok (.aload_n 0, 1) := by decide +kernel
theorem dX3_init_27 : decode cX3_init 27 = .ok (.iconst 0, 1) := by decide +kernel
theorem dX3_init_28 : decode cX3_init 28 = .ok (.putfield 28, 3) := by decide +kernel
theorem dX3_init_31 : decode cX3_init 31 = .ok (.aload_n 0, 1) := by decide +kernel
theorem dX3_init_32 : decode cX3_init 32 = .ok (.bipush 6, 2) := by decide +kernel
theorem dX3_init_34 : decode cX3_init 34 = .ok (.newarray .int, 2) := by decide +kernel
theorem dX3_init_36 : decode cX3_init 36 = .ok (.putfield 31, 3) := by decide +kernel
theorem dX3_init_39 : decode cX3_init 39 = .ok (.aload_n 0, 1) := by decide +kernel
theorem dX3_init_40 : decode cX3_init 40 = .ok (.bipush 6, 2) := by decide +kernel
theorem dX3_init_42 : decode cX3_init 42 = .ok (.bipush 20, 2) := by decide +kernel
theorem dX3_init_44 : decode cX3_init 44 = .ok (.multianewarray 35 2, 4) := by decide +kernel
theorem dX3_init_48 : decode cX3_init 48 = .ok (.putfield 37, 3) := by decide +kernel
theorem dX3_init_51 : decode cX3_init 51 = .ok (.aload_n 0, 1) := by decide +kernel
theorem dX3_init_52 : decode cX3_init 52 = .ok (.aload_n 1, 1) := by decide +kernel
theorem dX3_init_53 : decode cX3_init 53 = .ok (.putfield 40, 3) := by decide +kernel
theorem dX3_init_56 : decode cX3_init 56 = .ok (.aload_n 0, 1) := by decide +kernel
theorem dX3_init_57 : decode cX3_init 57 = .ok (.aload_n 2, 1) := by decide +kernel
theorem dX3_init_58 : decode cX3_init 58 = .ok (.putfield 44, 3) := by decide +kernel
theorem dX3_init_61 : decode cX3_init 61 = .ok (.aload_n 0, 1) := by decide +kernel
theorem dX3_init_62 : decode cX3_init 62 = .ok (.iload_n 3, 1) := by decide +kernel
theorem dX3_init_63 : decode cX3_init 63 = .ok (.bipush 6, 2) := by decide +kernel
theorem dX3_init_65 : decode cX3_init 65 = .ok (.if_icmp .ge 8, 3) := by decide +kernel
theorem dX3_init_68 : decode cX3_init 68 = .ok (.bipush 6, 2) := by decide +kernel
theorem dX3_init_70 : decode cX3_init 70 = .ok (.goto 4, 3) := by decide +kernel
theorem dX3_init_73 : decode cX3_init 73 = .ok (.iload_n 3, 1) := by decide +kernel
theorem dX3_init_74 : decode cX3_init 74 = .ok (.putfield 48, 3) := by decide +kernel
theorem dX3_init_77 : decode cX3_init 77 = .ok (.aload_n 0, 1) := by decide +kernel
theorem dX3_init_78 : decode cX3_init 78 = .ok (.aload_n 0, 1) := by decide +kernel
theorem dX3_init_79 : decode cX3_init 79 = .ok (.getfield 48, 3) := by decide +kernel
theorem dX3_init_82 : decode cX3_init 82 = .ok (.newarray .int, 2) := by decide +kernel
theorem dX3_init_84 : decode cX3_init 84 = .ok (.putfield 51, 3) := by decide +kernel
theorem dX3_init_87 : decode cX3_init 87 = .ok (.aload_n 0, 1) := by decide +kernel
theorem dX3_init_88 : decode cX3_init 88 = .ok (.aload_n 0, 1) := by decide +kernel
theorem dX3_init_89 : decode cX3_init 89 = .ok (.getfield 48, 3) := by decide +kernel
theorem dX3_init_92 : decode cX3_init 92 = .ok (.iconst 1, 1) := by decide +kernel
theorem dX3_init_93 : decode cX3_init 93 = .ok (.iadd, 1) := by decide +kernel
theorem dX3_init_94 : decode cX3_init 94 = .ok (.iconst 4, 1) := by decide +kernel
theorem dX3_init_95 : decode cX3_init 95 = .ok (.imul, 1) := by decide +kernel
theorem dX3_init_96 : decode cX3_init 96 = .ok (.newarray .long, 2) := by decide +kernel
theorem dX3_init_98 : decode cX3_init 98 = .ok (.putfield 54, 3) := by decide +kernel
theorem dX3_init_101 : decode cX3_init 101 = .ok (.aload_n 0, 1) := by decide +kernel
theorem dX3_init_102 : decode cX3_init 102 = .ok (.aload_n 0, 1) := by decide +kernel
theorem dX3_init_103 : decode cX3_init 103 = .ok (.getfield 48, 3) := by decide +kernel
theorem dX3_init_106 : decode cX3_init 106 = .ok (.iconst 1, 1) := by decide +kernel
theorem dX3_init_107 : decode cX3_init 107 = .ok (.iadd, 1) := by decide +kernel
theorem dX3_init_108 : decode cX3_init 108 = .ok (.newarray .boolean, 2) := by decide +kernel
theorem dX3_init_110 : decode cX3_init 110 = .ok (.putfield 58, 3) := by decide +kernel
theorem dX3_init_113 : decode cX3_init 113 = .ok (.return_, 1) := by decide +kernel
theorem dX3_isAimedAt_0 : decode cX3_isAimedAt 0 = .ok (.aload_n 0, 1) := by decide +kernel
theorem dX3_isAimedAt_1 : decode cX3_isAimedAt 1 = .ok (.getfield 21, 3) := by decide +kernel
theorem dX3_isAimedAt_4 : decode cX3_isAimedAt 4 = .ok (.ifCond .eq 22, 3) := by decide +kernel
theorem dX3_isAimedAt_7 : decode cX3_isAimedAt 7 = .ok (.iload_n 1, 1) := by decide +kernel
theorem dX3_isAimedAt_8 : decode cX3_isAimedAt 8 = .ok (.aload_n 0, 1) := by decide +kernel
theorem dX3_isAimedAt_9 : decode cX3_isAimedAt 9 = .ok (.getfield 25, 3) := by decide +kernel
theorem dX3_isAimedAt_12 : decode cX3_isAimedAt 12 = .ok (.if_icmp .ne 14, 3) := by decide +kernel
theorem dX3_isAimedAt_15 : decode cX3_isAimedAt 15 = .ok (.aload_n 2, 1) := by decide +kernel
theorem dX3_isAimedAt_16 : decode cX3_isAimedAt 16 = .ok (.getfield 62, 3) := by decide +kernel
theorem dX3_isAimedAt_19 : decode cX3_isAimedAt 19 = .ok (.aload_n 0, 1) := by decide +kernel
theorem dX3_isAimedAt_20 : decode cX3_isAimedAt 20 = .ok (.getfield 28, 3) := by decide +kernel
theorem dX3_isAimedAt_23 : decode cX3_isAimedAt 23 = .ok (.if_icmp .eq 5, 3) := by decide +kernel
theorem dX3_isAimedAt_26 : decode cX3_isAimedAt 26 = .ok (.iconst 0, 1) := by decide +kernel
theorem dX3_isAimedAt_27 : decode cX3_isAimedAt 27 = .ok (.ireturn, 1) := by decide +kernel
theorem dX3_isAimedAt_28 : decode cX3_isAimedAt 28 = .ok (.iconst 0, 1) := by decide +kernel
theorem dX3_isAimedAt_29 : decode cX3_isAimedAt 29 = .ok (.istore_n 3, 1) := by decide +kernel
theorem dX3_isAimedAt_30 : decode cX3_isAimedAt 30 = .ok (.iload_n 3, 1) := by decide +kernel
theorem dX3_isAimedAt_31 : decode cX3_isAimedAt 31 = .ok (.aload_n 0, 1) := by decide +kernel
theorem dX3_isAimedAt_32 : decode cX3_isAimedAt 32 = .ok (.getfield 28, 3) := by decide +kernel
theorem dX3_isAimedAt_35 : decode cX3_isAimedAt 35 = .ok (.if_icmp .ge 26, 3) := by decide +kernel
theorem dX3_isAimedAt_38 : decode cX3_isAimedAt 38 = .ok (.aload_n 0, 1) := by decide +kernel
theorem dX3_isAimedAt_39 : decode cX3_isAimedAt 39 = .ok (.getfield 31, 3) := by decide +kernel
theorem dX3_isAimedAt_42 : decode cX3_isAimedAt 42 = .ok (.iload_n 3, 1) := by decide +kernel
theorem dX3_isAimedAt_43 : decode cX3_isAimedAt 43 = .ok (.iaload, 1) := by decide +kernel
theorem dX3_isAimedAt_44 : decode cX3_isAimedAt 44 = .ok (.aload_n 2, 1) := by decide +kernel
theorem dX3_isAimedAt_45 : decode cX3_isAimedAt 45 = .ok (.getfield 67, 3) := by decide +kernel
theorem dX3_isAimedAt_48 : decode cX3_isAimedAt 48 = .ok (.iload_n 3, 1) := by decide +kernel
theorem dX3_isAimedAt_49 : decode cX3_isAimedAt 49 = .ok (.iaload, 1) := by decide +kernel
theorem dX3_isAimedAt_50 : decode cX3_isAimedAt 50 = .ok (.if_icmp .eq 5, 3) := by decide +kernel
theorem dX3_isAimedAt_53 : decode cX3_isAimedAt 53 = .ok (.iconst 0, 1) := by decide +kernel
theorem dX3_isAimedAt_54 : decode cX3_isAimedAt 54 = .ok (.ireturn, 1) := by decide +kernel
theorem dX3_isAimedAt_55 : decode cX3_isAimedAt 55 = .ok (.iinc 3 1, 3) := by decide +kernel
theorem dX3_isAimedAt_58 : decode cX3_isAimedAt 58 = .ok (.goto (-28), 3) := by decide +kernel
theorem dX3_isAimedAt_61 : decode cX3_isAimedAt 61 = .ok (.iconst 1, 1) := by decide +kernel
theorem dX3_isAimedAt_62 : decode cX3_isAimedAt 62 = .ok (.ireturn, 1) := by decide +kernel
theorem dX3_forgetAim_0 : decode cX3_forgetAim 0 = .ok (.aload_n 0, 1) := by decide +kernel
theorem dX3_forgetAim_1 : decode cX3_forgetAim 1 = .ok (.iconst 0, 1) := by decide +kernel
theorem dX3_forgetAim_2 : decode cX3_forgetAim 2 = .ok (.putfield 21, 3) := by decide +kernel
theorem dX3_forgetAim_5 : decode cX3_forgetAim 5 = .ok (.return_, 1) := by decide +kernel
theorem dX3_aimAt_0 : decode cX3_aimAt 0 = .ok (.aload_n 0, 1) := by decide +kernel
theorem dX3_aimAt_1 : decode cX3_aimAt 1 = .ok (.iconst 1, 1) := by decide +kernel
theorem dX3_aimAt_2 : decode cX3_aimAt 2 = .ok (.putfield 21, 3) := by decide +kernel
theorem dX3_aimAt_5 : decode cX3_aimAt 5 = .ok (.aload_n 0, 1) := by decide +kernel
theorem dX3_aimAt_6 : decode cX3_aimAt 6 = .ok (.iload_n 1, 1) := by decide +kernel
theorem dX3_aimAt_7 : decode cX3_aimAt 7 = .ok (.putfield 25, 3) := by decide +kernel
theorem dX3_aimAt_10 : decode cX3_aimAt 10 = .ok (.aload_n 0, 1) := by decide +kernel
theorem dX3_aimAt_11 : decode cX3_aimAt 11 = .ok (.aload_n 2, 1) := by decide +kernel
theorem dX3_aimAt_12 : decode cX3_aimAt 12 = .ok (.getfield 62, 3) := by decide +kernel
theorem dX3_aimAt_15 : decode cX3_aimAt 15 = .ok (.bipush 6, 2) := by decide +kernel
theorem dX3_aimAt_17 : decode cX3_aimAt 17 = .ok (.invokestatic 70, 3) := by decide +kernel
theorem dX3_aimAt_20 : decode cX3_aimAt 20 = .ok (.putfield 28, 3) := by decide +kernel
theorem dX3_aimAt_23 : decode cX3_aimAt 23 = .ok (.iconst 0, 1) := by decide +kernel
theorem dX3_aimAt_24 : decode cX3_aimAt 24 = .ok (.istore_n 3, 1) := by decide +kernel
theorem dX3_aimAt_25 : decode cX3_aimAt 25 = .ok (.iload_n 3, 1) := by decide +kernel
theorem dX3_aimAt_26 : decode cX3_aimAt 26 = .ok (.aload_n 0, 1) := by decide +kernel
theorem dX3_aimAt_27 : decode cX3_aimAt 27 = .ok (.getfield 28, 3) := by decide +kernel
theorem dX3_aimAt_30 : decode cX3_aimAt 30 = .ok (.if_icmp .ge 26, 3) := by decide +kernel
theorem dX3_aimAt_33 : decode cX3_aimAt 33 = .ok (.aload_n 0, 1) := by decide +kernel
theorem dX3_aimAt_34 : decode cX3_aimAt 34 = .ok (.getfield 31, 3) := by decide +kernel
theorem dX3_aimAt_37 : decode cX3_aimAt 37 = .ok (.iload_n 3, 1) := by decide +kernel
theorem dX3_aimAt_38 : decode cX3_aimAt 38 = .ok (.aload_n 2, 1) := by decide +kernel
theorem dX3_aimAt_39 : decode cX3_aimAt 39 = .ok (.getfield 67, 3) := by decide +kernel
theorem dX3_aimAt_42 : decode cX3_aimAt 42 = .ok (.iload_n 3, 1) := by decide +kernel
theorem dX3_aimAt_43 : decode cX3_aimAt 43 = .ok (.iaload, 1) := by decide +kernel
theorem dX3_aimAt_44 : decode cX3_aimAt 44 = .ok (.iastore, 1) := by decide +kernel
theorem dX3_aimAt_45 : decode cX3_aimAt 45 = .ok (.aload_n 0, 1) := by decide +kernel
theorem dX3_aimAt_46 : decode cX3_aimAt 46 = .ok (.iload_n 3, 1) := by decide +kernel
theorem dX3_aimAt_47 : decode cX3_aimAt 47 = .ok (.invokevirtual 76, 3) := by decide +kernel
theorem dX3_aimAt_50 : decode cX3_aimAt 50 = .ok (.iinc 3 1, 3) := by decide +kernel
theorem dX3_aimAt_53 : decode cX3_aimAt 53 = .ok (.goto (-28), 3) := by decide +kernel
theorem dX3_aimAt_56 : decode cX3_aimAt 56 = .ok (.return_, 1) := by decide +kernel
theorem dX3_fillLevel_0 : decode cX3_fillLevel 0 = .ok (.aload_n 0, 1) := by decide +kernel
theorem dX3_fillLevel_1 : decode cX3_fillLevel 1 = .ok (.getfield 37, 3) := by decide +kernel
theorem dX3_fillLevel_4 : decode cX3_fillLevel 4 = .ok (.iload_n 1, 1) := by decide +kernel
theorem dX3_fillLevel_5 : decode cX3_fillLevel 5 = .ok (.aaload, 1) := by decide +kernel
theorem dX3_fillLevel_6 : decode cX3_fillLevel 6 = .ok (.ldc2_w 9, 3) := by decide +kernel
theorem dX3_fillLevel_9 : decode cX3_fillLevel 9 = .ok (.invokestatic 80, 3) := by decide +kernel
theorem dX3_fillLevel_12 : decode cX3_fillLevel 12 = .ok (.iload_n 1, 1) := by decide +kernel
theorem dX3_fillLevel_13 : decode cX3_fillLevel 13 = .ok (.ifCond .ne 27, 3) := by decide +kernel
theorem dX3_fillLevel_16 : decode cX3_fillLevel 16 = .ok (.aload_n 0, 1) := by decide +kernel
theorem dX3_fillLevel_17 : decode cX3_fillLevel 17 = .ok (.getfield 37, 3) := by decide +kernel
theorem dX3_fillLevel_20 : decode cX3_fillLevel 20 = .ok (.iconst 0, 1) := by decide +kernel
theorem dX3_fillLevel_21 : decode cX3_fillLevel 21 = .ok (.aaload, 1) := by decide +kernel
theorem dX3_fillLevel_22 : decode cX3_fillLevel 22 = .ok (.aload_n 0, 1) := by decide +kernel
theorem dX3_fillLevel_23 : decode cX3_fillLevel 23 = .ok (.getfield 25, 3) := by decide +kernel
theorem dX3_fillLevel_26 : decode cX3_fillLevel 26 = .ok (.aload_n 0, 1) := by decide +kernel
theorem dX3_fillLevel_27 : decode cX3_fillLevel 27 = .ok (.getfield 31, 3) := by decide +kernel
theorem dX3_fillLevel_30 : decode cX3_fillLevel 30 = .ok (.iconst 0, 1) := by decide +kernel
theorem dX3_fillLevel_31 : decode cX3_fillLevel 31 = .ok (.iaload, 1) := by decide +kernel
theorem dX3_fillLevel_32 : decode cX3_fillLevel 32 = .ok (.invokestatic 86, 3) := by decide +kernel
theorem dX3_fillLevel_35 : decode cX3_fillLevel 35 = .ok (.lconst 0, 1) := by decide +kernel
theorem dX3_fillLevel_36 : decode cX3_fillLevel 36 = .ok (.lastore, 1) := by decide +kernel
theorem dX3_fillLevel_37 : decode cX3_fillLevel 37 = .ok (.goto 8, 3) := by decide +kernel
theorem dX3_fillLevel_40 : decode cX3_fillLevel 40 = .ok (.aload_n 0, 1) := by decide +kernel
theorem dX3_fillLevel_41 : decode cX3_fillLevel 41 = .ok (.iload_n 1, 1) := by decide +kernel
theorem dX3_fillLevel_42 : decode cX3_fillLevel 42 = .ok (.invokevirtual 89, 3) := by decide +kernel
theorem dX3_fillLevel_45 : decode cX3_fillLevel 45 = .ok (.aload_n 0, 1) := by decide +kernel
theorem dX3_fillLevel_46 : decode cX3_fillLevel 46 = .ok (.getfield 44, 3) := by decide +kernel
theorem dX3_fillLevel_49 : decode cX3_fillLevel 49 = .ok (.aload_n 0, 1) := by decide +kernel
theorem dX3_fillLevel_50 : decode cX3_fillLevel 50 = .ok (.getfield 37, 3) := by decide +kernel
theorem dX3_fillLevel_53 : decode cX3_fillLevel 53 = .ok (.iload_n 1, 1) := by decide +kernel
theorem dX3_fillLevel_54 : decode cX3_fillLevel 54 = .ok (.aaload, 1) := by decide +kernel
theorem dX3_fillLevel_55 : decode cX3_fillLevel 55 = .ok (.invokevirtual 92, 3) := by decide +kernel
theorem dX3_fillLevel_58 : decode cX3_fillLevel 58 = .ok (.return_, 1) := by decide +kernel
theorem dX3_pushOnto_0 : decode cX3_pushOnto 0 = .ok (.iconst 0, 1) := by decide +kernel
theorem dX3_pushOnto_1 : decode cX3_pushOnto 1 = .ok (.istore_n 2, 1) := by decide +kernel
theorem dX3_pushOnto_2 : decode cX3_pushOnto 2 = .ok (.iload_n 2, 1) := by decide +kernel
theorem dX3_pushOnto_3 : decode cX3_pushOnto 3 = .ok (.aload_n 0, 1) := by decide +kernel
theorem dX3_pushOnto_4 : decode cX3_pushOnto 4 = .ok (.getfield 40, 3) := by decide +kernel
theorem dX3_pushOnto_7 : decode cX3_pushOnto 7 = .ok (.getfield 98, 3) := by decide +kernel
theorem dX3_pushOnto_10 : decode cX3_pushOnto 10 = .ok (.if_icmp .ge 98, 3) := by decide +kernel
theorem dX3_pushOnto_13 : decode cX3_pushOnto 13 = .ok (.iload_n 2, 1) := by decide +kernel
theorem dX3_pushOnto_14 : decode cX3_pushOnto 14 = .ok (.aload_n 0, 1) := by decide +kernel
theorem dX3_pushOnto_15 : decode cX3_pushOnto 15 = .ok (.getfield 44, 3) := by decide +kernel
theorem dX3_pushOnto_18 : decode cX3_pushOnto 18 = .ok (.getfield 103, 3) := by decide +kernel
theorem dX3_pushOnto_21 : decode cX3_pushOnto 21 = .ok (.if_icmp .eq 81, 3) := by decide +kernel
theorem dX3_pushOnto_24 : decode cX3_pushOnto 24 = .ok (.aload_n 0, 1) := by decide +kernel
theorem dX3_pushOnto_25 : decode cX3_pushOnto 25 = .ok (.getfield 40, 3) := by decide +kernel
theorem dX3_pushOnto_28 : decode cX3_pushOnto 28 = .ok (.getfield 106, 3) := by decide +kernel
theorem dX3_pushOnto_31 : decode cX3_pushOnto 31 = .ok (.iload_n 2, 1) := by decide +kernel
theorem dX3_pushOnto_32 : decode cX3_pushOnto 32 = .ok (.iaload, 1) := by decide +kernel
theorem dX3_pushOnto_33 : decode cX3_pushOnto 33 = .ok (.iconst 2, 1) := by decide +kernel
theorem dX3_pushOnto_34 : decode cX3_pushOnto 34 = .ok (.if_icmp .ne 68, 3) := by decide +kernel
theorem dX3_pushOnto_37 : decode cX3_pushOnto 37 = .ok (.aload_n 0, 1) := by decide +kernel
theorem dX3_pushOnto_38 : decode cX3_pushOnto 38 = .ok (.getfield 40, 3) := by decide +kernel
theorem dX3_pushOnto_41 : decode cX3_pushOnto 41 = .ok (.getfield 109, 3) := by decide +kernel
theorem dX3_pushOnto_44 : decode cX3_pushOnto 44 = .ok (.iload_n 2, 1) := by decide +kernel
theorem dX3_pushOnto_45 : decode cX3_pushOnto 45 = .ok (.iaload, 1) := by decide +kernel
theorem dX3_pushOnto_46 : decode cX3_pushOnto 46 = .ok (.aload_n 0, 1) := by decide +kernel
theorem dX3_pushOnto_47 : decode cX3_pushOnto 47 = .ok (.getfield 31, 3) := by decide +kernel
theorem dX3_pushOnto_50 : decode cX3_pushOnto 50 = .ok (.iload_n 1, 1) := by decide +kernel
theorem dX3_pushOnto_51 : decode cX3_pushOnto 51 = .ok (.iaload, 1) := by decide +kernel
theorem dX3_pushOnto_52 : decode cX3_pushOnto 52 = .ok (.if_icmp .ne 50, 3) := by decide +kernel
theorem dX3_pushOnto_55 : decode cX3_pushOnto 55 = .ok (.aload_n 0, 1) := by decide +kernel
theorem dX3_pushOnto_56 : decode cX3_pushOnto 56 = .ok (.getfield 37, 3) := by decide +kernel
theorem dX3_pushOnto_59 : decode cX3_pushOnto 59 = .ok (.iload_n 1, 1) := by decide +kernel
theorem dX3_pushOnto_60 : decode cX3_pushOnto 60 = .ok (.aaload, 1) := by decide +kernel
theorem dX3_pushOnto_61 : decode cX3_pushOnto 61 = .ok (.aload_n 0, 1) := by decide +kernel
theorem dX3_pushOnto_62 : decode cX3_pushOnto 62 = .ok (.getfield 40, 3) := by decide +kernel
theorem dX3_pushOnto_65 : decode cX3_pushOnto 65 = .ok (.getfield 112, 3) := by decide +kernel
theorem dX3_pushOnto_68 : decode cX3_pushOnto 68 = .ok (.iload_n 2, 1) := by decide +kernel
theorem dX3_pushOnto_69 : decode cX3_pushOnto 69 = .ok (.iaload, 1) := by decide +kernel
theorem dX3_pushOnto_70 : decode cX3_pushOnto 70 = .ok (.aload_n 0, 1) := by decide +kernel
theorem dX3_pushOnto_71 : decode cX3_pushOnto 71 = .ok (.getfield 40, 3) := by decide +kernel
theorem dX3_pushOnto_74 : decode cX3_pushOnto 74 = .ok (.getfield 115, 3) := by decide +kernel
theorem dX3_pushOnto_77 : decode cX3_pushOnto 77 = .ok (.iload_n 2, 1) := by decide +kernel
theorem dX3_pushOnto_78 : decode cX3_pushOnto 78 = .ok (.laload, 1) := by decide +kernel
theorem dX3_pushOnto_79 : decode cX3_pushOnto 79 = .ok (.aload_n 0, 1) := by decide +kernel
theorem dX3_pushOnto_80 : decode cX3_pushOnto 80 = .ok (.getfield 37, 3) := by decide +kernel
theorem dX3_pushOnto_83 : decode cX3_pushOnto 83 = .ok (.iload_n 1, 1) := by decide +kernel
theorem dX3_pushOnto_84 : decode cX3_pushOnto 84 = .ok (.iconst 1, 1) := by decide +kernel
theorem dX3_pushOnto_85 : decode cX3_pushOnto 85 = .ok (.isub, 1) := by decide +kernel
theorem dX3_pushOnto_86 : decode cX3_pushOnto 86 = .ok (.aaload, 1) := by decide +kernel
theorem dX3_pushOnto_87 : decode cX3_pushOnto 87 = .ok (.aload_n 0, 1) := by decide +kernel
theorem dX3_pushOnto_88 : decode cX3_pushOnto 88 = .ok (.getfield 40, 3) := by decide +kernel
theorem dX3_pushOnto_91 : decode cX3_pushOnto 91 = .ok (.getfield 118, 3) := by decide +kernel
theorem dX3_pushOnto_94 : decode cX3_pushOnto 94 = .ok (.iload_n 2, 1) := by decide +kernel
theorem dX3_pushOnto_95 : decode cX3_pushOnto 95 = .ok (.iaload, 1) := by decide +kernel
theorem dX3_pushOnto_96 : decode cX3_pushOnto 96 = .ok (.laload, 1) := by decide +kernel
theorem dX3_pushOnto_97 : decode cX3_pushOnto 97 = .ok (.ladd, 1) := by decide +kernel
theorem dX3_pushOnto_98 : decode cX3_pushOnto 98 = .ok (.invokestatic 121, 3) := by decide +kernel
theorem dX3_pushOnto_101 : decode cX3_pushOnto 101 = .ok (.pop, 1) := by decide +kernel
theorem dX3_pushOnto_102 : decode cX3_pushOnto 102 = .ok (.iinc 2 1, 3) := by decide +kernel
theorem dX3_pushOnto_105 : decode cX3_pushOnto 105 = .ok (.goto (-103), 3) := by decide +kernel
theorem dX3_pushOnto_108 : decode cX3_pushOnto 108 = .ok (.return_, 1) := by decide +kernel
theorem dX3_costFrom_0 : decode cX3_costFrom 0 = .ok (.aload_n 0, 1) := by decide +kernel
theorem dX3_costFrom_1 : decode cX3_costFrom 1 = .ok (.iconst 0, 1) := by decide +kernel
theorem dX3_costFrom_2 : decode cX3_costFrom 2 = .ok (.putfield 17, 3) := by decide +kernel
theorem dX3_costFrom_5 : decode cX3_costFrom 5 = .ok (.aload_n 0, 1) := by decide +kernel
theorem dX3_costFrom_6 : decode cX3_costFrom 6 = .ok (.getfield 58, 3) := by decide +kernel
theorem dX3_costFrom_9 : decode cX3_costFrom 9 = .ok (.iconst 0, 1) := by decide +kernel
theorem dX3_costFrom_10 : decode cX3_costFrom 10 = .ok (.iconst 1, 1) := by decide +kernel
theorem dX3_costFrom_11 : decode cX3_costFrom 11 = .ok (.bastore, 1) := by decide +kernel
theorem dX3_costFrom_12 : decode cX3_costFrom 12 = .ok (.iconst 0, 1) := by decide +kernel
theorem dX3_costFrom_13 : decode cX3_costFrom 13 = .ok (.istore_n 3, 1) := by decide +kernel
theorem dX3_costFrom_14 : decode cX3_costFrom 14 = .ok (.iload_n 3, 1) := by decide +kernel
theorem dX3_costFrom_15 : decode cX3_costFrom 15 = .ok (.iconst 4, 1) := by decide +kernel
theorem dX3_costFrom_16 : decode cX3_costFrom 16 = .ok (.if_icmp .ge 37, 3) := by decide +kernel
theorem dX3_costFrom_19 : decode cX3_costFrom 19 = .ok (.aload_n 0, 1) := by decide +kernel
theorem dX3_costFrom_20 : decode cX3_costFrom 20 = .ok (.getfield 54, 3) := by decide +kernel
theorem dX3_costFrom_23 : decode cX3_costFrom 23 = .ok (.iload_n 3, 1) := by decide +kernel
theorem dX3_costFrom_24 : decode cX3_costFrom 24 = .ok (.aload_n 0, 1) := by decide +kernel
theorem dX3_costFrom_25 : decode cX3_costFrom 25 = .ok (.getfield 28, 3) := by decide +kernel
theorem dX3_costFrom_28 : decode cX3_costFrom 28 = .ok (.ifCond .ne 15, 3) := by decide +kernel
theorem dX3_costFrom_31 : decode cX3_costFrom 31 = .ok (.iload_n 3, 1) := by decide +kernel
theorem dX3_costFrom_32 : decode cX3_costFrom 32 = .ok (.aload_n 0, 1) := by decide +kernel
theorem dX3_costFrom_33 : decode cX3_costFrom 33 = .ok (.getfield 25, 3) := by decide +kernel
theorem dX3_costFrom_36 : decode cX3_costFrom 36 = .ok (.if_icmp .ne 7, 3) := by decide +kernel
theorem dX3_costFrom_39 : decode cX3_costFrom 39 = .ok (.lconst 0, 1) := by decide +kernel
theorem dX3_costFrom_40 : decode cX3_costFrom 40 = .ok (.goto 6, 3) := by decide +kernel
theorem dX3_costFrom_43 : decode cX3_costFrom 43 = .ok (.ldc2_w 9, 3) := by decide +kernel
theorem dX3_costFrom_46 : decode cX3_costFrom 46 = .ok (.lastore, 1) := by decide +kernel
theorem dX3_costFrom_47 : decode cX3_costFrom 47 = .ok (.iinc 3 1, 3) := by decide +kernel
theorem dX3_costFrom_50 : decode cX3_costFrom 50 = .ok (.goto (-36), 3) := by decide +kernel
theorem dX3_costFrom_53 : decode cX3_costFrom 53 = .ok (.aload_n 2, 1) := by decide +kernel
theorem dX3_costFrom_54 : decode cX3_costFrom 54 = .ok (.getfield 62, 3) := by decide +kernel
theorem dX3_costFrom_57 : decode cX3_costFrom 57 = .ok (.iconst 1, 1) := by decide +kernel
theorem dX3_costFrom_58 : decode cX3_costFrom 58 = .ok (.isub, 1) := by decide +kernel
theorem dX3_costFrom_59 : decode cX3_costFrom 59 = .ok (.istore_n 3, 1) := by decide +kernel
theorem dX3_costFrom_60 : decode cX3_costFrom 60 = .ok (.iload_n 3, 1) := by decide +kernel
theorem dX3_costFrom_61 : decode cX3_costFrom 61 = .ok (.ifCond .lt 19, 3) := by decide +kernel
theorem dX3_costFrom_64 : decode cX3_costFrom 64 = .ok (.aload_n 0, 1) := by decide +kernel
theorem dX3_costFrom_65 : decode cX3_costFrom 65 = .ok (.aload_n 2, 1) := by decide +kernel
theorem dX3_costFrom_66 : decode cX3_costFrom 66 = .ok (.getfield 67, 3) := by decide +kernel
theorem dX3_costFrom_69 : decode cX3_costFrom 69 = .ok (.iload_n 3, 1) := by decide +kernel
theorem dX3_costFrom_70 : decode cX3_costFrom 70 = .ok (.iaload, 1) := by decide +kernel
theorem dX3_costFrom_71 : decode cX3_costFrom 71 = .ok (.invokevirtual 125, 3) := by decide +kernel
theorem dX3_costFrom_74 : decode cX3_costFrom 74 = .ok (.iinc 3 (-1), 3) := by decide +kernel
theorem dX3_costFrom_77 : decode cX3_costFrom 77 = .ok (.goto (-17), 3) := by decide +kernel
theorem dX3_costFrom_80 : decode cX3_costFrom 80 = .ok (.aload_n 0, 1) := by decide +kernel
theorem dX3_costFrom_81 : decode cX3_costFrom 81 = .ok (.aload_n 0, 1) := by decide +kernel
theorem dX3_costFrom_82 : decode cX3_costFrom 82 = .ok (.getfield 54, 3) := by decide +kernel
theorem dX3_costFrom_85 : decode cX3_costFrom 85 = .ok (.aload_n 0, 1) := by decide +kernel
theorem dX3_costFrom_86 : decode cX3_costFrom 86 = .ok (.getfield 17, 3) := by decide +kernel
theorem dX3_costFrom_89 : decode cX3_costFrom 89 = .ok (.iconst 4, 1) := by decide +kernel
theorem dX3_costFrom_90 : decode cX3_costFrom 90 = .ok (.imul, 1) := by decide +kernel
theorem dX3_costFrom_91 : decode cX3_costFrom 91 = .ok (.iload_n 1, 1) := by decide +kernel
theorem dX3_costFrom_92 : decode cX3_costFrom 92 = .ok (.iadd, 1) := by decide +kernel
theorem dX3_costFrom_93 : decode cX3_costFrom 93 = .ok (.laload, 1) := by decide +kernel
theorem dX3_costFrom_94 : decode cX3_costFrom 94 = .ok (.putfield 11, 3) := by decide +kernel
theorem dX3_costFrom_97 : decode cX3_costFrom 97 = .ok (.aload_n 0, 1) := by decide +kernel
theorem dX3_costFrom_98 : decode cX3_costFrom 98 = .ok (.getfield 11, 3) := by decide +kernel
theorem dX3_costFrom_101 : decode cX3_costFrom 101 = .ok (.lreturn, 1) := by decide +kernel
theorem dX3_top_0 : decode cX3_top 0 = .ok (.aload_n 0, 1) := by decide +kernel
theorem dX3_top_1 : decode cX3_top 1 = .ok (.getfield 17, 3) := by decide +kernel
theorem dX3_top_4 : decode cX3_top 4 = .ok (.ifCond .ne 7, 3) := by decide +kernel
theorem dX3_top_7 : decode cX3_top 7 = .ok (.iconst 0, 1) := by decide +kernel
theorem dX3_top_8 : decode cX3_top 8 = .ok (.goto 14, 3) := by decide +kernel
theorem dX3_top_11 : decode cX3_top 11 = .ok (.aload_n 0, 1) := by decide +kernel
theorem dX3_top_12 : decode cX3_top 12 = .ok (.getfield 51, 3) := by decide +kernel
theorem dX3_top_15 : decode cX3_top 15 = .ok (.aload_n 0, 1) := by decide +kernel
theorem dX3_top_16 : decode cX3_top 16 = .ok (.getfield 17, 3) := by decide +kernel
theorem dX3_top_19 : decode cX3_top 19 = .ok (.iconst 1, 1) := by decide +kernel
theorem dX3_top_20 : decode cX3_top 20 = .ok (.isub, 1) := by decide +kernel
theorem dX3_top_21 : decode cX3_top 21 = .ok (.iaload, 1) := by decide +kernel
theorem dX3_top_22 : decode cX3_top 22 = .ok (.ireturn, 1) := by decide +kernel
theorem dX3_put_0 : decode cX3_put 0 = .ok (.aload_n 0, 1) := by decide +kernel
theorem dX3_put_1 : decode cX3_put 1 = .ok (.getfield 17, 3) := by decide +kernel
theorem dX3_put_4 : decode cX3_put 4 = .ok (.aload_n 0, 1) := by decide +kernel
theorem dX3_put_5 : decode cX3_put 5 = .ok (.getfield 48, 3) := by decide +kernel
theorem dX3_put_8 : decode cX3_put 8 = .ok (.if_icmp .lt 4, 3) := by decide +kernel
theorem dX3_put_11 : decode cX3_put 11 = .ok (.return_, 1) := by decide +kernel
theorem dX3_put_12 : decode cX3_put 12 = .ok (.iconst 0, 1) := by decide +kernel
theorem dX3_put_13 : decode cX3_put 13 = .ok (.istore_n 2, 1) := by decide +kernel
theorem dX3_put_14 : decode cX3_put 14 = .ok (.iload_n 2, 1) := by decide +kernel
theorem dX3_put_15 : decode cX3_put 15 = .ok (.aload_n 0, 1) := by decide +kernel
theorem dX3_put_16 : decode cX3_put 16 = .ok (.getfield 40, 3) := by decide +kernel
theorem dX3_put_19 : decode cX3_put 19 = .ok (.getfield 128, 3) := by decide +kernel
theorem dX3_put_22 : decode cX3_put 22 = .ok (.if_icmp .ge 30, 3) := by decide +kernel
theorem dX3_put_25 : decode cX3_put 25 = .ok (.aload_n 0, 1) := by decide +kernel
theorem dX3_put_26 : decode cX3_put 26 = .ok (.getfield 54, 3) := by decide +kernel
theorem dX3_put_29 : decode cX3_put 29 = .ok (.aload_n 0, 1) := by decide +kernel
theorem dX3_put_30 : decode cX3_put 30 = .ok (.getfield 17, 3) := by decide +kernel
theorem dX3_put_33 : decode cX3_put 33 = .ok (.iconst 1, 1) := by decide +kernel
theorem dX3_put_34 : decode cX3_put 34 = .ok (.iadd, 1) := by decide +kernel
theorem dX3_put_35 : decode cX3_put 35 = .ok (.iconst 4, 1) := by decide +kernel
theorem dX3_put_36 : decode cX3_put 36 = .ok (.imul, 1) := by decide +kernel
theorem dX3_put_37 : decode cX3_put 37 = .ok (.iload_n 2, 1) := by decide +kernel
theorem dX3_put_38 : decode cX3_put 38 = .ok (.iadd, 1) := by decide +kernel
theorem dX3_put_39 : decode cX3_put 39 = .ok (.aload_n 0, 1) := by decide +kernel
theorem dX3_put_40 : decode cX3_put 40 = .ok (.iload_n 2, 1) := by decide +kernel
theorem dX3_put_41 : decode cX3_put 41 = .ok (.iload_n 1, 1) := by decide +kernel
theorem dX3_put_42 : decode cX3_put 42 = .ok (.invokevirtual 131, 3) := by decide +kernel
theorem dX3_put_45 : decode cX3_put 45 = .ok (.lastore, 1) := by decide +kernel
theorem dX3_put_46 : decode cX3_put 46 = .ok (.iinc 2 1, 3) := by decide +kernel
theorem dX3_put_49 : decode cX3_put 49 = .ok (.goto (-35), 3) := by decide +kernel
theorem dX3_put_52 : decode cX3_put 52 = .ok (.aload_n 0, 1) := by decide +kernel
theorem dX3_put_53 : decode cX3_put 53 = .ok (.getfield 58, 3) := by decide +kernel
theorem dX3_put_56 : decode cX3_put 56 = .ok (.aload_n 0, 1) := by decide +kernel
theorem dX3_put_57 : decode cX3_put 57 = .ok (.getfield 17, 3) := by decide +kernel
theorem dX3_put_60 : decode cX3_put 60 = .ok (.iconst 1, 1) := by decide +kernel
theorem dX3_put_61 : decode cX3_put 61 = .ok (.iadd, 1) := by decide +kernel
theorem dX3_put_62 : decode cX3_put 62 = .ok (.aload_n 0, 1) := by decide +kernel
theorem dX3_put_63 : decode cX3_put 63 = .ok (.getfield 58, 3) := by decide +kernel
theorem dX3_put_66 : decode cX3_put 66 = .ok (.aload_n 0, 1) := by decide +kernel
theorem dX3_put_67 : decode cX3_put 67 = .ok (.getfield 17, 3) := by decide +kernel
theorem dX3_put_70 : decode cX3_put 70 = .ok (.baload, 1) := by decide +kernel
theorem dX3_put_71 : decode cX3_put 71 = .ok (.ifCond .eq 38, 3) := by decide +kernel
theorem dX3_put_74 : decode cX3_put 74 = .ok (.aload_n 0, 1) := by decide +kernel
theorem dX3_put_75 : decode cX3_put 75 = .ok (.getfield 17, 3) := by decide +kernel
theorem dX3_put_78 : decode cX3_put 78 = .ok (.aload_n 0, 1) := by decide +kernel
theorem dX3_put_79 : decode cX3_put 79 = .ok (.getfield 28, 3) := by decide +kernel
theorem dX3_put_82 : decode cX3_put 82 = .ok (.if_icmp .ge 27, 3) := by decide +kernel
theorem dX3_put_85 : decode cX3_put 85 = .ok (.aload_n 0, 1) := by decide +kernel
theorem dX3_put_86 : decode cX3_put 86 = .ok (.getfield 31, 3) := by decide +kernel
theorem dX3_put_89 : decode cX3_put 89 = .ok (.aload_n 0, 1) := by decide +kernel
theorem dX3_put_90 : decode cX3_put 90 = .ok (.getfield 28, 3) := by decide +kernel
theorem dX3_put_93 : decode cX3_put 93 = .ok (.iconst 1, 1) := by decide +kernel
theorem dX3_put_94 : decode cX3_put 94 = .ok (.isub, 1) := by decide +kernel
theorem dX3_put_95 : decode cX3_put 95 = .ok (.aload_n 0, 1) := by decide +kernel
theorem dX3_put_96 : decode cX3_put 96 = .ok (.getfield 17, 3) := by decide +kernel
theorem dX3_put_99 : decode cX3_put 99 = .ok (.isub, 1) := by decide +kernel
theorem dX3_put_100 : decode cX3_put 100 = .ok (.iaload, 1) := by decide +kernel
theorem dX3_put_101 : decode cX3_put 101 = .ok (.iload_n 1, 1) := by decide +kernel
theorem dX3_put_102 : decode cX3_put 102 = .ok (.if_icmp .ne 7, 3) := by decide +kernel
theorem dX3_put_105 : decode cX3_put 105 = .ok (.iconst 1, 1) := by decide +kernel
theorem dX3_put_106 : decode cX3_put 106 = .ok (.goto 4, 3) := by decide +kernel
theorem dX3_put_109 : decode cX3_put 109 = .ok (.iconst 0, 1) := by decide +kernel
theorem dX3_put_110 : decode cX3_put 110 = .ok (.bastore, 1) := by decide +kernel
theorem dX3_put_111 : decode cX3_put 111 = .ok (.aload_n 0, 1) := by decide +kernel
theorem dX3_put_112 : decode cX3_put 112 = .ok (.getfield 51, 3) := by decide +kernel
theorem dX3_put_115 : decode cX3_put 115 = .ok (.aload_n 0, 1) := by decide +kernel
theorem dX3_put_116 : decode cX3_put 116 = .ok (.getfield 17, 3) := by decide +kernel
theorem dX3_put_119 : decode cX3_put 119 = .ok (.iload_n 1, 1) := by decide +kernel
theorem dX3_put_120 : decode cX3_put 120 = .ok (.iastore, 1) := by decide +kernel
theorem dX3_put_121 : decode cX3_put 121 = .ok (.aload_n 0, 1) := by decide +kernel
theorem dX3_put_122 : decode cX3_put 122 = .ok (.dup, 1) := by decide +kernel
theorem dX3_put_123 : decode cX3_put 123 = .ok (.getfield 17, 3) := by decide +kernel
theorem dX3_put_126 : decode cX3_put 126 = .ok (.iconst 1, 1) := by decide +kernel
theorem dX3_put_127 : decode cX3_put 127 = .ok (.iadd, 1) := by decide +kernel
theorem dX3_put_128 : decode cX3_put 128 = .ok (.putfield 17, 3) := by decide +kernel
theorem dX3_put_131 : decode cX3_put 131 = .ok (.return_, 1) := by decide +kernel
theorem dX3_costWithTop_0 : decode cX3_costWithTop 0 = .ok (.iload_n 1, 1) := by decide +kernel
theorem dX3_costWithTop_1 : decode cX3_costWithTop 1 = .ok (.iload_n 2, 1) := by decide +kernel
theorem dX3_costWithTop_2 : decode cX3_costWithTop 2 = .ok (.invokestatic 86, 3) := by decide +kernel
theorem dX3_costWithTop_5 : decode cX3_costWithTop 5 = .ok (.istore_n 3, 1) := by decide +kernel
theorem dX3_costWithTop_6 : decode cX3_costWithTop 6 = .ok (.aload_n 0, 1) := by decide +kernel
theorem dX3_costWithTop_7 : decode cX3_costWithTop 7 = .ok (.getfield 58, 3) := by decide +kernel
theorem dX3_costWithTop_10 : decode cX3_costWithTop 10 = .ok (.aload_n 0, 1) := by decide +kernel
theorem dX3_costWithTop_11 : decode cX3_costWithTop 11 = .ok (.getfield 17, 3) := by decide +kernel
theorem dX3_costWithTop_14 : decode cX3_costWithTop 14 = .ok (.baload, 1) := by decide +kernel
theorem dX3_costWithTop_15 : decode cX3_costWithTop 15 = .ok (.ifCond .eq 18, 3) := by decide +kernel
theorem dX3_costWithTop_18 : decode cX3_costWithTop 18 = .ok (.aload_n 0, 1) := by decide +kernel
theorem dX3_costWithTop_19 : decode cX3_costWithTop 19 = .ok (.getfield 17, 3) := by decide +kernel
theorem dX3_costWithTop_22 : decode cX3_costWithTop 22 = .ok (.aload_n 0, 1) := by decide +kernel
theorem dX3_costWithTop_23 : decode cX3_costWithTop 23 = .ok (.getfield 28, 3) := by decide +kernel
theorem dX3_costWithTop_26 : decode cX3_costWithTop 26 = .ok (.if_icmp .ge 7, 3) := by decide +kernel
theorem dX3_costWithTop_29 : decode cX3_costWithTop 29 = .ok (.iconst 1, 1) := by decide +kernel
theorem dX3_costWithTop_30 : decode cX3_costWithTop 30 = .ok (.goto 4, 3) := by decide +kernel
theorem dX3_costWithTop_33 : decode cX3_costWithTop 33 = .ok (.iconst 0, 1) := by decide +kernel
theorem dX3_costWithTop_34 : decode cX3_costWithTop 34 = .ok (.istore 4, 2) := by decide +kernel
theorem dX3_costWithTop_36 : decode cX3_costWithTop 36 = .ok (.iload 4, 2) := by decide +kernel
theorem dX3_costWithTop_38 : decode cX3_costWithTop 38 = .ok (.ifCond .eq 24, 3) := by decide +kernel
theorem dX3_costWithTop_41 : decode cX3_costWithTop 41 = .ok (.aload_n 0, 1) := by decide +kernel
theorem dX3_costWithTop_42 : decode cX3_costWithTop 42 = .ok (.getfield 37, 3) := by decide +kernel
theorem dX3_costWithTop_45 : decode cX3_costWithTop 45 = .ok (.aload_n 0, 1) := by decide +kernel
theorem dX3_costWithTop_46 : decode cX3_costWithTop 46 = .ok (.getfield 28, 3) := by decide +kernel
theorem dX3_costWithTop_49 : decode cX3_costWithTop 49 = .ok (.iconst 1, 1) := by decide +kernel
theorem dX3_costWithTop_50 : decode cX3_costWithTop 50 = .ok (.isub, 1) := by decide +kernel
theorem dX3_costWithTop_51 : decode cX3_costWithTop 51 = .ok (.aload_n 0, 1) := by decide +kernel
theorem dX3_costWithTop_52 : decode cX3_costWithTop 52 = .ok (.getfield 17, 3) := by decide +kernel
theorem dX3_costWithTop_55 : decode cX3_costWithTop 55 = .ok (.isub, 1) := by decide +kernel
theorem dX3_costWithTop_56 : decode cX3_costWithTop 56 = .ok (.aaload, 1) := by decide +kernel
theorem dX3_costWithTop_57 : decode cX3_costWithTop 57 = .ok (.iload_n 3, 1) := by decide +kernel
theorem dX3_costWithTop_58 : decode cX3_costWithTop 58 = .ok (.laload, 1) := by decide +kernel
theorem dX3_costWithTop_59 : decode cX3_costWithTop 59 = .ok (.goto 6, 3) := by decide +kernel
theorem dX3_costWithTop_62 : decode cX3_costWithTop 62 = .ok (.ldc2_w 9, 3) := by decide +kernel
theorem dX3_costWithTop_65 : decode cX3_costWithTop 65 = .ok (.lstore 5, 2) := by decide +kernel
theorem dX3_costWithTop_67 : decode cX3_costWithTop 67 = .ok (.iconst 0, 1) := by decide +kernel
theorem dX3_costWithTop_68 : decode cX3_costWithTop 68 = .ok (.istore 7, 2) := by decide +kernel
theorem dX3_costWithTop_70 : decode cX3_costWithTop 70 = .ok (.iload 7, 2) := by decide +kernel
theorem dX3_costWithTop_72 : decode cX3_costWithTop 72 = .ok (.aload_n 0, 1) := by decide +kernel
theorem dX3_costWithTop_73 : decode cX3_costWithTop 73 = .ok (.getfield 40, 3) := by decide +kernel
theorem dX3_costWithTop_76 : decode cX3_costWithTop 76 = .ok (.getfield 128, 3) := by decide +kernel
theorem dX3_costWithTop_79 : decode cX3_costWithTop 79 = .ok (.if_icmp .ge 45, 3) := by decide +kernel
theorem dX3_costWithTop_82 : decode cX3_costWithTop 82 = .ok (.aload_n 0, 1) := by decide +kernel
theorem dX3_costWithTop_83 : decode cX3_costWithTop 83 = .ok (.getfield 44, 3) := by decide +kernel
theorem dX3_costWithTop_86 : decode cX3_costWithTop 86 = .ok (.iload_n 3, 1) := by decide +kernel
theorem dX3_costWithTop_87 : decode cX3_costWithTop 87 = .ok (.iload 7, 2) := by decide +kernel
theorem dX3_costWithTop_89 : decode cX3_costWithTop 89 = .ok (.invokevirtual 135, 3) := by decide +kernel
theorem dX3_costWithTop_92 : decode cX3_costWithTop 92 = .ok (.aload_n 0, 1) := by decide +kernel
theorem dX3_costWithTop_93 : decode cX3_costWithTop 93 = .ok (.getfield 54, 3) := by decide +kernel
theorem dX3_costWithTop_96 : decode cX3_costWithTop 96 = .ok (.aload_n 0, 1) := by decide +kernel
theorem dX3_costWithTop_97 : decode cX3_costWithTop 97 = .ok (.getfield 17, 3) := by decide +kernel
theorem dX3_costWithTop_100 : decode cX3_costWithTop 100 = .ok (.iconst 4, 1) := by decide +kernel
theorem dX3_costWithTop_101 : decode cX3_costWithTop 101 = .ok (.imul, 1) := by decide +kernel
theorem dX3_costWithTop_102 : decode cX3_costWithTop 102 = .ok (.iload 7, 2) := by decide +kernel
theorem dX3_costWithTop_104 : decode cX3_costWithTop 104 = .ok (.iadd, 1) := by decide +kernel
theorem dX3_costWithTop_105 : decode cX3_costWithTop 105 = .ok (.laload, 1) := by decide +kernel
theorem dX3_costWithTop_106 : decode cX3_costWithTop 106 = .ok (.ladd, 1) := by decide +kernel
theorem dX3_costWithTop_107 : decode cX3_costWithTop 107 = .ok (.lstore 8, 2) := by decide +kernel
theorem dX3_costWithTop_109 : decode cX3_costWithTop 109 = .ok (.lload 5, 2) := by decide +kernel
theorem dX3_costWithTop_111 : decode cX3_costWithTop 111 = .ok (.lload 8, 2) := by decide +kernel
theorem dX3_costWithTop_113 : decode cX3_costWithTop 113 = .ok (.invokestatic 138, 3) := by decide +kernel
theorem dX3_costWithTop_116 : decode cX3_costWithTop 116 = .ok (.lstore 5, 2) := by decide +kernel
theorem dX3_costWithTop_118 : decode cX3_costWithTop 118 = .ok (.iinc 7 1, 3) := by decide +kernel
theorem dX3_costWithTop_121 : decode cX3_costWithTop 121 = .ok (.goto (-51), 3) := by decide +kernel
theorem dX3_costWithTop_124 : decode cX3_costWithTop 124 = .ok (.lload 5, 2) := by decide +kernel
theorem dX3_costWithTop_126 : decode cX3_costWithTop 126 = .ok (.lreturn, 1) := by decide +kernel
theorem dX3_advance_0 : decode cX3_advance 0 = .ok (.aload_n 0, 1) := by decide +kernel
theorem dX3_advance_1 : decode cX3_advance 1 = .ok (.getfield 17, 3) := by decide +kernel
theorem dX3_advance_4 : decode cX3_advance 4 = .ok (.ifCond .ne 5, 3) := by decide +kernel
theorem dX3_advance_7 : decode cX3_advance 7 = .ok (.iconst (-1), 1) := by decide +kernel
theorem dX3_advance_8 : decode cX3_advance 8 = .ok (.ireturn, 1) := by decide +kernel
theorem dX3_advance_9 : decode cX3_advance 9 = .ok (.iload_n 1, 1) := by decide +kernel
theorem dX3_advance_10 : decode cX3_advance 10 = .ok (.aload_n 0, 1) := by decide +kernel
theorem dX3_advance_11 : decode cX3_advance 11 = .ok (.invokevirtual 141, 3) := by decide +kernel
theorem dX3_advance_14 : decode cX3_advance 14 = .ok (.invokestatic 86, 3) := by decide +kernel
theorem dX3_advance_17 : decode cX3_advance 17 = .ok (.istore 4, 2) := by decide +kernel
theorem dX3_advance_19 : decode cX3_advance 19 = .ok (.aload_n 0, 1) := by decide +kernel
theorem dX3_advance_20 : decode cX3_advance 20 = .ok (.dup, 1) := by decide +kernel
theorem dX3_advance_21 : decode cX3_advance 21 = .ok (.getfield 17, 3) := by decide +kernel
theorem dX3_advance_24 : decode cX3_advance 24 = .ok (.iconst 1, 1) := by decide +kernel
theorem dX3_advance_25 : decode cX3_advance 25 = .ok (.isub, 1) := by decide +kernel
theorem dX3_advance_26 : decode cX3_advance 26 = .ok (.putfield 17, 3) := by decide +kernel
theorem dX3_advance_29 : decode cX3_advance 29 = .ok (.iconst 0, 1) := by decide +kernel
theorem dX3_advance_30 : decode cX3_advance 30 = .ok (.istore 5, 2) := by decide +kernel
theorem dX3_advance_32 : decode cX3_advance 32 = .ok (.iload 5, 2) := by decide +kernel
theorem dX3_advance_34 : decode cX3_advance 34 = .ok (.aload_n 0, 1) := by decide +kernel
theorem dX3_advance_35 : decode cX3_advance 35 = .ok (.getfield 40, 3) := by decide +kernel
theorem dX3_advance_38 : decode cX3_advance 38 = .ok (.getfield 98, 3) := by decide +kernel
theorem dX3_advance_41 : decode cX3_advance 41 = .ok (.if_icmp .ge 55, 3) := by decide +kernel
theorem dX3_advance_44 : decode cX3_advance 44 = .ok (.aload_n 0, 1) := by decide +kernel
theorem dX3_advance_45 : decode cX3_advance 45 = .ok (.getfield 40, 3) := by decide +kernel
theorem dX3_advance_48 : decode cX3_advance 48 = .ok (.getfield 112, 3) := by decide +kernel
theorem dX3_advance_51 : decode cX3_advance 51 = .ok (.iload 5, 2) := by decide +kernel
theorem dX3_advance_53 : decode cX3_advance 53 = .ok (.iaload, 1) := by decide +kernel
theorem dX3_advance_54 : decode cX3_advance 54 = .ok (.iload 4, 2) := by decide +kernel
theorem dX3_advance_56 : decode cX3_advance 56 = .ok (.if_icmp .ne 34, 3) := by decide +kernel
theorem dX3_advance_59 : decode cX3_advance 59 = .ok (.aload_n 0, 1) := by decide +kernel
theorem dX3_advance_60 : decode cX3_advance 60 = .ok (.getfield 40, 3) := by decide +kernel
theorem dX3_advance_63 : decode cX3_advance 63 = .ok (.getfield 115, 3) := by decide +kernel
theorem dX3_advance_66 : decode cX3_advance 66 = .ok (.iload 5, 2) := by decide +kernel
theorem dX3_advance_68 : decode cX3_advance 68 = .ok (.laload, 1) := by decide +kernel
theorem dX3_advance_69 : decode cX3_advance 69 = .ok (.aload_n 0, 1) := by decide +kernel
theorem dX3_advance_70 : decode cX3_advance 70 = .ok (.iload 5, 2) := by decide +kernel
theorem dX3_advance_72 : decode cX3_advance 72 = .ok (.invokevirtual 145, 3) := by decide +kernel
theorem dX3_advance_75 : decode cX3_advance 75 = .ok (.ladd, 1) := by decide +kernel
theorem dX3_advance_76 : decode cX3_advance 76 = .ok (.lload_n 2, 1) := by decide +kernel
theorem dX3_advance_77 : decode cX3_advance 77 = .ok (.lcmp, 1) := by decide +kernel
theorem dX3_advance_78 : decode cX3_advance 78 = .ok (.ifCond .ne 12, 3) := by decide +kernel
theorem dX3_advance_81 : decode cX3_advance 81 = .ok (.aload_n 0, 1) := by decide +kernel
theorem dX3_advance_82 : decode cX3_advance 82 = .ok (.iload 5, 2) := by decide +kernel
theorem dX3_advance_84 : decode cX3_advance 84 = .ok (.invokevirtual 149, 3) := by decide +kernel
theorem dX3_advance_87 : decode cX3_advance 87 = .ok (.iload 5, 2) := by decide +kernel
theorem dX3_advance_89 : decode cX3_advance 89 = .ok (.ireturn, 1) := by decide +kernel
theorem dX3_advance_90 : decode cX3_advance 90 = .ok (.iinc 5 1, 3) := by decide +kernel
theorem dX3_advance_93 : decode cX3_advance 93 = .ok (.goto (-61), 3) := by decide +kernel
theorem dX3_advance_96 : decode cX3_advance 96 = .ok (.iconst (-1), 1) := by decide +kernel
theorem dX3_advance_97 : decode cX3_advance 97 = .ok (.ireturn, 1) := by decide +kernel
theorem dX3_costAfter_0 : decode cX3_costAfter 0 = .ok (.aload_n 0, 1) := by decide +kernel
theorem dX3_costAfter_1 : decode cX3_costAfter 1 = .ok (.getfield 40, 3) := by decide +kernel
theorem dX3_costAfter_4 : decode cX3_costAfter 4 = .ok (.getfield 152, 3) := by decide +kernel
theorem dX3_costAfter_7 : decode cX3_costAfter 7 = .ok (.iload_n 1, 1) := by decide +kernel
theorem dX3_costAfter_8 : decode cX3_costAfter 8 = .ok (.iaload, 1) := by decide +kernel
theorem dX3_costAfter_9 : decode cX3_costAfter 9 = .ok (.istore_n 2, 1) := by decide +kernel
theorem dX3_costAfter_10 : decode cX3_costAfter 10 = .ok (.aload_n 0, 1) := by decide +kernel
theorem dX3_costAfter_11 : decode cX3_costAfter 11 = .ok (.getfield 40, 3) := by decide +kernel
theorem dX3_costAfter_14 : decode cX3_costAfter 14 = .ok (.getfield 106, 3) := by decide +kernel
theorem dX3_costAfter_17 : decode cX3_costAfter 17 = .ok (.iload_n 1, 1) := by decide +kernel
theorem dX3_costAfter_18 : decode cX3_costAfter 18 = .ok (.iaload, 1) := by decide +kernel
theorem dX3_costAfter_19 : decode cX3_costAfter 19 = .ok (.ifCond .ne 17, 3) := by decide +kernel
theorem dX3_costAfter_22 : decode cX3_costAfter 22 = .ok (.aload_n 0, 1) := by decide +kernel
theorem dX3_costAfter_23 : decode cX3_costAfter 23 = .ok (.getfield 54, 3) := by decide +kernel
theorem dX3_costAfter_26 : decode cX3_costAfter 26 = .ok (.aload_n 0, 1) := by decide +kernel
theorem dX3_costAfter_27 : decode cX3_costAfter 27 = .ok (.getfield 17, 3) := by decide +kernel
theorem dX3_costAfter_30 : decode cX3_costAfter 30 = .ok (.iconst 4, 1) := by decide +kernel
theorem dX3_costAfter_31 : decode cX3_costAfter 31 = .ok (.imul, 1) := by decide +kernel
theorem dX3_costAfter_32 : decode cX3_costAfter 32 = .ok (.iload_n 2, 1) := by decide +kernel
theorem dX3_costAfter_33 : decode cX3_costAfter 33 = .ok (.iadd, 1) := by decide +kernel
theorem dX3_costAfter_34 : decode cX3_costAfter 34 = .ok (.laload, 1) := by decide +kernel
theorem dX3_costAfter_35 : decode cX3_costAfter 35 = .ok (.lreturn, 1) := by decide +kernel
theorem dX3_costAfter_36 : decode cX3_costAfter 36 = .ok (.aload_n 0, 1) := by decide +kernel
theorem dX3_costAfter_37 : decode cX3_costAfter 37 = .ok (.getfield 40, 3) := by decide +kernel
theorem dX3_costAfter_40 : decode cX3_costAfter 40 = .ok (.getfield 118, 3) := by decide +kernel
theorem dX3_costAfter_43 : decode cX3_costAfter 43 = .ok (.iload_n 1, 1) := by decide +kernel
theorem dX3_costAfter_44 : decode cX3_costAfter 44 = .ok (.iaload, 1) := by decide +kernel
theorem dX3_costAfter_45 : decode cX3_costAfter 45 = .ok (.iconst 5, 1) := by decide +kernel
theorem dX3_costAfter_46 : decode cX3_costAfter 46 = .ok (.irem, 1) := by decide +kernel
theorem dX3_costAfter_47 : decode cX3_costAfter 47 = .ok (.iconst 1, 1) := by decide +kernel
theorem dX3_costAfter_48 : decode cX3_costAfter 48 = .ok (.iadd, 1) := by decide +kernel
theorem dX3_costAfter_49 : decode cX3_costAfter 49 = .ok (.istore_n 3, 1) := by decide +kernel
theorem dX3_costAfter_50 : decode cX3_costAfter 50 = .ok (.aload_n 0, 1) := by decide +kernel
theorem dX3_costAfter_51 : decode cX3_costAfter 51 = .ok (.getfield 40, 3) := by decide +kernel
theorem dX3_costAfter_54 : decode cX3_costAfter 54 = .ok (.getfield 106, 3) := by decide +kernel
theorem dX3_costAfter_57 : decode cX3_costAfter 57 = .ok (.iload_n 1, 1) := by decide +kernel
theorem dX3_costAfter_58 : decode cX3_costAfter 58 = .ok (.iaload, 1) := by decide +kernel
theorem dX3_costAfter_59 : decode cX3_costAfter 59 = .ok (.iconst 1, 1) := by decide +kernel
theorem dX3_costAfter_60 : decode cX3_costAfter 60 = .ok (.if_icmp .ne 10, 3) := by decide +kernel
theorem dX3_costAfter_63 : decode cX3_costAfter 63 = .ok (.aload_n 0, 1) := by decide +kernel
theorem dX3_costAfter_64 : decode cX3_costAfter 64 = .ok (.iload_n 2, 1) := by decide +kernel
theorem dX3_costAfter_65 : decode cX3_costAfter 65 = .ok (.iload_n 3, 1) := by decide +kernel
theorem dX3_costAfter_66 : decode cX3_costAfter 66 = .ok (.invokevirtual 131, 3) := by decide +kernel
theorem dX3_costAfter_69 : decode cX3_costAfter 69 = .ok (.lreturn, 1) := by decide +kernel
theorem dX3_costAfter_70 : decode cX3_costAfter 70 = .ok (.aload_n 0, 1) := by decide +kernel
theorem dX3_costAfter_71 : decode cX3_costAfter 71 = .ok (.aload_n 0, 1) := by decide +kernel
theorem dX3_costAfter_72 : decode cX3_costAfter 72 = .ok (.getfield 40, 3) := by decide +kernel
theorem dX3_costAfter_75 : decode cX3_costAfter 75 = .ok (.getfield 109, 3) := by decide +kernel
theorem dX3_costAfter_78 : decode cX3_costAfter 78 = .ok (.iload_n 1, 1) := by decide +kernel
theorem dX3_costAfter_79 : decode cX3_costAfter 79 = .ok (.iaload, 1) := by decide +kernel
theorem dX3_costAfter_80 : decode cX3_costAfter 80 = .ok (.invokevirtual 125, 3) := by decide +kernel
theorem dX3_costAfter_83 : decode cX3_costAfter 83 = .ok (.aload_n 0, 1) := by decide +kernel
theorem dX3_costAfter_84 : decode cX3_costAfter 84 = .ok (.iload_n 2, 1) := by decide +kernel
theorem dX3_costAfter_85 : decode cX3_costAfter 85 = .ok (.iload_n 3, 1) := by decide +kernel
theorem dX3_costAfter_86 : decode cX3_costAfter 86 = .ok (.invokevirtual 131, 3) := by decide +kernel
theorem dX3_costAfter_89 : decode cX3_costAfter 89 = .ok (.lstore 4, 2) := by decide +kernel
theorem dX3_costAfter_91 : decode cX3_costAfter 91 = .ok (.aload_n 0, 1) := by decide +kernel
theorem dX3_costAfter_92 : decode cX3_costAfter 92 = .ok (.dup, 1) := by decide +kernel
theorem dX3_costAfter_93 : decode cX3_costAfter 93 = .ok (.getfield 17, 3) := by decide +kernel
theorem dX3_costAfter_96 : decode cX3_costAfter 96 = .ok (.iconst 1, 1) := by decide +kernel
theorem dX3_costAfter_97 : decode cX3_costAfter 97 = .ok (.isub, 1) := by decide +kernel
theorem dX3_costAfter_98 : decode cX3_costAfter 98 = .ok (.putfield 17, 3) := by decide +kernel
theorem dX3_costAfter_101 : decode cX3_costAfter 101 = .ok (.lload 4, 2) := by decide +kernel
theorem dX3_costAfter_103 : decode cX3_costAfter 103 = .ok (.lreturn, 1) := by decide +kernel
theorem dX3_apply_0 : decode cX3_apply 0 = .ok (.aload_n 0, 1) := by decide +kernel
theorem dX3_apply_1 : decode cX3_apply 1 = .ok (.getfield 40, 3) := by decide +kernel
theorem dX3_apply_4 : decode cX3_apply 4 = .ok (.getfield 106, 3) := by decide +kernel
theorem dX3_apply_7 : decode cX3_apply 7 = .ok (.iload_n 1, 1) := by decide +kernel
theorem dX3_apply_8 : decode cX3_apply 8 = .ok (.iaload, 1) := by decide +kernel
theorem dX3_apply_9 : decode cX3_apply 9 = .ok (.iconst 2, 1) := by decide +kernel
theorem dX3_apply_10 : decode cX3_apply 10 = .ok (.if_icmp .ne 16, 3) := by decide +kernel
theorem dX3_apply_13 : decode cX3_apply 13 = .ok (.aload_n 0, 1) := by decide +kernel
theorem dX3_apply_14 : decode cX3_apply 14 = .ok (.aload_n 0, 1) := by decide +kernel
theorem dX3_apply_15 : decode cX3_apply 15 = .ok (.getfield 40, 3) := by decide +kernel
theorem dX3_apply_18 : decode cX3_apply 18 = .ok (.getfield 109, 3) := by decide +kernel
theorem dX3_apply_21 : decode cX3_apply 21 = .ok (.iload_n 1, 1) := by decide +kernel
theorem dX3_apply_22 : decode cX3_apply 22 = .ok (.iaload, 1) := by decide +kernel
theorem dX3_apply_23 : decode cX3_apply 23 = .ok (.invokevirtual 125, 3) := by decide +kernel
theorem dX3_apply_26 : decode cX3_apply 26 = .ok (.aload_n 0, 1) := by decide +kernel
theorem dX3_apply_27 : decode cX3_apply 27 = .ok (.getfield 40, 3) := by decide +kernel
theorem dX3_apply_30 : decode cX3_apply 30 = .ok (.getfield 106, 3) := by decide +kernel
theorem dX3_apply_33 : decode cX3_apply 33 = .ok (.iload_n 1, 1) := by decide +kernel
theorem dX3_apply_34 : decode cX3_apply 34 = .ok (.iaload, 1) := by decide +kernel
theorem dX3_apply_35 : decode cX3_apply 35 = .ok (.ifCond .le 20, 3) := by decide +kernel
theorem dX3_apply_38 : decode cX3_apply 38 = .ok (.aload_n 0, 1) := by decide +kernel
theorem dX3_apply_39 : decode cX3_apply 39 = .ok (.aload_n 0, 1) := by decide +kernel
theorem dX3_apply_40 : decode cX3_apply 40 = .ok (.getfield 40, 3) := by decide +kernel
theorem dX3_apply_43 : decode cX3_apply 43 = .ok (.getfield 118, 3) := by decide +kernel
theorem dX3_apply_46 : decode cX3_apply 46 = .ok (.iload_n 1, 1) := by decide +kernel
theorem dX3_apply_47 : decode cX3_apply 47 = .ok (.iaload, 1) := by decide +kernel
theorem dX3_apply_48 : decode cX3_apply 48 = .ok (.iconst 5, 1) := by decide +kernel
theorem dX3_apply_49 : decode cX3_apply 49 = .ok (.irem, 1) := by decide +kernel
theorem dX3_apply_50 : decode cX3_apply 50 = .ok (.iconst 1, 1) := by decide +kernel
theorem dX3_apply_51 : decode cX3_apply 51 = .ok (.iadd, 1) := by decide +kernel
theorem dX3_apply_52 : decode cX3_apply 52 = .ok (.invokevirtual 125, 3) := by decide +kernel
theorem dX3_apply_55 : decode cX3_apply 55 = .ok (.return_, 1) := by decide +kernel
theorem dX4_init_0 : decode cX4_init 0 = .ok (.aload_n 0, 1) := by decide +kernel
theorem dX4_init_1 : decode cX4_init 1 = .ok (.invokespecial 3, 3) := by decide +kernel
theorem dX4_init_4 : decode cX4_init 4 = .ok (.aload_n 0, 1) := by decide +kernel
theorem dX4_init_5 : decode cX4_init 5 = .ok (.iconst 2, 1) := by decide +kernel
theorem dX4_init_6 : decode cX4_init 6 = .ok (.putfield 9, 3) := by decide +kernel
theorem dX4_init_9 : decode cX4_init 9 = .ok (.aload_n 0, 1) := by decide +kernel
theorem dX4_init_10 : decode cX4_init 10 = .ok (.iconst 3, 1) := by decide +kernel
theorem dX4_init_11 : decode cX4_init 11 = .ok (.putfield 15, 3) := by decide +kernel
theorem dX4_init_14 : decode cX4_init 14 = .ok (.aload_n 0, 1) := by decide +kernel
theorem dX4_init_15 : decode cX4_init 15 = .ok (.iconst 0, 1) := by decide +kernel
theorem dX4_init_16 : decode cX4_init 16 = .ok (.putfield 18, 3) := by decide +kernel
theorem dX4_init_19 : decode cX4_init 19 = .ok (.aload_n 0, 1) := by decide +kernel
theorem dX4_init_20 : decode cX4_init 20 = .ok (.iconst 1, 1) := by decide +kernel
theorem dX4_init_21 : decode cX4_init 21 = .ok (.putfield 21, 3) := by decide +kernel
theorem dX4_init_24 : decode cX4_init 24 = .ok (.aload_n 0, 1) := by decide +kernel
theorem dX4_init_25 : decode cX4_init 25 = .ok (.iconst 0, 1) := by decide +kernel
theorem dX4_init_26 : decode cX4_init 26 = .ok (.putfield 24, 3) := by decide +kernel
theorem dX4_init_29 : decode cX4_init 29 = .ok (.aload_n 0, 1) := by decide +kernel
theorem dX4_init_30 : decode cX4_init 30 = .ok (.bipush 100, 2) := by decide +kernel
theorem dX4_init_32 : decode cX4_init 32 = .ok (.newarray .int, 2) := by decide +kernel
theorem dX4_init_34 : decode cX4_init 34 = .ok (.putfield 27, 3) := by decide +kernel
theorem dX4_init_37 : decode cX4_init 37 = .ok (.return_, 1) := by decide +kernel
theorem dX4_reset_0 : decode cX4_reset 0 = .ok (.aload_n 0, 1) := by decide +kernel
theorem dX4_reset_1 : decode cX4_reset 1 = .ok (.iload_n 1, 1) := by decide +kernel
theorem dX4_reset_2 : decode cX4_reset 2 = .ok (.putfield 9, 3) := by decide +kernel
theorem dX4_reset_5 : decode cX4_reset 5 = .ok (.aload_n 0, 1) := by decide +kernel
theorem dX4_reset_6 : decode cX4_reset 6 = .ok (.iload_n 2, 1) := by decide +kernel
theorem dX4_reset_7 : decode cX4_reset 7 = .ok (.putfield 15, 3) := by decide +kernel
theorem dX4_reset_10 : decode cX4_reset 10 = .ok (.aload_n 0, 1) := by decide +kernel
theorem dX4_reset_11 : decode cX4_reset 11 = .ok (.iconst 0, 1) := by decide +kernel
theorem dX4_reset_12 : decode cX4_reset 12 = .ok (.putfield 18, 3) := by decide +kernel
theorem dX4_reset_15 : decode cX4_reset 15 = .ok (.aload_n 0, 1) := by decide +kernel
theorem dX4_reset_16 : decode cX4_reset 16 = .ok (.iconst 1, 1) := by decide +kernel
theorem dX4_reset_17 : decode cX4_reset 17 = .ok (.putfield 21, 3) := by decide +kernel
theorem dX4_reset_20 : decode cX4_reset 20 = .ok (.aload_n 0, 1) := by decide +kernel
theorem dX4_reset_21 : decode cX4_reset 21 = .ok (.iconst 0, 1) := by decide +kernel
theorem dX4_reset_22 : decode cX4_reset 22 = .ok (.putfield 24, 3) := by decide +kernel
theorem dX4_reset_25 : decode cX4_reset 25 = .ok (.return_, 1) := by decide +kernel
theorem dX4_copyFrom_0 : decode cX4_copyFrom 0 = .ok (.aload_n 0, 1) := by decide +kernel
theorem dX4_copyFrom_1 : decode cX4_copyFrom 1 = .ok (.aload_n 1, 1) := by decide +kernel
theorem dX4_copyFrom_2 : decode cX4_copyFrom 2 = .ok (.getfield 9, 3) := by decide +kernel
theorem dX4_copyFrom_5 : decode cX4_copyFrom 5 = .ok (.putfield 9, 3) := by decide +kernel
theorem dX4_copyFrom_8 : decode cX4_copyFrom 8 = .ok (.aload_n 0, 1) := by decide +kernel
theorem dX4_copyFrom_9 : decode cX4_copyFrom 9 = .ok (.aload_n 1, 1) := by decide +kernel
theorem dX4_copyFrom_10 : decode cX4_copyFrom 10 = .ok (.getfield 15, 3) := by decide +kernel
theorem dX4_copyFrom_13 : decode cX4_copyFrom 13 = .ok (.putfield 15, 3) := by decide +kernel
theorem dX4_copyFrom_16 : decode cX4_copyFrom 16 = .ok (.aload_n 0, 1) := by decide +kernel
theorem dX4_copyFrom_17 : decode cX4_copyFrom 17 = .ok (.aload_n 1, 1) := by decide +kernel
theorem dX4_copyFrom_18 : decode cX4_copyFrom 18 = .ok (.getfield 18, 3) := by decide +kernel
theorem dX4_copyFrom_21 : decode cX4_copyFrom 21 = .ok (.putfield 18, 3) := by decide +kernel
theorem dX4_copyFrom_24 : decode cX4_copyFrom 24 = .ok (.aload_n 0, 1) := by decide +kernel
theorem dX4_copyFrom_25 : decode cX4_copyFrom 25 = .ok (.aload_n 1, 1) := by decide +kernel
theorem dX4_copyFrom_26 : decode cX4_copyFrom 26 = .ok (.getfield 21, 3) := by decide +kernel
theorem dX4_copyFrom_29 : decode cX4_copyFrom 29 = .ok (.putfield 21, 3) := by decide +kernel
theorem dX4_copyFrom_32 : decode cX4_copyFrom 32 = .ok (.aload_n 0, 1) := by decide +kernel
theorem dX4_copyFrom_33 : decode cX4_copyFrom 33 = .ok (.aload_n 1, 1) := by decide +kernel
theorem dX4_copyFrom_34 : decode cX4_copyFrom 34 = .ok (.getfield 24, 3) := by decide +kernel
theorem dX4_copyFrom_37 : decode cX4_copyFrom 37 = .ok (.putfield 24, 3) := by decide +kernel
theorem dX4_copyFrom_40 : decode cX4_copyFrom 40 = .ok (.aload_n 1, 1) := by decide +kernel
theorem dX4_copyFrom_41 : decode cX4_copyFrom 41 = .ok (.getfield 27, 3) := by decide +kernel
theorem dX4_copyFrom_44 : decode cX4_copyFrom 44 = .ok (.iconst 0, 1) := by decide +kernel
theorem dX4_copyFrom_45 : decode cX4_copyFrom 45 = .ok (.aload_n 0, 1) := by decide +kernel
theorem dX4_copyFrom_46 : decode cX4_copyFrom 46 = .ok (.getfield 27, 3) := by decide +kernel
theorem dX4_copyFrom_49 : decode cX4_copyFrom 49 = .ok (.iconst 0, 1) := by decide +kernel
theorem dX4_copyFrom_50 : decode cX4_copyFrom 50 = .ok (.aload_n 0, 1) := by decide +kernel
theorem dX4_copyFrom_51 : decode cX4_copyFrom 51 = .ok (.getfield 27, 3) := by decide +kernel
theorem dX4_copyFrom_54 : decode cX4_copyFrom 54 = .ok (.arraylength, 1) := by decide +kernel
theorem dX4_copyFrom_55 : decode cX4_copyFrom 55 = .ok (.invokestatic 31, 3) := by decide +kernel
theorem dX4_copyFrom_58 : decode cX4_copyFrom 58 = .ok (.return_, 1) := by decide +kernel
theorem dX4_part_0 : decode cX4_part 0 = .ok (.aload_n 0, 1) := by decide +kernel
theorem dX4_part_1 : decode cX4_part 1 = .ok (.getfield 27, 3) := by decide +kernel
theorem dX4_part_4 : decode cX4_part 4 = .ok (.iload_n 1, 1) := by decide +kernel
theorem dX4_part_5 : decode cX4_part 5 = .ok (.iconst 5, 1) := by decide +kernel
theorem dX4_part_6 : decode cX4_part 6 = .ok (.imul, 1) := by decide +kernel
theorem dX4_part_7 : decode cX4_part 7 = .ok (.iload_n 2, 1) := by decide +kernel
theorem dX4_part_8 : decode cX4_part 8 = .ok (.iadd, 1) := by decide +kernel
theorem dX4_part_9 : decode cX4_part 9 = .ok (.iaload, 1) := by decide +kernel
theorem dX4_part_10 : decode cX4_part 10 = .ok (.ireturn, 1) := by decide +kernel
theorem dX4_putWeight_0 : decode cX4_putWeight 0 = .ok (.aload_n 0, 1) := by decide +kernel
theorem dX4_putWeight_1 : decode cX4_putWeight 1 = .ok (.getfield 27, 3) := by decide +kernel
theorem dX4_putWeight_4 : decode cX4_putWeight 4 = .ok (.iload_n 1, 1) := by decide +kernel
theorem dX4_putWeight_5 : decode cX4_putWeight 5 = .ok (.iconst 5, 1) := by decide +kernel
theorem dX4_putWeight_6 : decode cX4_putWeight 6 = .ok (.imul, 1) := by decide +kernel
theorem dX4_putWeight_7 : decode cX4_putWeight 7 = .ok (.iconst 4, 1) := by decide +kernel
theorem dX4_putWeight_8 : decode cX4_putWeight 8 = .ok (.iadd, 1) := by decide +kernel
theorem dX4_putWeight_9 : decode cX4_putWeight 9 = .ok (.iload_n 2, 1) := by decide +kernel
theorem dX4_putWeight_10 : decode cX4_putWeight 10 = .ok (.iastore, 1) := by decide +kernel
theorem dX4_putWeight_11 : decode cX4_putWeight 11 = .ok (.return_, 1) := by decide +kernel
theorem dX4_holds_0 : decode cX4_holds 0 = .ok (.iconst 0, 1) := by decide +kernel
theorem dX4_holds_1 : decode cX4_holds 1 = .ok (.istore 5, 2) := by decide +kernel
theorem dX4_holds_3 : decode cX4_holds 3 = .ok (.iload 5, 2) := by decide +kernel
theorem dX4_holds_5 : decode cX4_holds 5 = .ok (.aload_n 0, 1) := by decide +kernel
theorem dX4_holds_6 : decode cX4_holds 6 = .ok (.getfield 24, 3) := by decide +kernel
theorem dX4_holds_9 : decode cX4_holds 9 = .ok (.if_icmp .ge 56, 3) := by decide +kernel
theorem dX4_holds_12 : decode cX4_holds 12 = .ok (.aload_n 0, 1) := by decide +kernel
theorem dX4_holds_13 : decode cX4_holds 13 = .ok (.iload 5, 2) := by decide +kernel
theorem dX4_holds_15 : decode cX4_holds 15 = .ok (.iconst 0, 1) := by decide +kernel
theorem dX4_holds_16 : decode cX4_holds 16 = .ok (.invokevirtual 37, 3) := by decide +kernel
theorem dX4_holds_19 : decode cX4_holds 19 = .ok (.iload_n 1, 1) := by decide +kernel
theorem dX4_holds_20 : decode cX4_holds 20 = .ok (.if_icmp .ne 39, 3) := by decide +kernel
theorem dX4_holds_23 : decode cX4_holds 23 = .ok (.aload_n 0, 1) := by decide +kernel
theorem dX4_holds_24 : decode cX4_holds 24 = .ok (.iload 5, 2) := by decide +kernel
theorem dX4_holds_26 : decode cX4_holds 26 = .ok (.iconst 1, 1) := by decide +kernel
theorem dX4_holds_27 : decode cX4_holds 27 = .ok (.invokevirtual 37, 3) := by decide +kernel
theorem dX4_holds_30 : decode cX4_holds 30 = .ok (.iload_n 2, 1) := by decide +kernel
theorem dX4_holds_31 : decode cX4_holds 31 = .ok (.if_icmp .ne 28, 3) := by decide +kernel
theorem dX4_holds_34 : decode cX4_holds 34 = .ok (.aload_n 0, 1) := by decide +kernel
theorem dX4_holds_35 : decode cX4_holds 35 = .ok (.iload 5, 2) := by decide +kernel
theorem dX4_holds_37 : decode cX4_holds 37 = .ok (.iconst 2, 1) := by decide +kernel
theorem dX4_holds_38 : decode cX4_holds 38 = .ok (.invokevirtual 37, 3) := by decide +kernel
theorem dX4_holds_41 : decode cX4_holds 41 = .ok (.iload_n 3, 1) := by decide +kernel
theorem dX4_holds_42 : decode cX4_holds 42 = .ok (.if_icmp .ne 17, 3) := by decide +kernel
theorem dX4_holds_45 : decode cX4_holds 45 = .ok (.aload_n 0, 1) := by decide +kernel
theorem dX4_holds_46 : decode cX4_holds 46 = .ok (.iload 5, 2) := by decide +kernel
theorem dX4_holds_48 : decode cX4_holds 48 = .ok (.iconst 3, 1) := by decide +kernel
theorem dX4_holds_49 : decode cX4_holds 49 = .ok (.invokevirtual 37, 3) := by decide +kernel
theorem dX4_holds_52 : decode cX4_holds 52 = .ok (.iload 4, 2) := by decide +kernel
theorem dX4_holds_54 : decode cX4_holds 54 = .ok (.if_icmp .ne 5, 3) := by decide +kernel
theorem dX4_holds_57 : decode cX4_holds 57 = .ok (.iconst 1, 1) := by decide +kernel
theorem dX4_holds_58 : decode cX4_holds 58 = .ok (.ireturn, 1) := by decide +kernel
theorem dX4_holds_59 : decode cX4_holds 59 = .ok (.iinc 5 1, 3) := by decide +kernel
theorem dX4_holds_62 : decode cX4_holds 62 = .ok (.goto (-59), 3) := by decide +kernel
theorem dX4_holds_65 : decode cX4_holds 65 = .ok (.iconst 0, 1) := by decide +kernel
theorem dX4_holds_66 : decode cX4_holds 66 = .ok (.ireturn, 1) := by decide +kernel
theorem dX4_append_0 : decode cX4_append 0 = .ok (.aload_n 0, 1) := by decide +kernel
theorem dX4_append_1 : decode cX4_append 1 = .ok (.getfield 24, 3) := by decide +kernel
theorem dX4_append_4 : decode cX4_append 4 = .ok (.bipush 20, 2) := by decide +kernel
theorem dX4_append_6 : decode cX4_append 6 = .ok (.if_icmp .lt 4, 3) := by decide +kernel
theorem dX4_append_9 : decode cX4_append 9 = .ok (.return_, 1) := by decide +kernel
theorem dX4_append_10 : decode cX4_append 10 = .ok (.aload_n 0, 1) := by decide +kernel
theorem dX4_append_11 : decode cX4_append 11 = .ok (.getfield 24, 3) := by decide +kernel
theorem dX4_append_14 : decode cX4_append 14 = .ok (.iconst 5, 1) := by decide +kernel
theorem dX4_append_15 : decode cX4_append 15 = .ok (.imul, 1) := by decide +kernel
theorem dX4_append_16 : decode cX4_append 16 = .ok (.istore 6, 2) := by decide +kernel
theorem dX4_append_18 : decode cX4_append 18 = .ok (.aload_n 0, 1) := by decide +kernel
theorem dX4_append_19 : decode cX4_append 19 = .ok (.getfield 27, 3) := by decide +kernel
theorem dX4_append_22 : decode cX4_append 22 = .ok (.iload 6, 2) := by decide +kernel
theorem dX4_append_24 : decode cX4_append 24 = .ok (.iconst 0, 1) := by decide +kernel
theorem dX4_append_25 : decode cX4_append 25 = .ok (.iadd, 1) := by decide +kernel
theorem dX4_append_26 : decode cX4_append 26 = .ok (.iload_n 1, 1) := by decide +kernel
theorem dX4_append_27 : decode cX4_append 27 = .ok (.iastore, 1) := by decide +kernel
theorem dX4_append_28 : decode cX4_append 28 = .ok (.aload_n 0, 1) := by decide +kernel
theorem dX4_append_29 : decode cX4_append 29 = .ok (.getfield 27, 3) := by decide +kernel
theorem dX4_append_32 : decode cX4_append 32 = .ok (.iload 6, 2) := by decide +kernel
theorem dX4_append_34 : decode cX4_append 34 = .ok (.iconst 1, 1) := by decide +kernel
theorem dX4_append_35 : decode cX4_append 35 = .ok (.iadd, 1) := by decide +kernel
theorem dX4_append_36 : decode cX4_append 36 = .ok (.iload_n 2, 1) := by decide +kernel
theorem dX4_append_37 : decode cX4_append 37 = .ok (.iastore, 1) := by decide +kernel
theorem dX4_append_38 : decode cX4_append 38 = .ok (.aload_n 0, 1) := by decide +kernel
theorem dX4_append_39 : decode cX4_append 39 = .ok (.getfield 27, 3) := by decide +kernel
theorem dX4_append_42 : decode cX4_append 42 = .ok (.iload 6, 2) := by decide +kernel
theorem dX4_append_44 : decode cX4_append 44 = .ok (.iconst 2, 1) := by decide +kernel
theorem dX4_append_45 : decode cX4_append 45 = .ok (.iadd, 1) := by decide +kernel
theorem dX4_append_46 : decode cX4_append 46 = .ok (.iload_n 3, 1) := by decide +kernel
theorem dX4_append_47 : decode cX4_append 47 = .ok (.iastore, 1) := by decide +kernel
theorem dX4_append_48 : decode cX4_append 48 = .ok (.aload_n 0, 1) := by decide +kernel
theorem dX4_append_49 : decode cX4_append 49 = .ok (.getfield 27, 3) := by decide +kernel
theorem dX4_append_52 : decode cX4_append 52 = .ok (.iload 6, 2) := by decide +kernel
theorem dX4_append_54 : decode cX4_append 54 = .ok (.iconst 3, 1) := by decide +kernel
theorem dX4_append_55 : decode cX4_append 55 = .ok (.iadd, 1) := by decide +kernel
theorem dX4_append_56 : decode cX4_append 56 = .ok (.iload 4, 2) := by decide +kernel
theorem dX4_append_58 : decode cX4_append 58 = .ok (.iastore, 1) := by decide +kernel
theorem dX4_append_59 : decode cX4_append 59 = .ok (.aload_n 0, 1) := by decide +kernel
theorem dX4_append_60 : decode cX4_append 60 = .ok (.getfield 27, 3) := by decide +kernel
theorem dX4_append_63 : decode cX4_append 63 = .ok (.iload 6, 2) := by decide +kernel
theorem dX4_append_65 : decode cX4_append 65 = .ok (.iconst 4, 1) := by decide +kernel
theorem dX4_append_66 : decode cX4_append 66 = .ok (.iadd, 1) := by decide +kernel
theorem dX4_append_67 : decode cX4_append 67 = .ok (.iload 5, 2) := by decide +kernel
theorem dX4_append_69 : decode cX4_append 69 = .ok (.iastore, 1) := by decide +kernel
theorem dX4_append_70 : decode cX4_append 70 = .ok (.aload_n 0, 1) := by decide +kernel
theorem dX4_append_71 : decode cX4_append 71 = .ok (.dup, 1) := by decide +kernel
theorem dX4_append_72 : decode cX4_append 72 = .ok (.getfield 24, 3) := by decide +kernel
theorem dX4_append_75 : decode cX4_append 75 = .ok (.iconst 1, 1) := by decide +kernel
theorem dX4_append_76 : decode cX4_append 76 = .ok (.iadd, 1) := by decide +kernel
theorem dX4_append_77 : decode cX4_append 77 = .ok (.putfield 24, 3) := by decide +kernel
theorem dX4_append_80 : decode cX4_append 80 = .ok (.return_, 1) := by decide +kernel
theorem dX4_leaveOut_0 : decode cX4_leaveOut 0 = .ok (.iload_n 1, 1) := by decide +kernel
theorem dX4_leaveOut_1 : decode cX4_leaveOut 1 = .ok (.iconst 5, 1) := by decide +kernel
theorem dX4_leaveOut_2 : decode cX4_leaveOut 2 = .ok (.imul, 1) := by decide +kernel
theorem dX4_leaveOut_3 : decode cX4_leaveOut 3 = .ok (.istore_n 2, 1) := by decide +kernel
theorem dX4_leaveOut_4 : decode cX4_leaveOut 4 = .ok (.aload_n 0, 1) := by decide +kernel
theorem dX4_leaveOut_5 : decode cX4_leaveOut 5 = .ok (.getfield 27, 3) := by decide +kernel
theorem dX4_leaveOut_8 : decode cX4_leaveOut 8 = .ok (.iload_n 2, 1) := by decide +kernel
theorem dX4_leaveOut_9 : decode cX4_leaveOut 9 = .ok (.iconst 5, 1) := by decide +kernel
theorem dX4_leaveOut_10 : decode cX4_leaveOut 10 = .ok (.iadd, 1) := by decide +kernel
theorem dX4_leaveOut_11 : decode cX4_leaveOut 11 = .ok (.aload_n 0, 1) := by decide +kernel
theorem dX4_leaveOut_12 : decode cX4_leaveOut 12 = .ok (.getfield 27, 3) := by decide +kernel
theorem dX4_leaveOut_15 : decode cX4_leaveOut 15 = .ok (.iload_n 2, 1) := by decide +kernel
theorem dX4_leaveOut_16 : decode cX4_leaveOut 16 = .ok (.aload_n 0, 1) := by decide +kernel
theorem dX4_leaveOut_17 : decode cX4_leaveOut 17 = .ok (.getfield 24, 3) := by decide +kernel
theorem dX4_leaveOut_20 : decode cX4_leaveOut 20 = .ok (.iload_n 1, 1) := by decide +kernel
theorem dX4_leaveOut_21 : decode cX4_leaveOut 21 = .ok (.isub, 1) := by decide +kernel
theorem dX4_leaveOut_22 : decode cX4_leaveOut 22 = .ok (.iconst 1, 1) := by decide +kernel
theorem dX4_leaveOut_23 : decode cX4_leaveOut 23 = .ok (.isub, 1) := by decide +kernel
theorem dX4_leaveOut_24 : decode cX4_leaveOut 24 = .ok (.iconst 5, 1) := by decide +kernel
theorem dX4_leaveOut_25 : decode cX4_leaveOut 25 = .ok (.imul, 1) := by decide +kernel
theorem dX4_leaveOut_26 : decode cX4_leaveOut 26 = .ok (.invokestatic 31, 3) := by decide +kernel
theorem dX4_leaveOut_29 : decode cX4_leaveOut 29 = .ok (.aload_n 0, 1) := by decide +kernel
theorem dX4_leaveOut_30 : decode cX4_leaveOut 30 = .ok (.dup, 1) := by decide +kernel
theorem dX4_leaveOut_31 : decode cX4_leaveOut 31 = .ok (.getfield 24, 3) := by decide +kernel
theorem dX4_leaveOut_34 : decode cX4_leaveOut 34 = .ok (.iconst 1, 1) := by decide +kernel
theorem dX4_leaveOut_35 : decode cX4_leaveOut 35 = .ok (.isub, 1) := by decide +kernel
theorem dX4_leaveOut_36 : decode cX4_leaveOut 36 = .ok (.putfield 24, 3) := by decide +kernel
theorem dX4_leaveOut_39 : decode cX4_leaveOut 39 = .ok (.return_, 1) := by decide +kernel
theorem dX4_rulesWithWordOf_0 : decode cX4_rulesWithWordOf 0 = .ok (.iconst 0, 1) := by decide +kernel
theorem dX4_rulesWithWordOf_1 : decode cX4_rulesWithWordOf 1 = .ok (.istore_n 2, 1) := by decide +kernel
theorem dX4_rulesWithWordOf_2 : decode cX4_rulesWithWordOf 2 = .ok (.iconst 0, 1) := by decide +kernel
theorem dX4_rulesWithWordOf_3 : decode cX4_rulesWithWordOf 3 = .ok (.istore_n 3, 1) := by decide +kernel
theorem dX4_rulesWithWordOf_4 : decode cX4_rulesWithWordOf 4 = .ok (.iload_n 3, 1) := by decide +kernel
theorem dX4_rulesWithWordOf_5 : decode cX4_rulesWithWordOf 5 = .ok (.aload_n 0, 1) := by decide +kernel
theorem dX4_rulesWithWordOf_6 : decode cX4_rulesWithWordOf 6 = .ok (.getfield 24, 3) := by decide +kernel
theorem dX4_rulesWithWordOf_9 : decode cX4_rulesWithWordOf 9 = .ok (.if_icmp .ge 25, 3) := by decide +kernel
theorem dX4_rulesWithWordOf_12 : decode cX4_rulesWithWordOf 12 = .ok (.aload_n 0, 1) := by decide +kernel
theorem dX4_rulesWithWordOf_13 : decode cX4_rulesWithWordOf 13 = .ok (.iload_n 3, 1) := by decide +kernel
theorem dX4_rulesWithWordOf_14 : decode cX4_rulesWithWordOf 14 = .ok (.iconst 3, 1) := by decide +kernel
theorem dX4_rulesWithWordOf_15 : decode cX4_rulesWithWordOf 15 = .ok (.invokevirtual 37, 3) := by decide +kernel
theorem dX4_rulesWithWordOf_18 : decode cX4_rulesWithWordOf 18 = .ok (.invokestatic 41, 3) := by decide +kernel
theorem dX4_rulesWithWordOf_21 : decode cX4_rulesWithWordOf 21 = .ok (.iload_n 1, 1) := by decide +kernel
theorem dX4_rulesWithWordOf_22 : decode cX4_rulesWithWordOf 22 = .ok (.if_icmp .ne 6, 3) := by decide +kernel
theorem dX4_rulesWithWordOf_25 : decode cX4_rulesWithWordOf 25 = .ok (.iinc 2 1, 3) := by decide +kernel
theorem dX4_rulesWithWordOf_28 : decode cX4_rulesWithWordOf 28 = .ok (.iinc 3 1, 3) := by decide +kernel
theorem dX4_rulesWithWordOf_31 : decode cX4_rulesWithWordOf 31 = .ok (.goto (-27), 3) := by decide +kernel
theorem dX4_rulesWithWordOf_34 : decode cX4_rulesWithWordOf 34 = .ok (.iload_n 2, 1) := by decide +kernel
theorem dX4_rulesWithWordOf_35 : decode cX4_rulesWithWordOf 35 = .ok (.ireturn, 1) := by decide +kernel
theorem dX5_init_0 : decode cX5_init 0 = .ok (.aload_n 0, 1) := by decide +kernel
theorem dX5_init_1 : decode cX5_init 1 = .ok (.invokespecial 3, 3) := by decide +kernel
theorem dX5_init_4 : decode cX5_init 4 = .ok (.aload_n 0, 1) := by decide +kernel
theorem dX5_init_5 : decode cX5_init 5 = .ok (.bipush (-6), 2) := by decide +kernel
theorem dX5_init_7 : decode cX5_init 7 = .ok (.putfield 9, 3) := by decide +kernel
theorem dX5_init_10 : decode cX5_init 10 = .ok (.aload_n 0, 1) := by decide +kernel
theorem dX5_init_11 : decode cX5_init 11 = .ok (.bipush 80, 2) := by decide +kernel
theorem dX5_init_13 : decode cX5_init 13 = .ok (.newarray .long, 2) := by decide +kernel
theorem dX5_init_15 : decode cX5_init 15 = .ok (.putfield 15, 3) := by decide +kernel
theorem dX5_init_18 : decode cX5_init 18 = .ok (.aload_n 0, 1) := by decide +kernel
theorem dX5_init_19 : decode cX5_init 19 = .ok (.aload_n 1, 1) := by decide +kernel
theorem dX5_init_20 : decode cX5_init 20 = .ok (.putfield 19, 3) := by decide +kernel
theorem dX5_init_23 : decode cX5_init 23 = .ok (.return_, 1) := by decide +kernel
theorem dX5_costOfRemoving_0 : decode cX5_costOfRemoving 0 = .ok (.aload_n 0, 1) := by decide +kernel
theorem dX5_costOfRemoving_1 : decode cX5_costOfRemoving 1 = .ok (.getfield 15, 3) := by decide +kernel
theorem dX5_costOfRemoving_4 : decode cX5_costOfRemoving 4 = .ok (.iload_n 1, 1) := by decide +kernel
theorem dX5_costOfRemoving_5 : decode cX5_costOfRemoving 5 = .ok (.iconst 4, 1) := by decide +kernel
theorem dX5_costOfRemoving_6 : decode cX5_costOfRemoving 6 = .ok (.imul, 1) := by decide +kernel
theorem dX5_costOfRemoving_7 : decode cX5_costOfRemoving 7 = .ok (.iload_n 2, 1) := by decide +kernel
theorem dX5_costOfRemoving_8 : decode cX5_costOfRemoving 8 = .ok (.iadd, 1) := by decide +kernel
theorem dX5_costOfRemoving_9 : decode cX5_costOfRemoving 9 = .ok (.laload, 1) := by decide +kernel
theorem dX5_costOfRemoving_10 : decode cX5_costOfRemoving 10 = .ok (.lreturn, 1) := by decide +kernel
theorem dX5_compute_0 : decode cX5_compute 0 = .ok (.aload_n 0, 1) := by decide +kernel
theorem dX5_compute_1 : decode cX5_compute 1 = .ok (.iload_n 1, 1) := by decide +kernel
theorem dX5_compute_2 : decode cX5_compute 2 = .ok (.putfield 9, 3) := by decide +kernel
theorem dX5_compute_5 : decode cX5_compute 5 = .ok (.aload_n 0, 1) := by decide +kernel
theorem dX5_compute_6 : decode cX5_compute 6 = .ok (.getfield 15, 3) := by decide +kernel
theorem dX5_compute_9 : decode cX5_compute 9 = .ok (.ldc2_w 23, 3) := by decide +kernel
theorem dX5_compute_12 : decode cX5_compute 12 = .ok (.invokestatic 25, 3) := by decide +kernel
theorem dX5_compute_15 : decode cX5_compute 15 = .ok (.iconst 1, 1) := by decide +kernel
theorem dX5_compute_16 : decode cX5_compute 16 = .ok (.istore_n 2, 1) := by decide +kernel
theorem dX5_compute_17 : decode cX5_compute 17 = .ok (.iconst 0, 1) := by decide +kernel
theorem dX5_compute_18 : decode cX5_compute 18 = .ok (.istore_n 3, 1) := by decide +kernel
theorem dX5_compute_19 : decode cX5_compute 19 = .ok (.iload_n 2, 1) := by decide +kernel
theorem dX5_compute_20 : decode cX5_compute 20 = .ok (.ifCond .eq 58, 3) := by decide +kernel
theorem dX5_compute_23 : decode cX5_compute 23 = .ok (.iload_n 3, 1) := by decide +kernel
theorem dX5_compute_24 : decode cX5_compute 24 = .ok (.bipush 80, 2) := by decide +kernel
theorem dX5_compute_26 : decode cX5_compute 26 = .ok (.if_icmp .gt 52, 3) := by decide +kernel
theorem dX5_compute_29 : decode cX5_compute 29 = .ok (.iconst 0, 1) := by decide +kernel
theorem dX5_compute_30 : decode cX5_compute 30 = .ok (.istore_n 2, 1) := by decide +kernel
theorem dX5_compute_31 : decode cX5_compute 31 = .ok (.iconst 0, 1) := by decide +kernel
theorem dX5_compute_32 : decode cX5_compute 32 = .ok (.istore 4, 2) := by decide +kernel
theorem dX5_compute_34 : decode cX5_compute 34 = .ok (.iload 4, 2) := by decide +kernel
theorem dX5_compute_36 : decode cX5_compute 36 = .ok (.aload_n 0, 1) := by decide +kernel
theorem dX5_compute_37 : decode cX5_compute 37 = .ok (.getfield 19, 3) := by decide +kernel
theorem dX5_compute_40 : decode cX5_compute 40 = .ok (.getfield 31, 3) := by decide +kernel
theorem dX5_compute_43 : decode cX5_compute 43 = .ok (.if_icmp .ge 29, 3) := by decide +kernel
theorem dX5_compute_46 : decode cX5_compute 46 = .ok (.iload 4, 2) := by decide +kernel
theorem dX5_compute_48 : decode cX5_compute 48 = .ok (.aload_n 0, 1) := by decide +kernel
theorem dX5_compute_49 : decode cX5_compute 49 = .ok (.getfield 9, 3) := by decide +kernel
theorem dX5_compute_52 : decode cX5_compute 52 = .ok (.if_icmp .eq 14, 3) := by decide +kernel
theorem dX5_compute_55 : decode cX5_compute 55 = .ok (.aload_n 0, 1) := by decide +kernel
theorem dX5_compute_56 : decode cX5_compute 56 = .ok (.iload 4, 2) := by decide +kernel
theorem dX5_compute_58 : decode cX5_compute 58 = .ok (.invokevirtual 36, 3) := by decide +kernel
theorem dX5_compute_61 : decode cX5_compute 61 = .ok (.ifCond .eq 5, 3) := by decide +kernel
theorem dX5_compute_64 : decode cX5_compute 64 = .ok (.iconst 1, 1) := by decide +kernel
theorem dX5_compute_65 : decode cX5_compute 65 = .ok (.istore_n 2, 1) := by decide +kernel
theorem dX5_compute_66 : decode cX5_compute 66 = .ok (.iinc 4 1, 3) := by decide +kernel
theorem dX5_compute_69 : decode cX5_compute 69 = .ok (.goto (-35), 3) := by decide +kernel
theorem dX5_compute_72 : decode cX5_compute 72 = .ok (.iinc 3 1, 3) := by decide +kernel
theorem dX5_compute_75 : decode cX5_compute 75 = .ok (.goto (-56), 3) := by decide +kernel
theorem dX5_compute_78 : decode cX5_compute 78 = .ok (.return_, 1) := by decide +kernel
theorem dX5_lowerPricesBy_0 : decode cX5_lowerPricesBy 0 = .ok (.aload_n 0, 1) := by decide +kernel
theorem dX5_lowerPricesBy_1 : decode cX5_lowerPricesBy 1 = .ok (.getfield 19, 3) := by decide +kernel
theorem dX5_lowerPricesBy_4 : decode cX5_lowerPricesBy 4 = .ok (.getfield 40, 3) := by decide +kernel
theorem dX5_lowerPricesBy_7 : decode cX5_lowerPricesBy 7 = .ok (.iload_n 1, 1) := by decide +kernel
theorem dX5_lowerPricesBy_8 : decode cX5_lowerPricesBy 8 = .ok (.iaload, 1) := by decide +kernel
theorem dX5_lowerPricesBy_9 : decode cX5_lowerPricesBy 9 = .ok (.iconst 4, 1) := by decide +kernel
theorem dX5_lowerPricesBy_10 : decode cX5_lowerPricesBy 10 = .ok (.imul, 1) := by decide +kernel
theorem dX5_lowerPricesBy_11 : decode cX5_lowerPricesBy 11 = .ok (.istore_n 2, 1) := by decide +kernel
theorem dX5_lowerPricesBy_12 : decode cX5_lowerPricesBy 12 = .ok (.aload_n 0, 1) := by decide +kernel
theorem dX5_lowerPricesBy_13 : decode cX5_lowerPricesBy 13 = .ok (.getfield 19, 3) := by decide +kernel
theorem dX5_lowerPricesBy_16 : decode cX5_lowerPricesBy 16 = .ok (.getfield 44, 3) := by decide +kernel
theorem dX5_lowerPricesBy_19 : decode cX5_lowerPricesBy 19 = .ok (.iload_n 1, 1) := by decide +kernel
theorem dX5_lowerPricesBy_20 : decode cX5_lowerPricesBy 20 = .ok (.laload, 1) := by decide +kernel
theorem dX5_lowerPricesBy_21 : decode cX5_lowerPricesBy 21 = .ok (.lstore_n 3, 1) := by decide +kernel
theorem dX5_lowerPricesBy_22 : decode cX5_lowerPricesBy 22 = .ok (.aload_n 0, 1) := by decide +kernel
theorem dX5_lowerPricesBy_23 : decode cX5_lowerPricesBy 23 = .ok (.getfield 19, 3) := by decide +kernel
theorem dX5_lowerPricesBy_26 : decode cX5_lowerPricesBy 26 = .ok (.getfield 47, 3) := by decide +kernel
theorem dX5_lowerPricesBy_29 : decode cX5_lowerPricesBy 29 = .ok (.iload_n 1, 1) := by decide +kernel
theorem dX5_lowerPricesBy_30 : decode cX5_lowerPricesBy 30 = .ok (.iaload, 1) := by decide +kernel
theorem dX5_lowerPricesBy_31 : decode cX5_lowerPricesBy 31 = .ok (.ifCond .ne 23, 3) := by decide +kernel
theorem dX5_lowerPricesBy_34 : decode cX5_lowerPricesBy 34 = .ok (.aload_n 0, 1) := by decide +kernel
theorem dX5_lowerPricesBy_35 : decode cX5_lowerPricesBy 35 = .ok (.getfield 15, 3) := by decide +kernel
theorem dX5_lowerPricesBy_38 : decode cX5_lowerPricesBy 38 = .ok (.iload_n 2, 1) := by decide +kernel
theorem dX5_lowerPricesBy_39 : decode cX5_lowerPricesBy 39 = .ok (.aload_n 0, 1) := by decide +kernel
theorem dX5_lowerPricesBy_40 : decode cX5_lowerPricesBy 40 = .ok (.getfield 19, 3) := by decide +kernel
theorem dX5_lowerPricesBy_43 : decode cX5_lowerPricesBy 43 = .ok (.getfield 50, 3) := by decide +kernel
theorem dX5_lowerPricesBy_46 : decode cX5_lowerPricesBy 46 = .ok (.iload_n 1, 1) := by decide +kernel
theorem dX5_lowerPricesBy_47 : decode cX5_lowerPricesBy 47 = .ok (.iaload, 1) := by decide +kernel
theorem dX5_lowerPricesBy_48 : decode cX5_lowerPricesBy 48 = .ok (.iadd, 1) := by decide +kernel
theorem dX5_lowerPricesBy_49 : decode cX5_lowerPricesBy 49 = .ok (.lload_n 3, 1) := by decide +kernel
theorem dX5_lowerPricesBy_50 : decode cX5_lowerPricesBy 50 = .ok (.invokestatic 53, 3) := by decide +kernel
theorem dX5_lowerPricesBy_53 : decode cX5_lowerPricesBy 53 = .ok (.ireturn, 1) := by decide +kernel
theorem dX5_lowerPricesBy_54 : decode cX5_lowerPricesBy 54 = .ok (.aload_n 0, 1) := by decide +kernel
theorem dX5_lowerPricesBy_55 : decode cX5_lowerPricesBy 55 = .ok (.getfield 19, 3) := by decide +kernel
theorem dX5_lowerPricesBy_58 : decode cX5_lowerPricesBy 58 = .ok (.getfield 47, 3) := by decide +kernel
theorem dX5_lowerPricesBy_61 : decode cX5_lowerPricesBy 61 = .ok (.iload_n 1, 1) := by decide +kernel
theorem dX5_lowerPricesBy_62 : decode cX5_lowerPricesBy 62 = .ok (.iaload, 1) := by decide +kernel
theorem dX5_lowerPricesBy_63 : decode cX5_lowerPricesBy 63 = .ok (.iconst 1, 1) := by decide +kernel
theorem dX5_lowerPricesBy_64 : decode cX5_lowerPricesBy 64 = .ok (.if_icmp .ne 19, 3) := by decide +kernel
theorem dX5_lowerPricesBy_67 : decode cX5_lowerPricesBy 67 = .ok (.aload_n 0, 1) := by decide +kernel
theorem dX5_lowerPricesBy_68 : decode cX5_lowerPricesBy 68 = .ok (.iload_n 2, 1) := by decide +kernel
theorem dX5_lowerPricesBy_69 : decode cX5_lowerPricesBy 69 = .ok (.aload_n 0, 1) := by decide +kernel
theorem dX5_lowerPricesBy_70 : decode cX5_lowerPricesBy 70 = .ok (.getfield 19, 3) := by decide +kernel
theorem dX5_lowerPricesBy_73 : decode cX5_lowerPricesBy 73 = .ok (.getfield 57, 3) := by decide +kernel
theorem dX5_lowerPricesBy_76 : decode cX5_lowerPricesBy 76 = .ok (.iload_n 1, 1) := by decide +kernel
theorem dX5_lowerPricesBy_77 : decode cX5_lowerPricesBy 77 = .ok (.iaload, 1) := by decide +kernel
theorem dX5_lowerPricesBy_78 : decode cX5_lowerPricesBy 78 = .ok (.lload_n 3, 1) := by decide +kernel
theorem dX5_lowerPricesBy_79 : decode cX5_lowerPricesBy 79 = .ok (.invokevirtual 60, 3) := by decide +kernel
theorem dX5_lowerPricesBy_82 : decode cX5_lowerPricesBy 82 = .ok (.ireturn, 1) := by decide +kernel
theorem dX5_lowerPricesBy_83 : decode cX5_lowerPricesBy 83 = .ok (.iconst 0, 1) := by decide +kernel
theorem dX5_lowerPricesBy_84 : decode cX5_lowerPricesBy 84 = .ok (.istore 5, 2) := by decide +kernel
theorem dX5_lowerPricesBy_86 : decode cX5_lowerPricesBy 86 = .ok (.iconst 0, 1) := by decide +kernel
theorem dX5_lowerPricesBy_87 : decode cX5_lowerPricesBy 87 = .ok (.istore 6, 2) := by decide +kernel
theorem dX5_lowerPricesBy_89 : decode cX5_lowerPricesBy 89 = .ok (.iload 6, 2) := by decide +kernel
theorem dX5_lowerPricesBy_91 : decode cX5_lowerPricesBy 91 = .ok (.aload_n 0, 1) := by decide +kernel
theorem dX5_lowerPricesBy_92 : decode cX5_lowerPricesBy 92 = .ok (.getfield 19, 3) := by decide +kernel
theorem dX5_lowerPricesBy_95 : decode cX5_lowerPricesBy 95 = .ok (.getfield 64, 3) := by decide +kernel
theorem dX5_lowerPricesBy_98 : decode cX5_lowerPricesBy 98 = .ok (.if_icmp .ge 64, 3) := by decide +kernel
theorem dX5_lowerPricesBy_101 : decode cX5_lowerPricesBy 101 = .ok (.lload_n 3, 1) := by decide +kernel
theorem dX5_lowerPricesBy_102 : decode cX5_lowerPricesBy 102 = .ok (.aload_n 0, 1) := by decide +kernel
theorem dX5_lowerPricesBy_103 : decode cX5_lowerPricesBy 103 = .ok (.aload_n 0, 1) := by decide +kernel
theorem dX5_lowerPricesBy_104 : decode cX5_lowerPricesBy 104 = .ok (.getfield 19, 3) := by decide +kernel
theorem dX5_lowerPricesBy_107 : decode cX5_lowerPricesBy 107 = .ok (.getfield 57, 3) := by decide +kernel
theorem dX5_lowerPricesBy_110 : decode cX5_lowerPricesBy 110 = .ok (.iload_n 1, 1) := by decide +kernel
theorem dX5_lowerPricesBy_111 : decode cX5_lowerPricesBy 111 = .ok (.iaload, 1) := by decide +kernel
theorem dX5_lowerPricesBy_112 : decode cX5_lowerPricesBy 112 = .ok (.iload 6, 2) := by decide +kernel
theorem dX5_lowerPricesBy_114 : decode cX5_lowerPricesBy 114 = .ok (.invokevirtual 67, 3) := by decide +kernel
theorem dX5_lowerPricesBy_117 : decode cX5_lowerPricesBy 117 = .ok (.ladd, 1) := by decide +kernel
theorem dX5_lowerPricesBy_118 : decode cX5_lowerPricesBy 118 = .ok (.lstore 7, 2) := by decide +kernel
theorem dX5_lowerPricesBy_120 : decode cX5_lowerPricesBy 120 = .ok (.lload 7, 2) := by decide +kernel
theorem dX5_lowerPricesBy_122 : decode cX5_lowerPricesBy 122 = .ok (.ldc2_w 23, 3) := by decide +kernel
theorem dX5_lowerPricesBy_125 : decode cX5_lowerPricesBy 125 = .ok (.lcmp, 1) := by decide +kernel
theorem dX5_lowerPricesBy_126 : decode cX5_lowerPricesBy 126 = .ok (.ifCond .ge 30, 3) := by decide +kernel
theorem dX5_lowerPricesBy_129 : decode cX5_lowerPricesBy 129 = .ok (.aload_n 0, 1) := by decide +kernel
theorem dX5_lowerPricesBy_130 : decode cX5_lowerPricesBy 130 = .ok (.iload_n 2, 1) := by decide +kernel
theorem dX5_lowerPricesBy_131 : decode cX5_lowerPricesBy 131 = .ok (.iload 6, 2) := by decide +kernel
theorem dX5_lowerPricesBy_133 : decode cX5_lowerPricesBy 133 = .ok (.aload_n 0, 1) := by decide +kernel
theorem dX5_lowerPricesBy_134 : decode cX5_lowerPricesBy 134 = .ok (.getfield 19, 3) := by decide +kernel
theorem dX5_lowerPricesBy_137 : decode cX5_lowerPricesBy 137 = .ok (.getfield 71, 3) := by decide +kernel
theorem dX5_lowerPricesBy_140 : decode cX5_lowerPricesBy 140 = .ok (.iload_n 1, 1) := by decide +kernel
theorem dX5_lowerPricesBy_141 : decode cX5_lowerPricesBy 141 = .ok (.iaload, 1) := by decide +kernel
theorem dX5_lowerPricesBy_142 : decode cX5_lowerPricesBy 142 = .ok (.invokestatic 74, 3) := by decide +kernel
theorem dX5_lowerPricesBy_145 : decode cX5_lowerPricesBy 145 = .ok (.lload 7, 2) := by decide +kernel
theorem dX5_lowerPricesBy_147 : decode cX5_lowerPricesBy 147 = .ok (.invokevirtual 60, 3) := by decide +kernel
theorem dX5_lowerPricesBy_150 : decode cX5_lowerPricesBy 150 = .ok (.ifCond .eq 6, 3) := by decide +kernel
theorem dX5_lowerPricesBy_153 : decode cX5_lowerPricesBy 153 = .ok (.iconst 1, 1) := by decide +kernel
theorem dX5_lowerPricesBy_154 : decode cX5_lowerPricesBy 154 = .ok (.istore 5, 2) := by decide +kernel
theorem dX5_lowerPricesBy_156 : decode cX5_lowerPricesBy 156 = .ok (.iinc 6 1, 3) := by decide +kernel
theorem dX5_lowerPricesBy_159 : decode cX5_lowerPricesBy 159 = .ok (.goto (-70), 3) := by decide +kernel
theorem dX5_lowerPricesBy_162 : decode cX5_lowerPricesBy 162 = .ok (.iload 5, 2) := by decide +kernel
theorem dX5_lowerPricesBy_164 : decode cX5_lowerPricesBy 164 = .ok (.ireturn, 1) := by decide +kernel
theorem dX5_lowerPricesThrough_0 : decode cX5_lowerPricesThrough 0 = .ok (.iconst 0, 1) := by decide +kernel
theorem dX5_lowerPricesThrough_1 : decode cX5_lowerPricesThrough 1 = .ok (.istore 5, 2) := by decide +kernel
theorem dX5_lowerPricesThrough_3 : decode cX5_lowerPricesThrough 3 = .ok (.iconst 0, 1) := by decide +kernel
theorem dX5_lowerPricesThrough_4 : decode cX5_lowerPricesThrough 4 = .ok (.istore 6, 2) := by decide +kernel
theorem dX5_lowerPricesThrough_6 : decode cX5_lowerPricesThrough 6 = .ok (.iload 6, 2) := by decide +kernel
theorem dX5_lowerPricesThrough_8 : decode cX5_lowerPricesThrough 8 = .ok (.aload_n 0, 1) := by decide +kernel
theorem dX5_lowerPricesThrough_9 : decode cX5_lowerPricesThrough 9 = .ok (.getfield 19, 3) := by decide +kernel
theorem dX5_lowerPricesThrough_12 : decode cX5_lowerPricesThrough 12 = .ok (.getfield 64, 3) := by decide +kernel
theorem dX5_lowerPricesThrough_15 : decode cX5_lowerPricesThrough 15 = .ok (.if_icmp .ge 35, 3) := by decide +kernel
theorem dX5_lowerPricesThrough_18 : decode cX5_lowerPricesThrough 18 = .ok (.aload_n 0, 1) := by decide +kernel
theorem dX5_lowerPricesThrough_19 : decode cX5_lowerPricesThrough 19 = .ok (.getfield 15, 3) := by decide +kernel
theorem dX5_lowerPricesThrough_22 : decode cX5_lowerPricesThrough 22 = .ok (.iload_n 1, 1) := by decide +kernel
theorem dX5_lowerPricesThrough_23 : decode cX5_lowerPricesThrough 23 = .ok (.iload 6, 2) := by decide +kernel
theorem dX5_lowerPricesThrough_25 : decode cX5_lowerPricesThrough 25 = .ok (.iadd, 1) := by decide +kernel
theorem dX5_lowerPricesThrough_26 : decode cX5_lowerPricesThrough 26 = .ok (.lload_n 3, 1) := by decide +kernel
theorem dX5_lowerPricesThrough_27 : decode cX5_lowerPricesThrough 27 = .ok (.aload_n 0, 1) := by decide +kernel
theorem dX5_lowerPricesThrough_28 : decode cX5_lowerPricesThrough 28 = .ok (.iload_n 2, 1) := by decide +kernel
theorem dX5_lowerPricesThrough_29 : decode cX5_lowerPricesThrough 29 = .ok (.iload 6, 2) := by decide +kernel
theorem dX5_lowerPricesThrough_31 : decode cX5_lowerPricesThrough 31 = .ok (.invokevirtual 67, 3) := by decide +kernel
theorem dX5_lowerPricesThrough_34 : decode cX5_lowerPricesThrough 34 = .ok (.ladd, 1) := by decide +kernel
theorem dX5_lowerPricesThrough_35 : decode cX5_lowerPricesThrough 35 = .ok (.invokestatic 53, 3) := by decide +kernel
theorem dX5_lowerPricesThrough_38 : decode cX5_lowerPricesThrough 38 = .ok (.ifCond .eq 6, 3) := by decide +kernel
theorem dX5_lowerPricesThrough_41 : decode cX5_lowerPricesThrough 41 = .ok (.iconst 1, 1) := by decide +kernel
theorem dX5_lowerPricesThrough_42 : decode cX5_lowerPricesThrough 42 = .ok (.istore 5, 2) := by decide +kernel
theorem dX5_lowerPricesThrough_44 : decode cX5_lowerPricesThrough 44 = .ok (.iinc 6 1, 3) := by decide +kernel
theorem dX5_lowerPricesThrough_47 : decode cX5_lowerPricesThrough 47 = .ok (.goto (-41), 3) := by decide +kernel
theorem dX5_lowerPricesThrough_50 : decode cX5_lowerPricesThrough 50 = .ok (.iload 5, 2) := by decide +kernel
theorem dX5_lowerPricesThrough_52 : decode cX5_lowerPricesThrough 52 = .ok (.ireturn, 1) := by decide +kernel
theorem dX5_spread_0 : decode cX5_spread 0 = .ok (.iconst 1, 1) := by decide +kernel
theorem dX5_spread_1 : decode cX5_spread 1 = .ok (.istore_n 2, 1) := by decide +kernel
theorem dX5_spread_2 : decode cX5_spread 2 = .ok (.iconst 0, 1) := by decide +kernel
theorem dX5_spread_3 : decode cX5_spread 3 = .ok (.istore_n 3, 1) := by decide +kernel
theorem dX5_spread_4 : decode cX5_spread 4 = .ok (.iload_n 2, 1) := by decide +kernel
theorem dX5_spread_5 : decode cX5_spread 5 = .ok (.ifCond .eq 78, 3) := by decide +kernel
theorem dX5_spread_8 : decode cX5_spread 8 = .ok (.iload_n 3, 1) := by decide +kernel
theorem dX5_spread_9 : decode cX5_spread 9 = .ok (.bipush 20, 2) := by decide +kernel
theorem dX5_spread_11 : decode cX5_spread 11 = .ok (.if_icmp .gt 72, 3) := by decide +kernel
theorem dX5_spread_14 : decode cX5_spread 14 = .ok (.iconst 0, 1) := by decide +kernel
theorem dX5_spread_15 : decode cX5_spread 15 = .ok (.istore_n 2, 1) := by decide +kernel
theorem dX5_spread_16 : decode cX5_spread 16 = .ok (.iconst 0, 1) := by decide +kernel
theorem dX5_spread_17 : decode cX5_spread 17 = .ok (.istore 4, 2) := by decide +kernel
theorem dX5_spread_19 : decode cX5_spread 19 = .ok (.iload 4, 2) := by decide +kernel
theorem dX5_spread_21 : decode cX5_spread 21 = .ok (.aload_n 0, 1) := by decide +kernel
theorem dX5_spread_22 : decode cX5_spread 22 = .ok (.getfield 19, 3) := by decide +kernel
theorem dX5_spread_25 : decode cX5_spread 25 = .ok (.getfield 31, 3) := by decide +kernel
theorem dX5_spread_28 : decode cX5_spread 28 = .ok (.if_icmp .ge 49, 3) := by decide +kernel
theorem dX5_spread_31 : decode cX5_spread 31 = .ok (.iload 4, 2) := by decide +kernel
theorem dX5_spread_33 : decode cX5_spread 33 = .ok (.aload_n 0, 1) := by decide +kernel
theorem dX5_spread_34 : decode cX5_spread 34 = .ok (.getfield 9, 3) := by decide +kernel
theorem dX5_spread_37 : decode cX5_spread 37 = .ok (.if_icmp .eq 34, 3) := by decide +kernel
theorem dX5_spread_40 : decode cX5_spread 40 = .ok (.aload_n 1, 1) := by decide +kernel
theorem dX5_spread_41 : decode cX5_spread 41 = .ok (.aload_n 0, 1) := by decide +kernel
theorem dX5_spread_42 : decode cX5_spread 42 = .ok (.getfield 19, 3) := by decide +kernel
theorem dX5_spread_45 : decode cX5_spread 45 = .ok (.getfield 40, 3) := by decide +kernel
theorem dX5_spread_48 : decode cX5_spread 48 = .ok (.iload 4, 2) := by decide +kernel
theorem dX5_spread_50 : decode cX5_spread 50 = .ok (.iaload, 1) := by decide +kernel
theorem dX5_spread_51 : decode cX5_spread 51 = .ok (.laload, 1) := by decide +kernel
theorem dX5_spread_52 : decode cX5_spread 52 = .ok (.ldc2_w 23, 3) := by decide +kernel
theorem dX5_spread_55 : decode cX5_spread 55 = .ok (.lcmp, 1) := by decide +kernel
theorem dX5_spread_56 : decode cX5_spread 56 = .ok (.ifCond .ge 15, 3) := by decide +kernel
theorem dX5_spread_59 : decode cX5_spread 59 = .ok (.aload_n 0, 1) := by decide +kernel
theorem dX5_spread_60 : decode cX5_spread 60 = .ok (.iload 4, 2) := by decide +kernel
theorem dX5_spread_62 : decode cX5_spread 62 = .ok (.aload_n 1, 1) := by decide +kernel
theorem dX5_spread_63 : decode cX5_spread 63 = .ok (.invokevirtual 78, 3) := by decide +kernel
theorem dX5_spread_66 : decode cX5_spread 66 = .ok (.ifCond .eq 5, 3) := by decide +kernel
theorem dX5_spread_69 : decode cX5_spread 69 = .ok (.iconst 1, 1) := by decide +kernel
theorem dX5_spread_70 : decode cX5_spread 70 = .ok (.istore_n 2, 1) := by decide +kernel
theorem dX5_spread_71 : decode cX5_spread 71 = .ok (.iinc 4 1, 3) := by decide +kernel
theorem dX5_spread_74 : decode cX5_spread 74 = .ok (.goto (-55), 3) := by decide +kernel
theorem dX5_spread_77 : decode cX5_spread 77 = .ok (.iinc 3 1, 3) := by decide +kernel
theorem dX5_spread_80 : decode cX5_spread 80 = .ok (.goto (-76), 3) := by decide +kernel
theorem dX5_spread_83 : decode cX5_spread 83 = .ok (.return_, 1) := by decide +kernel
theorem dX5_spreadBy_0 : decode cX5_spreadBy 0 = .ok (.aload_n 2, 1) := by decide +kernel
theorem dX5_spreadBy_1 : decode cX5_spreadBy 1 = .ok (.aload_n 0, 1) := by decide +kernel
theorem dX5_spreadBy_2 : decode cX5_spreadBy 2 = .ok (.getfield 19, 3) := by decide +kernel
theorem dX5_spreadBy_5 : decode cX5_spreadBy 5 = .ok (.getfield 40, 3) := by decide +kernel
theorem dX5_spreadBy_8 : decode cX5_spreadBy 8 = .ok (.iload_n 1, 1) := by decide +kernel
theorem dX5_spreadBy_9 : decode cX5_spreadBy 9 = .ok (.iaload, 1) := by decide +kernel
theorem dX5_spreadBy_10 : decode cX5_spreadBy 10 = .ok (.laload, 1) := by decide +kernel
theorem dX5_spreadBy_11 : decode cX5_spreadBy 11 = .ok (.aload_n 0, 1) := by decide +kernel
theorem dX5_spreadBy_12 : decode cX5_spreadBy 12 = .ok (.getfield 19, 3) := by decide +kernel
theorem dX5_spreadBy_15 : decode cX5_spreadBy 15 = .ok (.getfield 44, 3) := by decide +kernel
theorem dX5_spreadBy_18 : decode cX5_spreadBy 18 = .ok (.iload_n 1, 1) := by decide +kernel
theorem dX5_spreadBy_19 : decode cX5_spreadBy 19 = .ok (.laload, 1) := by decide +kernel
theorem dX5_spreadBy_20 : decode cX5_spreadBy 20 = .ok (.ladd, 1) := by decide +kernel
theorem dX5_spreadBy_21 : decode cX5_spreadBy 21 = .ok (.lstore_n 3, 1) := by decide +kernel
theorem dX5_spreadBy_22 : decode cX5_spreadBy 22 = .ok (.aload_n 0, 1) := by decide +kernel
theorem dX5_spreadBy_23 : decode cX5_spreadBy 23 = .ok (.getfield 19, 3) := by decide +kernel
theorem dX5_spreadBy_26 : decode cX5_spreadBy 26 = .ok (.getfield 47, 3) := by decide +kernel
theorem dX5_spreadBy_29 : decode cX5_spreadBy 29 = .ok (.iload_n 1, 1) := by decide +kernel
theorem dX5_spreadBy_30 : decode cX5_spreadBy 30 = .ok (.iaload, 1) := by decide +kernel
theorem dX5_spreadBy_31 : decode cX5_spreadBy 31 = .ok (.iconst 1, 1) := by decide +kernel
theorem dX5_spreadBy_32 : decode cX5_spreadBy 32 = .ok (.if_icmp .ne 18, 3) := by decide +kernel
theorem dX5_spreadBy_35 : decode cX5_spreadBy 35 = .ok (.aload_n 2, 1) := by decide +kernel
theorem dX5_spreadBy_36 : decode cX5_spreadBy 36 = .ok (.aload_n 0, 1) := by decide +kernel
theorem dX5_spreadBy_37 : decode cX5_spreadBy 37 = .ok (.getfield 19, 3) := by decide +kernel
theorem dX5_spreadBy_40 : decode cX5_spreadBy 40 = .ok (.getfield 57, 3) := by decide +kernel
theorem dX5_spreadBy_43 : decode cX5_spreadBy 43 = .ok (.iload_n 1, 1) := by decide +kernel
theorem dX5_spreadBy_44 : decode cX5_spreadBy 44 = .ok (.iaload, 1) := by decide +kernel
theorem dX5_spreadBy_45 : decode cX5_spreadBy 45 = .ok (.lload_n 3, 1) := by decide +kernel
theorem dX5_spreadBy_46 : decode cX5_spreadBy 46 = .ok (.invokestatic 53, 3) := by decide +kernel
theorem dX5_spreadBy_49 : decode cX5_spreadBy 49 = .ok (.ireturn, 1) := by decide +kernel
theorem dX5_spreadBy_50 : decode cX5_spreadBy 50 = .ok (.aload_n 0, 1) := by decide +kernel
theorem dX5_spreadBy_51 : decode cX5_spreadBy 51 = .ok (.getfield 19, 3) := by decide +kernel
theorem dX5_spreadBy_54 : decode cX5_spreadBy 54 = .ok (.getfield 47, 3) := by decide +kernel
theorem dX5_spreadBy_57 : decode cX5_spreadBy 57 = .ok (.iload_n 1, 1) := by decide +kernel
theorem dX5_spreadBy_58 : decode cX5_spreadBy 58 = .ok (.iaload, 1) := by decide +kernel
theorem dX5_spreadBy_59 : decode cX5_spreadBy 59 = .ok (.ifCond .ne 5, 3) := by decide +kernel
theorem dX5_spreadBy_62 : decode cX5_spreadBy 62 = .ok (.iconst 0, 1) := by decide +kernel
theorem dX5_spreadBy_63 : decode cX5_spreadBy 63 = .ok (.ireturn, 1) := by decide +kernel
theorem dX5_spreadBy_64 : decode cX5_spreadBy 64 = .ok (.iconst 0, 1) := by decide +kernel
theorem dX5_spreadBy_65 : decode cX5_spreadBy 65 = .ok (.istore 5, 2) := by decide +kernel
theorem dX5_spreadBy_67 : decode cX5_spreadBy 67 = .ok (.iconst 0, 1) := by decide +kernel
theorem dX5_spreadBy_68 : decode cX5_spreadBy 68 = .ok (.istore 6, 2) := by decide +kernel
theorem dX5_spreadBy_70 : decode cX5_spreadBy 70 = .ok (.iload 6, 2) := by decide +kernel
theorem dX5_spreadBy_72 : decode cX5_spreadBy 72 = .ok (.aload_n 0, 1) := by decide +kernel
theorem dX5_spreadBy_73 : decode cX5_spreadBy 73 = .ok (.getfield 19, 3) := by decide +kernel
theorem dX5_spreadBy_76 : decode cX5_spreadBy 76 = .ok (.getfield 64, 3) := by decide +kernel
theorem dX5_spreadBy_79 : decode cX5_spreadBy 79 = .ok (.if_icmp .ge 54, 3) := by decide +kernel
theorem dX5_spreadBy_82 : decode cX5_spreadBy 82 = .ok (.lload_n 3, 1) := by decide +kernel
theorem dX5_spreadBy_83 : decode cX5_spreadBy 83 = .ok (.aload_n 0, 1) := by decide +kernel
theorem dX5_spreadBy_84 : decode cX5_spreadBy 84 = .ok (.aload_n 0, 1) := by decide +kernel
theorem dX5_spreadBy_85 : decode cX5_spreadBy 85 = .ok (.getfield 19, 3) := by decide +kernel
theorem dX5_spreadBy_88 : decode cX5_spreadBy 88 = .ok (.getfield 57, 3) := by decide +kernel
theorem dX5_spreadBy_91 : decode cX5_spreadBy 91 = .ok (.iload_n 1, 1) := by decide +kernel
theorem dX5_spreadBy_92 : decode cX5_spreadBy 92 = .ok (.iaload, 1) := by decide +kernel
theorem dX5_spreadBy_93 : decode cX5_spreadBy 93 = .ok (.iload 6, 2) := by decide +kernel
theorem dX5_spreadBy_95 : decode cX5_spreadBy 95 = .ok (.invokevirtual 67, 3) := by decide +kernel
theorem dX5_spreadBy_98 : decode cX5_spreadBy 98 = .ok (.ladd, 1) := by decide +kernel
theorem dX5_spreadBy_99 : decode cX5_spreadBy 99 = .ok (.lstore 7, 2) := by decide +kernel
theorem dX5_spreadBy_101 : decode cX5_spreadBy 101 = .ok (.aload_n 2, 1) := by decide +kernel
theorem dX5_spreadBy_102 : decode cX5_spreadBy 102 = .ok (.iload 6, 2) := by decide +kernel
theorem dX5_spreadBy_104 : decode cX5_spreadBy 104 = .ok (.aload_n 0, 1) := by decide +kernel
theorem dX5_spreadBy_105 : decode cX5_spreadBy 105 = .ok (.getfield 19, 3) := by decide +kernel
theorem dX5_spreadBy_108 : decode cX5_spreadBy 108 = .ok (.getfield 71, 3) := by decide +kernel
theorem dX5_spreadBy_111 : decode cX5_spreadBy 111 = .ok (.iload_n 1, 1) := by decide +kernel
theorem dX5_spreadBy_112 : decode cX5_spreadBy 112 = .ok (.iaload, 1) := by decide +kernel
theorem dX5_spreadBy_113 : decode cX5_spreadBy 113 = .ok (.invokestatic 74, 3) := by decide +kernel
theorem dX5_spreadBy_116 : decode cX5_spreadBy 116 = .ok (.lload 7, 2) := by decide +kernel
theorem dX5_spreadBy_118 : decode cX5_spreadBy 118 = .ok (.invokestatic 53, 3) := by decide +kernel
theorem dX5_spreadBy_121 : decode cX5_spreadBy 121 = .ok (.ifCond .eq 6, 3) := by decide +kernel
theorem dX5_spreadBy_124 : decode cX5_spreadBy 124 = .ok (.iconst 1, 1) := by decide +kernel
theorem dX5_spreadBy_125 : decode cX5_spreadBy 125 = .ok (.istore 5, 2) := by decide +kernel
theorem dX5_spreadBy_127 : decode cX5_spreadBy 127 = .ok (.iinc 6 1, 3) := by decide +kernel
theorem dX5_spreadBy_130 : decode cX5_spreadBy 130 = .ok (.goto (-60), 3) := by decide +kernel
theorem dX5_spreadBy_133 : decode cX5_spreadBy 133 = .ok (.iload 5, 2) := by decide +kernel
theorem dX5_spreadBy_135 : decode cX5_spreadBy 135 = .ok (.ireturn, 1) := by decide +kernel
theorem dX5_gather_0 : decode cX5_gather 0 = .ok (.iconst 1, 1) := by decide +kernel
theorem dX5_gather_1 : decode cX5_gather 1 = .ok (.istore_n 2, 1) := by decide +kernel
theorem dX5_gather_2 : decode cX5_gather 2 = .ok (.iconst 0, 1) := by decide +kernel
theorem dX5_gather_3 : decode cX5_gather 3 = .ok (.istore_n 3, 1) := by decide +kernel
theorem dX5_gather_4 : decode cX5_gather 4 = .ok (.iload_n 2, 1) := by decide +kernel
theorem dX5_gather_5 : decode cX5_gather 5 = .ok (.ifCond .eq 59, 3) := by decide +kernel
theorem dX5_gather_8 : decode cX5_gather 8 = .ok (.iload_n 3, 1) := by decide +kernel
theorem dX5_gather_9 : decode cX5_gather 9 = .ok (.bipush 20, 2) := by decide +kernel
theorem dX5_gather_11 : decode cX5_gather 11 = .ok (.if_icmp .gt 53, 3) := by decide +kernel
theorem dX5_gather_14 : decode cX5_gather 14 = .ok (.iconst 0, 1) := by decide +kernel
theorem dX5_gather_15 : decode cX5_gather 15 = .ok (.istore_n 2, 1) := by decide +kernel
theorem dX5_gather_16 : decode cX5_gather 16 = .ok (.iconst 0, 1) := by decide +kernel
theorem dX5_gather_17 : decode cX5_gather 17 = .ok (.istore 4, 2) := by decide +kernel
theorem dX5_gather_19 : decode cX5_gather 19 = .ok (.iload 4, 2) := by decide +kernel
theorem dX5_gather_21 : decode cX5_gather 21 = .ok (.aload_n 0, 1) := by decide +kernel
theorem dX5_gather_22 : decode cX5_gather 22 = .ok (.getfield 19, 3) := by decide +kernel
theorem dX5_gather_25 : decode cX5_gather 25 = .ok (.getfield 31, 3) := by decide +kernel
theorem dX5_gather_28 : decode cX5_gather 28 = .ok (.if_icmp .ge 30, 3) := by decide +kernel
theorem dX5_gather_31 : decode cX5_gather 31 = .ok (.iload 4, 2) := by decide +kernel
theorem dX5_gather_33 : decode cX5_gather 33 = .ok (.aload_n 0, 1) := by decide +kernel
theorem dX5_gather_34 : decode cX5_gather 34 = .ok (.getfield 9, 3) := by decide +kernel
theorem dX5_gather_37 : decode cX5_gather 37 = .ok (.if_icmp .eq 15, 3) := by decide +kernel
theorem dX5_gather_40 : decode cX5_gather 40 = .ok (.aload_n 0, 1) := by decide +kernel
theorem dX5_gather_41 : decode cX5_gather 41 = .ok (.iload 4, 2) := by decide +kernel
theorem dX5_gather_43 : decode cX5_gather 43 = .ok (.aload_n 1, 1) := by decide +kernel
theorem dX5_gather_44 : decode cX5_gather 44 = .ok (.invokevirtual 82, 3) := by decide +kernel
theorem dX5_gather_47 : decode cX5_gather 47 = .ok (.ifCond .eq 5, 3) := by decide +kernel
theorem dX5_gather_50 : decode cX5_gather 50 = .ok (.iconst 1, 1) := by decide +kernel
theorem dX5_gather_51 : decode cX5_gather 51 = .ok (.istore_n 2, 1) := by decide +kernel
theorem dX5_gather_52 : decode cX5_gather 52 = .ok (.iinc 4 1, 3) := by decide +kernel
theorem dX5_gather_55 : decode cX5_gather 55 = .ok (.goto (-36), 3) := by decide +kernel
theorem dX5_gather_58 : decode cX5_gather 58 = .ok (.iinc 3 1, 3) := by decide +kernel
theorem dX5_gather_61 : decode cX5_gather 61 = .ok (.goto (-57), 3) := by decide +kernel
theorem dX5_gather_64 : decode cX5_gather 64 = .ok (.return_, 1) := by decide +kernel
theorem dX5_gatherBy_0 : decode cX5_gatherBy 0 = .ok (.aload_n 0, 1) := by decide +kernel
theorem dX5_gatherBy_1 : decode cX5_gatherBy 1 = .ok (.getfield 19, 3) := by decide +kernel
theorem dX5_gatherBy_4 : decode cX5_gatherBy 4 = .ok (.getfield 40, 3) := by decide +kernel
theorem dX5_gatherBy_7 : decode cX5_gatherBy 7 = .ok (.iload_n 1, 1) := by decide +kernel
theorem dX5_gatherBy_8 : decode cX5_gatherBy 8 = .ok (.iaload, 1) := by decide +kernel
theorem dX5_gatherBy_9 : decode cX5_gatherBy 9 = .ok (.istore_n 3, 1) := by decide +kernel
theorem dX5_gatherBy_10 : decode cX5_gatherBy 10 = .ok (.aload_n 0, 1) := by decide +kernel
theorem dX5_gatherBy_11 : decode cX5_gatherBy 11 = .ok (.getfield 19, 3) := by decide +kernel
theorem dX5_gatherBy_14 : decode cX5_gatherBy 14 = .ok (.getfield 44, 3) := by decide +kernel
theorem dX5_gatherBy_17 : decode cX5_gatherBy 17 = .ok (.iload_n 1, 1) := by decide +kernel
theorem dX5_gatherBy_18 : decode cX5_gatherBy 18 = .ok (.laload, 1) := by decide +kernel
theorem dX5_gatherBy_19 : decode cX5_gatherBy 19 = .ok (.lstore 4, 2) := by decide +kernel
theorem dX5_gatherBy_21 : decode cX5_gatherBy 21 = .ok (.aload_n 0, 1) := by decide +kernel
theorem dX5_gatherBy_22 : decode cX5_gatherBy 22 = .ok (.getfield 19, 3) := by decide +kernel
theorem dX5_gatherBy_25 : decode cX5_gatherBy 25 = .ok (.getfield 47, 3) := by decide +kernel
theorem dX5_gatherBy_28 : decode cX5_gatherBy 28 = .ok (.iload_n 1, 1) := by decide +kernel
theorem dX5_gatherBy_29 : decode cX5_gatherBy 29 = .ok (.iaload, 1) := by decide +kernel
theorem dX5_gatherBy_30 : decode cX5_gatherBy 30 = .ok (.iconst 1, 1) := by decide +kernel
theorem dX5_gatherBy_31 : decode cX5_gatherBy 31 = .ok (.if_icmp .ne 23, 3) := by decide +kernel
theorem dX5_gatherBy_34 : decode cX5_gatherBy 34 = .ok (.aload_n 2, 1) := by decide +kernel
theorem dX5_gatherBy_35 : decode cX5_gatherBy 35 = .ok (.iload_n 3, 1) := by decide +kernel
theorem dX5_gatherBy_36 : decode cX5_gatherBy 36 = .ok (.lload 4, 2) := by decide +kernel
theorem dX5_gatherBy_38 : decode cX5_gatherBy 38 = .ok (.aload_n 2, 1) := by decide +kernel
theorem dX5_gatherBy_39 : decode cX5_gatherBy 39 = .ok (.aload_n 0, 1) := by decide +kernel
theorem dX5_gatherBy_40 : decode cX5_gatherBy 40 = .ok (.getfield 19, 3) := by decide +kernel
theorem dX5_gatherBy_43 : decode cX5_gatherBy 43 = .ok (.getfield 57, 3) := by decide +kernel
theorem dX5_gatherBy_46 : decode cX5_gatherBy 46 = .ok (.iload_n 1, 1) := by decide +kernel
theorem dX5_gatherBy_47 : decode cX5_gatherBy 47 = .ok (.iaload, 1) := by decide +kernel
theorem dX5_gatherBy_48 : decode cX5_gatherBy 48 = .ok (.laload, 1) := by decide +kernel
theorem dX5_gatherBy_49 : decode cX5_gatherBy 49 = .ok (.ladd, 1) := by decide +kernel
theorem dX5_gatherBy_50 : decode cX5_gatherBy 50 = .ok (.invokestatic 53, 3) := by decide +kernel
theorem dX5_gatherBy_53 : decode cX5_gatherBy 53 = .ok (.ireturn, 1) := by decide +kernel
theorem dX5_gatherBy_54 : decode cX5_gatherBy 54 = .ok (.aload_n 0, 1) := by decide +kernel
theorem dX5_gatherBy_55 : decode cX5_gatherBy 55 = .ok (.getfield 19, 3) := by decide +kernel
theorem dX5_gatherBy_58 : decode cX5_gatherBy 58 = .ok (.getfield 47, 3) := by decide +kernel
theorem dX5_gatherBy_61 : decode cX5_gatherBy 61 = .ok (.iload_n 1, 1) := by decide +kernel
theorem dX5_gatherBy_62 : decode cX5_gatherBy 62 = .ok (.iaload, 1) := by decide +kernel
theorem dX5_gatherBy_63 : decode cX5_gatherBy 63 = .ok (.ifCond .ne 5, 3) := by decide +kernel
theorem dX5_gatherBy_66 : decode cX5_gatherBy 66 = .ok (.iconst 0, 1) := by decide +kernel
theorem dX5_gatherBy_67 : decode cX5_gatherBy 67 = .ok (.ireturn, 1) := by decide +kernel
theorem dX5_gatherBy_68 : decode cX5_gatherBy 68 = .ok (.iconst 0, 1) := by decide +kernel
theorem dX5_gatherBy_69 : decode cX5_gatherBy 69 = .ok (.istore 6, 2) := by decide +kernel
theorem dX5_gatherBy_71 : decode cX5_gatherBy 71 = .ok (.iconst 0, 1) := by decide +kernel
theorem dX5_gatherBy_72 : decode cX5_gatherBy 72 = .ok (.istore 7, 2) := by decide +kernel
theorem dX5_gatherBy_74 : decode cX5_gatherBy 74 = .ok (.iload 7, 2) := by decide +kernel
theorem dX5_gatherBy_76 : decode cX5_gatherBy 76 = .ok (.aload_n 0, 1) := by decide +kernel
theorem dX5_gatherBy_77 : decode cX5_gatherBy 77 = .ok (.getfield 19, 3) := by decide +kernel
theorem dX5_gatherBy_80 : decode cX5_gatherBy 80 = .ok (.getfield 64, 3) := by decide +kernel
theorem dX5_gatherBy_83 : decode cX5_gatherBy 83 = .ok (.if_icmp .ge 59, 3) := by decide +kernel
theorem dX5_gatherBy_86 : decode cX5_gatherBy 86 = .ok (.lload 4, 2) := by decide +kernel
theorem dX5_gatherBy_88 : decode cX5_gatherBy 88 = .ok (.aload_n 0, 1) := by decide +kernel
theorem dX5_gatherBy_89 : decode cX5_gatherBy 89 = .ok (.aload_n 0, 1) := by decide +kernel
theorem dX5_gatherBy_90 : decode cX5_gatherBy 90 = .ok (.getfield 19, 3) := by decide +kernel
theorem dX5_gatherBy_93 : decode cX5_gatherBy 93 = .ok (.getfield 57, 3) := by decide +kernel
theorem dX5_gatherBy_96 : decode cX5_gatherBy 96 = .ok (.iload_n 1, 1) := by decide +kernel
theorem dX5_gatherBy_97 : decode cX5_gatherBy 97 = .ok (.iaload, 1) := by decide +kernel
theorem dX5_gatherBy_98 : decode cX5_gatherBy 98 = .ok (.iload 7, 2) := by decide +kernel
theorem dX5_gatherBy_100 : decode cX5_gatherBy 100 = .ok (.invokevirtual 67, 3) := by decide +kernel
theorem dX5_gatherBy_103 : decode cX5_gatherBy 103 = .ok (.ladd, 1) := by decide +kernel
theorem dX5_gatherBy_104 : decode cX5_gatherBy 104 = .ok (.lstore 8, 2) := by decide +kernel
theorem dX5_gatherBy_106 : decode cX5_gatherBy 106 = .ok (.aload_n 2, 1) := by decide +kernel
theorem dX5_gatherBy_107 : decode cX5_gatherBy 107 = .ok (.iload_n 3, 1) := by decide +kernel
theorem dX5_gatherBy_108 : decode cX5_gatherBy 108 = .ok (.lload 8, 2) := by decide +kernel
theorem dX5_gatherBy_110 : decode cX5_gatherBy 110 = .ok (.aload_n 2, 1) := by decide +kernel
theorem dX5_gatherBy_111 : decode cX5_gatherBy 111 = .ok (.iload 7, 2) := by decide +kernel
theorem dX5_gatherBy_113 : decode cX5_gatherBy 113 = .ok (.aload_n 0, 1) := by decide +kernel
theorem dX5_gatherBy_114 : decode cX5_gatherBy 114 = .ok (.getfield 19, 3) := by decide +kernel
theorem dX5_gatherBy_117 : decode cX5_gatherBy 117 = .ok (.getfield 71, 3) := by decide +kernel
theorem dX5_gatherBy_120 : decode cX5_gatherBy 120 = .ok (.iload_n 1, 1) := by decide +kernel
theorem dX5_gatherBy_121 : decode cX5_gatherBy 121 = .ok (.iaload, 1) := by decide +kernel
theorem dX5_gatherBy_122 : decode cX5_gatherBy 122 = .ok (.invokestatic 74, 3) := by decide +kernel
theorem dX5_gatherBy_125 : decode cX5_gatherBy 125 = .ok (.laload, 1) := by decide +kernel
theorem dX5_gatherBy_126 : decode cX5_gatherBy 126 = .ok (.ladd, 1) := by decide +kernel
theorem dX5_gatherBy_127 : decode cX5_gatherBy 127 = .ok (.invokestatic 53, 3) := by decide +kernel
theorem dX5_gatherBy_130 : decode cX5_gatherBy 130 = .ok (.ifCond .eq 6, 3) := by decide +kernel
theorem dX5_gatherBy_133 : decode cX5_gatherBy 133 = .ok (.iconst 1, 1) := by decide +kernel
theorem dX5_gatherBy_134 : decode cX5_gatherBy 134 = .ok (.istore 6, 2) := by decide +kernel
theorem dX5_gatherBy_136 : decode cX5_gatherBy 136 = .ok (.iinc 7 1, 3) := by decide +kernel
theorem dX5_gatherBy_139 : decode cX5_gatherBy 139 = .ok (.goto (-65), 3) := by decide +kernel
theorem dX5_gatherBy_142 : decode cX5_gatherBy 142 = .ok (.iload 6, 2) := by decide +kernel
theorem dX5_gatherBy_144 : decode cX5_gatherBy 144 = .ok (.ireturn, 1) := by decide +kernel
theorem dX6_init_0 : decode cX6_init 0 = .ok (.aload_n 0, 1) := by decide +kernel
theorem dX6_init_1 : decode cX6_init 1 = .ok (.invokespecial 3, 3) := by decide +kernel
theorem dX6_init_4 : decode cX6_init 4 = .ok (.aload_n 0, 1) := by decide +kernel
theorem dX6_init_5 : decode cX6_init 5 = .ok (.iconst 0, 1) := by decide +kernel
theorem dX6_init_6 : decode cX6_init 6 = .ok (.putfield 9, 3) := by decide +kernel
theorem dX6_init_9 : decode cX6_init 9 = .ok (.aload_n 0, 1) := by decide +kernel
theorem dX6_init_10 : decode cX6_init 10 = .ok (.iconst 0, 1) := by decide +kernel
theorem dX6_init_11 : decode cX6_init 11 = .ok (.putfield 15, 3) := by decide +kernel
theorem dX6_init_14 : decode cX6_init 14 = .ok (.aload_n 0, 1) := by decide +kernel
theorem dX6_init_15 : decode cX6_init 15 = .ok (.sipush 200, 3) := by decide +kernel
theorem dX6_init_18 : decode cX6_init 18 = .ok (.newarray .int, 2) := by decide +kernel
theorem dX6_init_20 : decode cX6_init 20 = .ok (.putfield 18, 3) := by decide +kernel
theorem dX6_init_23 : decode cX6_init 23 = .ok (.return_, 1) := by decide +kernel
theorem dX6_append_0 : decode cX6_append 0 = .ok (.aload_n 0, 1) := by decide +kernel
theorem dX6_append_1 : decode cX6_append 1 = .ok (.getfield 9, 3) := by decide +kernel
theorem dX6_append_4 : decode cX6_append 4 = .ok (.sipush 200, 3) := by decide +kernel
theorem dX6_append_7 : decode cX6_append 7 = .ok (.if_icmp .ge 23, 3) := by decide +kernel
theorem dX6_append_10 : decode cX6_append 10 = .ok (.aload_n 0, 1) := by decide +kernel
theorem dX6_append_11 : decode cX6_append 11 = .ok (.getfield 18, 3) := by decide +kernel
theorem dX6_append_14 : decode cX6_append 14 = .ok (.aload_n 0, 1) := by decide +kernel
theorem dX6_append_15 : decode cX6_append 15 = .ok (.getfield 9, 3) := by decide +kernel
theorem dX6_append_18 : decode cX6_append 18 = .ok (.iload_n 1, 1) := by decide +kernel
theorem dX6_append_19 : decode cX6_append 19 = .ok (.iastore, 1) := by decide +kernel
theorem dX6_append_20 : decode cX6_append 20 = .ok (.aload_n 0, 1) := by decide +kernel
theorem dX6_append_21 : decode cX6_append 21 = .ok (.dup, 1) := by decide +kernel
theorem dX6_append_22 : decode cX6_append 22 = .ok (.getfield 9, 3) := by decide +kernel
theorem dX6_append_25 : decode cX6_append 25 = .ok (.iconst 1, 1) := by decide +kernel
theorem dX6_append_26 : decode cX6_append 26 = .ok (.iadd, 1) := by decide +kernel
theorem dX6_append_27 : decode cX6_append 27 = .ok (.putfield 9, 3) := by decide +kernel
theorem dX6_append_30 : decode cX6_append 30 = .ok (.return_, 1) := by decide +kernel
theorem dX6_parse_0 : decode cX6_parse 0 = .ok (.aload_n 0, 1) := by decide +kernel
theorem dX6_parse_1 : decode cX6_parse 1 = .ok (.iconst 0, 1) := by decide +kernel
theorem dX6_parse_2 : decode cX6_parse 2 = .ok (.putfield 15, 3) := by decide +kernel
theorem dX6_parse_5 : decode cX6_parse 5 = .ok (.aload_n 1, 1) := by decide +kernel
theorem dX6_parse_6 : decode cX6_parse 6 = .ok (.iconst 0, 1) := by decide +kernel
theorem dX6_parse_7 : decode cX6_parse 7 = .ok (.putfield 22, 3) := by decide +kernel
theorem dX6_parse_10 : decode cX6_parse 10 = .ok (.iconst 0, 1) := by decide +kernel
theorem dX6_parse_11 : decode cX6_parse 11 = .ok (.istore_n 2, 1) := by decide +kernel
theorem dX6_parse_12 : decode cX6_parse 12 = .ok (.iload_n 2, 1) := by decide +kernel
theorem dX6_parse_13 : decode cX6_parse 13 = .ok (.bipush 20, 2) := by decide +kernel
theorem dX6_parse_15 : decode cX6_parse 15 = .ok (.if_icmp .gt 45, 3) := by decide +kernel
theorem dX6_parse_18 : decode cX6_parse 18 = .ok (.aload_n 0, 1) := by decide +kernel
theorem dX6_parse_19 : decode cX6_parse 19 = .ok (.getfield 15, 3) := by decide +kernel
theorem dX6_parse_22 : decode cX6_parse 22 = .ok (.aload_n 0, 1) := by decide +kernel
theorem dX6_parse_23 : decode cX6_parse 23 = .ok (.getfield 9, 3) := by decide +kernel
theorem dX6_parse_26 : decode cX6_parse 26 = .ok (.if_icmp .ge 34, 3) := by decide +kernel
theorem dX6_parse_29 : decode cX6_parse 29 = .ok (.iload_n 2, 1) := by decide +kernel
theorem dX6_parse_30 : decode cX6_parse 30 = .ok (.bipush 20, 2) := by decide +kernel
theorem dX6_parse_32 : decode cX6_parse 32 = .ok (.if_icmp .ne 8, 3) := by decide +kernel
theorem dX6_parse_35 : decode cX6_parse 35 = .ok (.aload_n 0, 1) := by decide +kernel
theorem dX6_parse_36 : decode cX6_parse 36 = .ok (.getfield 15, 3) := by decide +kernel
theorem dX6_parse_39 : decode cX6_parse 39 = .ok (.ireturn, 1) := by decide +kernel
theorem dX6_parse_40 : decode cX6_parse 40 = .ok (.aload_n 0, 1) := by decide +kernel
theorem dX6_parse_41 : decode cX6_parse 41 = .ok (.aload_n 1, 1) := by decide +kernel
theorem dX6_parse_42 : decode cX6_parse 42 = .ok (.invokevirtual 27, 3) := by decide +kernel
theorem dX6_parse_45 : decode cX6_parse 45 = .ok (.istore_n 3, 1) := by decide +kernel
theorem dX6_parse_46 : decode cX6_parse 46 = .ok (.iload_n 3, 1) := by decide +kernel
theorem dX6_parse_47 : decode cX6_parse 47 = .ok (.bipush (-6), 2) := by decide +kernel
theorem dX6_parse_49 : decode cX6_parse 49 = .ok (.if_icmp .eq 5, 3) := by decide +kernel
theorem dX6_parse_52 : decode cX6_parse 52 = .ok (.iload_n 3, 1) := by decide +kernel
theorem dX6_parse_53 : decode cX6_parse 53 = .ok (.ireturn, 1) := by decide +kernel
theorem dX6_parse_54 : decode cX6_parse 54 = .ok (.iinc 2 1, 3) := by decide +kernel
theorem dX6_parse_57 : decode cX6_parse 57 = .ok (.goto (-45), 3) := by decide +kernel
theorem dX6_parse_60 : decode cX6_parse 60 = .ok (.bipush (-6), 2) := by decide +kernel
theorem dX6_parse_62 : decode cX6_parse 62 = .ok (.ireturn, 1) := by decide +kernel
theorem dX6_parseItem_0 : decode cX6_parseItem 0 = .ok (.aload_n 0, 1) := by decide +kernel
theorem dX6_parseItem_1 : decode cX6_parseItem 1 = .ok (.bipush 48, 2) := by decide +kernel
theorem dX6_parseItem_3 : decode cX6_parseItem 3 = .ok (.aload_n 1, 1) := by decide +kernel
theorem dX6_parseItem_4 : decode cX6_parseItem 4 = .ok (.getfield 31, 3) := by decide +kernel
theorem dX6_parseItem_7 : decode cX6_parseItem 7 = .ok (.invokevirtual 34, 3) := by decide +kernel
theorem dX6_parseItem_10 : decode cX6_parseItem 10 = .ok (.istore_n 2, 1) := by decide +kernel
theorem dX6_parseItem_11 : decode cX6_parseItem 11 = .ok (.iload_n 2, 1) := by decide +kernel
theorem dX6_parseItem_12 : decode cX6_parseItem 12 = .ok (.ifCond .ge 8, 3) := by decide +kernel
theorem dX6_parseItem_15 : decode cX6_parseItem 15 = .ok (.aload_n 0, 1) := by decide +kernel
theorem dX6_parseItem_16 : decode cX6_parseItem 16 = .ok (.getfield 15, 3) := by decide +kernel
theorem dX6_parseItem_19 : decode cX6_parseItem 19 = .ok (.ireturn, 1) := by decide +kernel
theorem dX6_parseItem_20 : decode cX6_parseItem 20 = .ok (.aload_n 0, 1) := by decide +kernel
theorem dX6_parseItem_21 : decode cX6_parseItem 21 = .ok (.bipush 97, 2) := by decide +kernel
theorem dX6_parseItem_23 : decode cX6_parseItem 23 = .ok (.aload_n 1, 1) := by decide +kernel
theorem dX6_parseItem_24 : decode cX6_parseItem 24 = .ok (.getfield 38, 3) := by decide +kernel
theorem dX6_parseItem_27 : decode cX6_parseItem 27 = .ok (.invokevirtual 34, 3) := by decide +kernel
theorem dX6_parseItem_30 : decode cX6_parseItem 30 = .ok (.istore_n 3, 1) := by decide +kernel
theorem dX6_parseItem_31 : decode cX6_parseItem 31 = .ok (.iload_n 3, 1) := by decide +kernel
theorem dX6_parseItem_32 : decode cX6_parseItem 32 = .ok (.ifCond .lt 13, 3) := by decide +kernel
theorem dX6_parseItem_35 : decode cX6_parseItem 35 = .ok (.aload_n 0, 1) := by decide +kernel
theorem dX6_parseItem_36 : decode cX6_parseItem 36 = .ok (.bipush 62, 2) := by decide +kernel
theorem dX6_parseItem_38 : decode cX6_parseItem 38 = .ok (.iconst 1, 1) := by decide +kernel
theorem dX6_parseItem_39 : decode cX6_parseItem 39 = .ok (.invokevirtual 34, 3) := by decide +kernel
theorem dX6_parseItem_42 : decode cX6_parseItem 42 = .ok (.ifCond .ge 8, 3) := by decide +kernel
theorem dX6_parseItem_45 : decode cX6_parseItem 45 = .ok (.aload_n 0, 1) := by decide +kernel
theorem dX6_parseItem_46 : decode cX6_parseItem 46 = .ok (.getfield 15, 3) := by decide +kernel
theorem dX6_parseItem_49 : decode cX6_parseItem 49 = .ok (.ireturn, 1) := by decide +kernel
theorem dX6_parseItem_50 : decode cX6_parseItem 50 = .ok (.aload_n 0, 1) := by decide +kernel
theorem dX6_parseItem_51 : decode cX6_parseItem 51 = .ok (.bipush 48, 2) := by decide +kernel
theorem dX6_parseItem_53 : decode cX6_parseItem 53 = .ok (.aload_n 1, 1) := by decide +kernel
theorem dX6_parseItem_54 : decode cX6_parseItem 54 = .ok (.getfield 31, 3) := by decide +kernel
theorem dX6_parseItem_57 : decode cX6_parseItem 57 = .ok (.invokevirtual 34, 3) := by decide +kernel
theorem dX6_parseItem_60 : decode cX6_parseItem 60 = .ok (.istore 4, 2) := by decide +kernel
theorem dX6_parseItem_62 : decode cX6_parseItem 62 = .ok (.iload 4, 2) := by decide +kernel
theorem dX6_parseItem_64 : decode cX6_parseItem 64 = .ok (.ifCond .ge 8, 3) := by decide +kernel
theorem dX6_parseItem_67 : decode cX6_parseItem 67 = .ok (.aload_n 0, 1) := by decide +kernel
theorem dX6_parseItem_68 : decode cX6_parseItem 68 = .ok (.getfield 15, 3) := by decide +kernel
theorem dX6_parseItem_71 : decode cX6_parseItem 71 = .ok (.ireturn, 1) := by decide +kernel
theorem dX6_parseItem_72 : decode cX6_parseItem 72 = .ok (.aload_n 0, 1) := by decide +kernel
theorem dX6_parseItem_73 : decode cX6_parseItem 73 = .ok (.aload_n 1, 1) := by decide +kernel
theorem dX6_parseItem_74 : decode cX6_parseItem 74 = .ok (.getfield 38, 3) := by decide +kernel
theorem dX6_parseItem_77 : decode cX6_parseItem 77 = .ok (.invokevirtual 41, 3) := by decide +kernel
theorem dX6_parseItem_80 : decode cX6_parseItem 80 = .ok (.istore 5, 2) := by decide +kernel
theorem dX6_parseItem_82 : decode cX6_parseItem 82 = .ok (.aload_n 0, 1) := by decide +kernel
theorem dX6_parseItem_83 : decode cX6_parseItem 83 = .ok (.bipush 58, 2) := by decide +kernel
theorem dX6_parseItem_85 : decode cX6_parseItem 85 = .ok (.iconst 1, 1) := by decide +kernel
theorem dX6_parseItem_86 : decode cX6_parseItem 86 = .ok (.invokevirtual 34, 3) := by decide +kernel
theorem dX6_parseItem_89 : decode cX6_parseItem 89 = .ok (.ifCond .ge 8, 3) := by decide +kernel
theorem dX6_parseItem_92 : decode cX6_parseItem 92 = .ok (.aload_n 0, 1) := by decide +kernel
theorem dX6_parseItem_93 : decode cX6_parseItem 93 = .ok (.getfield 15, 3) := by decide +kernel
theorem dX6_parseItem_96 : decode cX6_parseItem 96 = .ok (.ireturn, 1) := by decide +kernel
theorem dX6_parseItem_97 : decode cX6_parseItem 97 = .ok (.aload_n 0, 1) := by decide +kernel
theorem dX6_parseItem_98 : decode cX6_parseItem 98 = .ok (.getfield 15, 3) := by decide +kernel
theorem dX6_parseItem_101 : decode cX6_parseItem 101 = .ok (.istore 6, 2) := by decide +kernel
theorem dX6_parseItem_103 : decode cX6_parseItem 103 = .ok (.aload_n 0, 1) := by decide +kernel
theorem dX6_parseItem_104 : decode cX6_parseItem 104 = .ok (.invokevirtual 45, 3) := by decide +kernel
theorem dX6_parseItem_107 : decode cX6_parseItem 107 = .ok (.istore 7, 2) := by decide +kernel
theorem dX6_parseItem_109 : decode cX6_parseItem 109 = .ok (.iload 7, 2) := by decide +kernel
theorem dX6_parseItem_111 : decode cX6_parseItem 111 = .ok (.ifCond .ge 8, 3) := by decide +kernel
theorem dX6_parseItem_114 : decode cX6_parseItem 114 = .ok (.aload_n 0, 1) := by decide +kernel
theorem dX6_parseItem_115 : decode cX6_parseItem 115 = .ok (.getfield 15, 3) := by decide +kernel
theorem dX6_parseItem_118 : decode cX6_parseItem 118 = .ok (.ireturn, 1) := by decide +kernel
theorem dX6_parseItem_119 : decode cX6_parseItem 119 = .ok (.iload 7, 2) := by decide +kernel
theorem dX6_parseItem_121 : decode cX6_parseItem 121 = .ok (.invokestatic 49, 3) := by decide +kernel
theorem dX6_parseItem_124 : decode cX6_parseItem 124 = .ok (.ifCond .ne 6, 3) := by decide +kernel
theorem dX6_parseItem_127 : decode cX6_parseItem 127 = .ok (.iload 6, 2) := by decide +kernel
theorem dX6_parseItem_129 : decode cX6_parseItem 129 = .ok (.ireturn, 1) := by decide +kernel
theorem dX6_parseItem_130 : decode cX6_parseItem 130 = .ok (.aload_n 0, 1) := by decide +kernel
theorem dX6_parseItem_131 : decode cX6_parseItem 131 = .ok (.bipush 59, 2) := by decide +kernel
theorem dX6_parseItem_133 : decode cX6_parseItem 133 = .ok (.iconst 1, 1) := by decide +kernel
theorem dX6_parseItem_134 : decode cX6_parseItem 134 = .ok (.invokevirtual 34, 3) := by decide +kernel
theorem dX6_parseItem_137 : decode cX6_parseItem 137 = .ok (.ifCond .ge 8, 3) := by decide +kernel
theorem dX6_parseItem_140 : decode cX6_parseItem 140 = .ok (.aload_n 0, 1) := by decide +kernel
theorem dX6_parseItem_141 : decode cX6_parseItem 141 = .ok (.getfield 15, 3) := by decide +kernel
theorem dX6_parseItem_144 : decode cX6_parseItem 144 = .ok (.ireturn, 1) := by decide +kernel
theorem dX6_parseItem_145 : decode cX6_parseItem 145 = .ok (.aload_n 1, 1) := by decide +kernel
theorem dX6_parseItem_146 : decode cX6_parseItem 146 = .ok (.iload_n 2, 1) := by decide +kernel
theorem dX6_parseItem_147 : decode cX6_parseItem 147 = .ok (.iload_n 3, 1) := by decide +kernel
theorem dX6_parseItem_148 : decode cX6_parseItem 148 = .ok (.iconst 1, 1) := by decide +kernel
theorem dX6_parseItem_149 : decode cX6_parseItem 149 = .ok (.iadd, 1) := by decide +kernel
theorem dX6_parseItem_150 : decode cX6_parseItem 150 = .ok (.iload 4, 2) := by decide +kernel
theorem dX6_parseItem_152 : decode cX6_parseItem 152 = .ok (.iload 5, 2) := by decide +kernel
theorem dX6_parseItem_154 : decode cX6_parseItem 154 = .ok (.invokevirtual 53, 3) := by decide +kernel
theorem dX6_parseItem_157 : decode cX6_parseItem 157 = .ok (.ifCond .eq 10, 3) := by decide +kernel
theorem dX6_parseItem_160 : decode cX6_parseItem 160 = .ok (.aload_n 0, 1) := by decide +kernel
theorem dX6_parseItem_161 : decode cX6_parseItem 161 = .ok (.getfield 15, 3) := by decide +kernel
theorem dX6_parseItem_164 : decode cX6_parseItem 164 = .ok (.iconst 1, 1) := by decide +kernel
theorem dX6_parseItem_165 : decode cX6_parseItem 165 = .ok (.isub, 1) := by decide +kernel
theorem dX6_parseItem_166 : decode cX6_parseItem 166 = .ok (.ireturn, 1) := by decide +kernel
theorem dX6_parseItem_167 : decode cX6_parseItem 167 = .ok (.aload_n 1, 1) := by decide +kernel
theorem dX6_parseItem_168 : decode cX6_parseItem 168 = .ok (.iload_n 2, 1) := by decide +kernel
theorem dX6_parseItem_169 : decode cX6_parseItem 169 = .ok (.iload_n 3, 1) := by decide +kernel
theorem dX6_parseItem_170 : decode cX6_parseItem 170 = .ok (.iconst 1, 1) := by decide +kernel
theorem dX6_parseItem_171 : decode cX6_parseItem 171 = .ok (.iadd, 1) := by decide +kernel
theorem dX6_parseItem_172 : decode cX6_parseItem 172 = .ok (.iload 4, 2) := by decide +kernel
theorem dX6_parseItem_174 : decode cX6_parseItem 174 = .ok (.iload 5, 2) := by decide +kernel
theorem dX6_parseItem_176 : decode cX6_parseItem 176 = .ok (.iload 7, 2) := by decide +kernel
theorem dX6_parseItem_178 : decode cX6_parseItem 178 = .ok (.invokevirtual 57, 3) := by decide +kernel
theorem dX6_parseItem_181 : decode cX6_parseItem 181 = .ok (.bipush (-6), 2) := by decide +kernel
theorem dX6_parseItem_183 : decode cX6_parseItem 183 = .ok (.ireturn, 1) := by decide +kernel
theorem dX6_takeOneOf_0 : decode cX6_takeOneOf 0 = .ok (.aload_n 0, 1) := by decide +kernel
theorem dX6_takeOneOf_1 : decode cX6_takeOneOf 1 = .ok (.getfield 15, 3) := by decide +kernel
theorem dX6_takeOneOf_4 : decode cX6_takeOneOf 4 = .ok (.aload_n 0, 1) := by decide +kernel
theorem dX6_takeOneOf_5 : decode cX6_takeOneOf 5 = .ok (.getfield 9, 3) := by decide +kernel
theorem dX6_takeOneOf_8 : decode cX6_takeOneOf 8 = .ok (.if_icmp .ge 31, 3) := by decide +kernel
theorem dX6_takeOneOf_11 : decode cX6_takeOneOf 11 = .ok (.aload_n 0, 1) := by decide +kernel
theorem dX6_takeOneOf_12 : decode cX6_takeOneOf 12 = .ok (.getfield 18, 3) := by decide +kernel
theorem dX6_takeOneOf_15 : decode cX6_takeOneOf 15 = .ok (.aload_n 0, 1) := by decide +kernel
theorem dX6_takeOneOf_16 : decode cX6_takeOneOf 16 = .ok (.getfield 15, 3) := by decide +kernel
theorem dX6_takeOneOf_19 : decode cX6_takeOneOf 19 = .ok (.iaload, 1) := by decide +kernel
theorem dX6_takeOneOf_20 : decode cX6_takeOneOf 20 = .ok (.iload_n 1, 1) := by decide +kernel
theorem dX6_takeOneOf_21 : decode cX6_takeOneOf 21 = .ok (.if_icmp .lt 18, 3) := by decide +kernel
theorem dX6_takeOneOf_24 : decode cX6_takeOneOf 24 = .ok (.aload_n 0, 1) := by decide +kernel
theorem dX6_takeOneOf_25 : decode cX6_takeOneOf 25 = .ok (.getfield 18, 3) := by decide +kernel
theorem dX6_takeOneOf_28 : decode cX6_takeOneOf 28 = .ok (.aload_n 0, 1) := by decide +kernel
theorem dX6_takeOneOf_29 : decode cX6_takeOneOf 29 = .ok (.getfield 15, 3) := by decide +kernel
theorem dX6_takeOneOf_32 : decode cX6_takeOneOf 32 = .ok (.iaload, 1) := by decide +kernel
theorem dX6_takeOneOf_33 : decode cX6_takeOneOf 33 = .ok (.iload_n 1, 1) := by decide +kernel
theorem dX6_takeOneOf_34 : decode cX6_takeOneOf 34 = .ok (.iload_n 2, 1) := by decide +kernel
theorem dX6_takeOneOf_35 : decode cX6_takeOneOf 35 = .ok (.iadd, 1) := by decide +kernel
theorem dX6_takeOneOf_36 : decode cX6_takeOneOf 36 = .ok (.if_icmp .lt 5, 3) := by decide +kernel
theorem dX6_takeOneOf_39 : decode cX6_takeOneOf 39 = .ok (.iconst (-1), 1) := by decide +kernel
theorem dX6_takeOneOf_40 : decode cX6_takeOneOf 40 = .ok (.ireturn, 1) := by decide +kernel
theorem dX6_takeOneOf_41 : decode cX6_takeOneOf 41 = .ok (.aload_n 0, 1) := by decide +kernel
theorem dX6_takeOneOf_42 : decode cX6_takeOneOf 42 = .ok (.getfield 18, 3) := by decide +kernel
theorem dX6_takeOneOf_45 : decode cX6_takeOneOf 45 = .ok (.aload_n 0, 1) := by decide +kernel
theorem dX6_takeOneOf_46 : decode cX6_takeOneOf 46 = .ok (.getfield 15, 3) := by decide +kernel
theorem dX6_takeOneOf_49 : decode cX6_takeOneOf 49 = .ok (.iaload, 1) := by decide +kernel
theorem dX6_takeOneOf_50 : decode cX6_takeOneOf 50 = .ok (.iload_n 1, 1) := by decide +kernel
theorem dX6_takeOneOf_51 : decode cX6_takeOneOf 51 = .ok (.isub, 1) := by decide +kernel
theorem dX6_takeOneOf_52 : decode cX6_takeOneOf 52 = .ok (.istore_n 3, 1) := by decide +kernel
theorem dX6_takeOneOf_53 : decode cX6_takeOneOf 53 = .ok (.aload_n 0, 1) := by decide +kernel
theorem dX6_takeOneOf_54 : decode cX6_takeOneOf 54 = .ok (.dup, 1) := by decide +kernel
theorem dX6_takeOneOf_55 : decode cX6_takeOneOf 55 = .ok (.getfield 15, 3) := by decide +kernel
theorem dX6_takeOneOf_58 : decode cX6_takeOneOf 58 = .ok (.iconst 1, 1) := by decide +kernel
theorem dX6_takeOneOf_59 : decode cX6_takeOneOf 59 = .ok (.iadd, 1) := by decide +kernel
theorem dX6_takeOneOf_60 : decode cX6_takeOneOf 60 = .ok (.putfield 15, 3) := by decide +kernel
theorem dX6_takeOneOf_63 : decode cX6_takeOneOf 63 = .ok (.iload_n 3, 1) := by decide +kernel
theorem dX6_takeOneOf_64 : decode cX6_takeOneOf 64 = .ok (.ireturn, 1) := by decide +kernel
theorem dX6_takeWord_0 : decode cX6_takeWord 0 = .ok (.iconst 0, 1) := by decide +kernel
theorem dX6_takeWord_1 : decode cX6_takeWord 1 = .ok (.istore_n 2, 1) := by decide +kernel
theorem dX6_takeWord_2 : decode cX6_takeWord 2 = .ok (.iconst 0, 1) := by decide +kernel
theorem dX6_takeWord_3 : decode cX6_takeWord 3 = .ok (.istore_n 3, 1) := by decide +kernel
theorem dX6_takeWord_4 : decode cX6_takeWord 4 = .ok (.iload_n 3, 1) := by decide +kernel
theorem dX6_takeWord_5 : decode cX6_takeWord 5 = .ok (.iconst 2, 1) := by decide +kernel
theorem dX6_takeWord_6 : decode cX6_takeWord 6 = .ok (.if_icmp .ge 35, 3) := by decide +kernel
theorem dX6_takeWord_9 : decode cX6_takeWord 9 = .ok (.aload_n 0, 1) := by decide +kernel
theorem dX6_takeWord_10 : decode cX6_takeWord 10 = .ok (.bipush 97, 2) := by decide +kernel
theorem dX6_takeWord_12 : decode cX6_takeWord 12 = .ok (.iload_n 1, 1) := by decide +kernel
theorem dX6_takeWord_13 : decode cX6_takeWord 13 = .ok (.invokevirtual 34, 3) := by decide +kernel
theorem dX6_takeWord_16 : decode cX6_takeWord 16 = .ok (.istore 4, 2) := by decide +kernel
theorem dX6_takeWord_18 : decode cX6_takeWord 18 = .ok (.iload 4, 2) := by decide +kernel
theorem dX6_takeWord_20 : decode cX6_takeWord 20 = .ok (.ifCond .ge 5, 3) := by decide +kernel
theorem dX6_takeWord_23 : decode cX6_takeWord 23 = .ok (.iload_n 2, 1) := by decide +kernel
theorem dX6_takeWord_24 : decode cX6_takeWord 24 = .ok (.ireturn, 1) := by decide +kernel
theorem dX6_takeWord_25 : decode cX6_takeWord 25 = .ok (.iload_n 2, 1) := by decide +kernel
theorem dX6_takeWord_26 : decode cX6_takeWord 26 = .ok (.bipush 10, 2) := by decide +kernel
theorem dX6_takeWord_28 : decode cX6_takeWord 28 = .ok (.imul, 1) := by decide +kernel
theorem dX6_takeWord_29 : decode cX6_takeWord 29 = .ok (.iload 4, 2) := by decide +kernel
theorem dX6_takeWord_31 : decode cX6_takeWord 31 = .ok (.iadd, 1) := by decide +kernel
theorem dX6_takeWord_32 : decode cX6_takeWord 32 = .ok (.iconst 1, 1) := by decide +kernel
theorem dX6_takeWord_33 : decode cX6_takeWord 33 = .ok (.iadd, 1) := by decide +kernel
theorem dX6_takeWord_34 : decode cX6_takeWord 34 = .ok (.istore_n 2, 1) := by decide +kernel
theorem dX6_takeWord_35 : decode cX6_takeWord 35 = .ok (.iinc 3 1, 3) := by decide +kernel
theorem dX6_takeWord_38 : decode cX6_takeWord 38 = .ok (.goto (-34), 3) := by decide +kernel
theorem dX6_takeWord_41 : decode cX6_takeWord 41 = .ok (.iload_n 2, 1) := by decide +kernel
theorem dX6_takeWord_42 : decode cX6_takeWord 42 = .ok (.ireturn, 1) := by decide +kernel
theorem dX6_takeWeight_0 : decode cX6_takeWeight 0 = .ok (.aload_n 0, 1) := by decide +kernel
theorem dX6_takeWeight_1 : decode cX6_takeWeight 1 = .ok (.bipush 48, 2) := by decide +kernel
theorem dX6_takeWeight_3 : decode cX6_takeWeight 3 = .ok (.bipush 10, 2) := by decide +kernel
theorem dX6_takeWeight_5 : decode cX6_takeWeight 5 = .ok (.invokevirtual 34, 3) := by decide +kernel
theorem dX6_takeWeight_8 : decode cX6_takeWeight 8 = .ok (.istore_n 1, 1) := by decide +kernel
theorem dX6_takeWeight_9 : decode cX6_takeWeight 9 = .ok (.iload_n 1, 1) := by decide +kernel
theorem dX6_takeWeight_10 : decode cX6_takeWeight 10 = .ok (.ifCond .ge 5, 3) := by decide +kernel
theorem dX6_takeWeight_13 : decode cX6_takeWeight 13 = .ok (.iconst (-1), 1) := by decide +kernel
theorem dX6_takeWeight_14 : decode cX6_takeWeight 14 = .ok (.ireturn, 1) := by decide +kernel
theorem dX6_takeWeight_15 : decode cX6_takeWeight 15 = .ok (.aload_n 0, 1) := by decide +kernel
theorem dX6_takeWeight_16 : decode cX6_takeWeight 16 = .ok (.bipush 48, 2) := by decide +kernel
theorem dX6_takeWeight_18 : decode cX6_takeWeight 18 = .ok (.bipush 10, 2) := by decide +kernel
theorem dX6_takeWeight_20 : decode cX6_takeWeight 20 = .ok (.invokevirtual 34, 3) := by decide +kernel
theorem dX6_takeWeight_23 : decode cX6_takeWeight 23 = .ok (.istore_n 2, 1) := by decide +kernel
theorem dX6_takeWeight_24 : decode cX6_takeWeight 24 = .ok (.iload_n 2, 1) := by decide +kernel
theorem dX6_takeWeight_25 : decode cX6_takeWeight 25 = .ok (.ifCond .ge 7, 3) := by decide +kernel
theorem dX6_takeWeight_28 : decode cX6_takeWeight 28 = .ok (.iload_n 1, 1) := by decide +kernel
theorem dX6_takeWeight_29 : decode cX6_takeWeight 29 = .ok (.goto 9, 3) := by decide +kernel
theorem dX6_takeWeight_32 : decode cX6_takeWeight 32 = .ok (.iload_n 1, 1) := by decide +kernel
theorem dX6_takeWeight_33 : decode cX6_takeWeight 33 = .ok (.bipush 10, 2) := by decide +kernel
theorem dX6_takeWeight_35 : decode cX6_takeWeight 35 = .ok (.imul, 1) := by decide +kernel
theorem dX6_takeWeight_36 : decode cX6_takeWeight 36 = .ok (.iload_n 2, 1) := by decide +kernel
theorem dX6_takeWeight_37 : decode cX6_takeWeight 37 = .ok (.iadd, 1) := by decide +kernel
theorem dX6_takeWeight_38 : decode cX6_takeWeight 38 = .ok (.ireturn, 1) := by decide +kernel
theorem dX7_init_0 : decode cX7_init 0 = .ok (.aload_n 0, 1) := by decide +kernel
theorem dX7_init_1 : decode cX7_init 1 = .ok (.invokespecial 3, 3) := by decide +kernel
theorem dX7_init_4 : decode cX7_init 4 = .ok (.aload_n 0, 1) := by decide +kernel
theorem dX7_init_5 : decode cX7_init 5 = .ok (.iconst 0, 1) := by decide +kernel
theorem dX7_init_6 : decode cX7_init 6 = .ok (.putfield 9, 3) := by decide +kernel
theorem dX7_init_9 : decode cX7_init 9 = .ok (.aload_n 0, 1) := by decide +kernel
theorem dX7_init_10 : decode cX7_init 10 = .ok (.iconst 0, 1) := by decide +kernel
theorem dX7_init_11 : decode cX7_init 11 = .ok (.putfield 15, 3) := by decide +kernel
theorem dX7_init_14 : decode cX7_init 14 = .ok (.aload_n 0, 1) := by decide +kernel
theorem dX7_init_15 : decode cX7_init 15 = .ok (.iconst 0, 1) := by decide +kernel
theorem dX7_init_16 : decode cX7_init 16 = .ok (.putfield 18, 3) := by decide +kernel
theorem dX7_init_19 : decode cX7_init 19 = .ok (.aload_n 0, 1) := by decide +kernel
theorem dX7_init_20 : decode cX7_init 20 = .ok (.iconst 0, 1) := by decide +kernel
theorem dX7_init_21 : decode cX7_init 21 = .ok (.putfield 22, 3) := by decide +kernel
theorem dX7_init_24 : decode cX7_init 24 = .ok (.aload_n 0, 1) := by decide +kernel
theorem dX7_init_25 : decode cX7_init 25 = .ok (.sipush 301, 3) := by decide +kernel
theorem dX7_init_28 : decode cX7_init 28 = .ok (.newarray .int, 2) := by decide +kernel
theorem dX7_init_30 : decode cX7_init 30 = .ok (.putfield 25, 3) := by decide +kernel
theorem dX7_init_33 : decode cX7_init 33 = .ok (.aload_n 0, 1) := by decide +kernel
theorem dX7_init_34 : decode cX7_init 34 = .ok (.sipush 301, 3) := by decide +kernel
theorem dX7_init_37 : decode cX7_init 37 = .ok (.newarray .int, 2) := by decide +kernel
theorem dX7_init_39 : decode cX7_init 39 = .ok (.putfield 29, 3) := by decide +kernel
theorem dX7_init_42 : decode cX7_init 42 = .ok (.aload_n 0, 1) := by decide +kernel
theorem dX7_init_43 : decode cX7_init 43 = .ok (.sipush 301, 3) := by decide +kernel
theorem dX7_init_46 : decode cX7_init 46 = .ok (.newarray .int, 2) := by decide +kernel
theorem dX7_init_48 : decode cX7_init 48 = .ok (.putfield 32, 3) := by decide +kernel
theorem dX7_init_51 : decode cX7_init 51 = .ok (.aload_n 0, 1) := by decide +kernel
theorem dX7_init_52 : decode cX7_init 52 = .ok (.sipush 301, 3) := by decide +kernel
theorem dX7_init_55 : decode cX7_init 55 = .ok (.newarray .int, 2) := by decide +kernel
theorem dX7_init_57 : decode cX7_init 57 = .ok (.putfield 35, 3) := by decide +kernel
theorem dX7_init_60 : decode cX7_init 60 = .ok (.return_, 1) := by decide +kernel
theorem dX7_follow_0 : decode cX7_follow 0 = .ok (.aload_n 0, 1) := by decide +kernel
theorem dX7_follow_1 : decode cX7_follow 1 = .ok (.getfield 9, 3) := by decide +kernel
theorem dX7_follow_4 : decode cX7_follow 4 = .ok (.ifCond .eq 4, 3) := by decide +kernel
theorem dX7_follow_7 : decode cX7_follow 7 = .ok (.return_, 1) := by decide +kernel
theorem dX7_follow_8 : decode cX7_follow 8 = .ok (.aload_n 2, 1) := by decide +kernel
theorem dX7_follow_9 : decode cX7_follow 9 = .ok (.getfield 38, 3) := by decide +kernel
theorem dX7_follow_12 : decode cX7_follow 12 = .ok (.istore_n 3, 1) := by decide +kernel
theorem dX7_follow_13 : decode cX7_follow 13 = .ok (.aload_n 1, 1) := by decide +kernel
theorem dX7_follow_14 : decode cX7_follow 14 = .ok (.iload_n 3, 1) := by decide +kernel
theorem dX7_follow_15 : decode cX7_follow 15 = .ok (.aload_n 2, 1) := by decide +kernel
theorem dX7_follow_16 : decode cX7_follow 16 = .ok (.getfield 43, 3) := by decide +kernel
theorem dX7_follow_19 : decode cX7_follow 19 = .ok (.invokevirtual 47, 3) := by decide +kernel
theorem dX7_follow_22 : decode cX7_follow 22 = .ok (.lstore 4, 2) := by decide +kernel
theorem dX7_follow_24 : decode cX7_follow 24 = .ok (.aload_n 0, 1) := by decide +kernel
theorem dX7_follow_25 : decode cX7_follow 25 = .ok (.iconst 0, 1) := by decide +kernel
theorem dX7_follow_26 : decode cX7_follow 26 = .ok (.putfield 18, 3) := by decide +kernel
theorem dX7_follow_29 : decode cX7_follow 29 = .ok (.aload_n 0, 1) := by decide +kernel
theorem dX7_follow_30 : decode cX7_follow 30 = .ok (.iconst 0, 1) := by decide +kernel
theorem dX7_follow_31 : decode cX7_follow 31 = .ok (.putfield 22, 3) := by decide +kernel
theorem dX7_follow_34 : decode cX7_follow 34 = .ok (.iconst 0, 1) := by decide +kernel
theorem dX7_follow_35 : decode cX7_follow 35 = .ok (.istore 6, 2) := by decide +kernel
theorem dX7_follow_37 : decode cX7_follow 37 = .ok (.iload 6, 2) := by decide +kernel
theorem dX7_follow_39 : decode cX7_follow 39 = .ok (.sipush 301, 3) := by decide +kernel
theorem dX7_follow_42 : decode cX7_follow 42 = .ok (.if_icmp .ge 113, 3) := by decide +kernel
theorem dX7_follow_45 : decode cX7_follow 45 = .ok (.lload 4, 2) := by decide +kernel
theorem dX7_follow_47 : decode cX7_follow 47 = .ok (.lconst 0, 1) := by decide +kernel
theorem dX7_follow_48 : decode cX7_follow 48 = .ok (.lcmp, 1) := by decide +kernel
theorem dX7_follow_49 : decode cX7_follow 49 = .ok (.ifCond .le 106, 3) := by decide +kernel
theorem dX7_follow_52 : decode cX7_follow 52 = .ok (.aload_n 0, 1) := by decide +kernel
theorem dX7_follow_53 : decode cX7_follow 53 = .ok (.getfield 29, 3) := by decide +kernel
theorem dX7_follow_56 : decode cX7_follow 56 = .ok (.iload 6, 2) := by decide +kernel
theorem dX7_follow_58 : decode cX7_follow 58 = .ok (.iload_n 3, 1) := by decide +kernel
theorem dX7_follow_59 : decode cX7_follow 59 = .ok (.iastore, 1) := by decide +kernel
theorem dX7_follow_60 : decode cX7_follow 60 = .ok (.aload_n 0, 1) := by decide +kernel
theorem dX7_follow_61 : decode cX7_follow 61 = .ok (.getfield 32, 3) := by decide +kernel
theorem dX7_follow_64 : decode cX7_follow 64 = .ok (.iload 6, 2) := by decide +kernel
theorem dX7_follow_66 : decode cX7_follow 66 = .ok (.aload_n 1, 1) := by decide +kernel
theorem dX7_follow_67 : decode cX7_follow 67 = .ok (.invokevirtual 53, 3) := by decide +kernel
theorem dX7_follow_70 : decode cX7_follow 70 = .ok (.iastore, 1) := by decide +kernel
theorem dX7_follow_71 : decode cX7_follow 71 = .ok (.aload_n 0, 1) := by decide +kernel
theorem dX7_follow_72 : decode cX7_follow 72 = .ok (.getfield 35, 3) := by decide +kernel
theorem dX7_follow_75 : decode cX7_follow 75 = .ok (.iload 6, 2) := by decide +kernel
theorem dX7_follow_77 : decode cX7_follow 77 = .ok (.aload_n 1, 1) := by decide +kernel
theorem dX7_follow_78 : decode cX7_follow 78 = .ok (.getfield 57, 3) := by decide +kernel
theorem dX7_follow_81 : decode cX7_follow 81 = .ok (.iastore, 1) := by decide +kernel
theorem dX7_follow_82 : decode cX7_follow 82 = .ok (.aload_n 1, 1) := by decide +kernel
theorem dX7_follow_83 : decode cX7_follow 83 = .ok (.iload_n 3, 1) := by decide +kernel
theorem dX7_follow_84 : decode cX7_follow 84 = .ok (.lload 4, 2) := by decide +kernel
theorem dX7_follow_86 : decode cX7_follow 86 = .ok (.invokevirtual 60, 3) := by decide +kernel
theorem dX7_follow_89 : decode cX7_follow 89 = .ok (.istore 7, 2) := by decide +kernel
theorem dX7_follow_91 : decode cX7_follow 91 = .ok (.iload 7, 2) := by decide +kernel
theorem dX7_follow_93 : decode cX7_follow 93 = .ok (.ifCond .ge 6, 3) := by decide +kernel
theorem dX7_follow_96 : decode cX7_follow 96 = .ok (.goto 59, 3) := by decide +kernel
theorem dX7_follow_99 : decode cX7_follow 99 = .ok (.aload_n 0, 1) := by decide +kernel
theorem dX7_follow_100 : decode cX7_follow 100 = .ok (.getfield 25, 3) := by decide +kernel
theorem dX7_follow_103 : decode cX7_follow 103 = .ok (.iload 6, 2) := by decide +kernel
theorem dX7_follow_105 : decode cX7_follow 105 = .ok (.iload 7, 2) := by decide +kernel
theorem dX7_follow_107 : decode cX7_follow 107 = .ok (.iastore, 1) := by decide +kernel
theorem dX7_follow_108 : decode cX7_follow 108 = .ok (.aload_n 0, 1) := by decide +kernel
theorem dX7_follow_109 : decode cX7_follow 109 = .ok (.dup, 1) := by decide +kernel
theorem dX7_follow_110 : decode cX7_follow 110 = .ok (.getfield 22, 3) := by decide +kernel
theorem dX7_follow_113 : decode cX7_follow 113 = .ok (.iconst 1, 1) := by decide +kernel
theorem dX7_follow_114 : decode cX7_follow 114 = .ok (.iload 7, 2) := by decide +kernel
theorem dX7_follow_116 : decode cX7_follow 116 = .ok (.ishl, 1) := by decide +kernel
theorem dX7_follow_117 : decode cX7_follow 117 = .ok (.ior, 1) := by decide +kernel
theorem dX7_follow_118 : decode cX7_follow 118 = .ok (.putfield 22, 3) := by decide +kernel
theorem dX7_follow_121 : decode cX7_follow 121 = .ok (.aload_n 0, 1) := by decide +kernel
theorem dX7_follow_122 : decode cX7_follow 122 = .ok (.iload 6, 2) := by decide +kernel
theorem dX7_follow_124 : decode cX7_follow 124 = .ok (.iconst 1, 1) := by decide +kernel
theorem dX7_follow_125 : decode cX7_follow 125 = .ok (.iadd, 1) := by decide +kernel
theorem dX7_follow_126 : decode cX7_follow 126 = .ok (.putfield 18, 3) := by decide +kernel
theorem dX7_follow_129 : decode cX7_follow 129 = .ok (.lload 4, 2) := by decide +kernel
theorem dX7_follow_131 : decode cX7_follow 131 = .ok (.aload_n 2, 1) := by decide +kernel
theorem dX7_follow_132 : decode cX7_follow 132 = .ok (.getfield 64, 3) := by decide +kernel
theorem dX7_follow_135 : decode cX7_follow 135 = .ok (.iload 7, 2) := by decide +kernel
theorem dX7_follow_137 : decode cX7_follow 137 = .ok (.laload, 1) := by decide +kernel
theorem dX7_follow_138 : decode cX7_follow 138 = .ok (.lsub, 1) := by decide +kernel
theorem dX7_follow_139 : decode cX7_follow 139 = .ok (.lstore 4, 2) := by decide +kernel
theorem dX7_follow_141 : decode cX7_follow 141 = .ok (.aload_n 2, 1) := by decide +kernel
theorem dX7_follow_142 : decode cX7_follow 142 = .ok (.getfield 68, 3) := by decide +kernel
theorem dX7_follow_145 : decode cX7_follow 145 = .ok (.iload 7, 2) := by decide +kernel
theorem dX7_follow_147 : decode cX7_follow 147 = .ok (.iaload, 1) := by decide +kernel
theorem dX7_follow_148 : decode cX7_follow 148 = .ok (.istore_n 3, 1) := by decide +kernel
theorem dX7_follow_149 : decode cX7_follow 149 = .ok (.iinc 6 1, 3) := by decide +kernel
theorem dX7_follow_152 : decode cX7_follow 152 = .ok (.goto (-115), 3) := by decide +kernel
theorem dX7_follow_155 : decode cX7_follow 155 = .ok (.aload_n 0, 1) := by decide +kernel
theorem dX7_follow_156 : decode cX7_follow 156 = .ok (.lload 4, 2) := by decide +kernel
theorem dX7_follow_158 : decode cX7_follow 158 = .ok (.lconst 0, 1) := by decide +kernel
theorem dX7_follow_159 : decode cX7_follow 159 = .ok (.lcmp, 1) := by decide +kernel
theorem dX7_follow_160 : decode cX7_follow 160 = .ok (.ifCond .ne 7, 3) := by decide +kernel
theorem dX7_follow_163 : decode cX7_follow 163 = .ok (.iconst 1, 1) := by decide +kernel
theorem dX7_follow_164 : decode cX7_follow 164 = .ok (.goto 4, 3) := by decide +kernel
theorem dX7_follow_167 : decode cX7_follow 167 = .ok (.iconst 0, 1) := by decide +kernel
theorem dX7_follow_168 : decode cX7_follow 168 = .ok (.putfield 15, 3) := by decide +kernel
theorem dX7_follow_171 : decode cX7_follow 171 = .ok (.aload_n 0, 1) := by decide +kernel
theorem dX7_follow_172 : decode cX7_follow 172 = .ok (.iconst 1, 1) := by decide +kernel
theorem dX7_follow_173 : decode cX7_follow 173 = .ok (.putfield 9, 3) := by decide +kernel
theorem dX7_follow_176 : decode cX7_follow 176 = .ok (.return_, 1) := by decide +kernel
theorem dX7_part_0 : decode cX7_part 0 = .ok (.iload_n 2, 1) := by decide +kernel
theorem dX7_part_1 : decode cX7_part 1 = .ok (.tableswitch 48 0 2 #[27, 34, 41], 27) := by decide +kernel
theorem dX7_part_28 : decode cX7_part 28 = .ok (.aload_n 0, 1) := by decide +kernel
theorem dX7_part_29 : decode cX7_part 29 = .ok (.getfield 25, 3) := by decide +kernel
theorem dX7_part_32 : decode cX7_part 32 = .ok (.iload_n 1, 1) := by decide +kernel
theorem dX7_part_33 : decode cX7_part 33 = .ok (.iaload, 1) := by decide +kernel
theorem dX7_part_34 : decode cX7_part 34 = .ok (.ireturn, 1) := by decide +kernel
theorem dX7_part_35 : decode cX7_part 35 = .ok (.aload_n 0, 1) := by decide +kernel
theorem dX7_part_36 : decode cX7_part 36 = .ok (.getfield 29, 3) := by decide +kernel
theorem dX7_part_39 : decode cX7_part 39 = .ok (.iload_n 1, 1) := by decide +kernel
theorem dX7_part_40 : decode cX7_part 40 = .ok (.iaload, 1) := by decide +kernel
theorem dX7_part_41 : decode cX7_part 41 = .ok (.ireturn, 1) := by decide +kernel
theorem dX7_part_42 : decode cX7_part 42 = .ok (.aload_n 0, 1) := by decide +kernel
theorem dX7_part_43 : decode cX7_part 43 = .ok (.getfield 32, 3) := by decide +kernel
theorem dX7_part_46 : decode cX7_part 46 = .ok (.iload_n 1, 1) := by decide +kernel
theorem dX7_part_47 : decode cX7_part 47 = .ok (.iaload, 1) := by decide +kernel
theorem dX7_part_48 : decode cX7_part 48 = .ok (.ireturn, 1) := by decide +kernel
theorem dX7_part_49 : decode cX7_part 49 = .ok (.aload_n 0, 1) := by decide +kernel
theorem dX7_part_50 : decode cX7_part 50 = .ok (.getfield 35, 3) := by decide +kernel
theorem dX7_part_53 : decode cX7_part 53 = .ok (.iload_n 1, 1) := by decide +kernel
theorem dX7_part_54 : decode cX7_part 54 = .ok (.iaload, 1) := by decide +kernel
theorem dX7_part_55 : decode cX7_part 55 = .ok (.ireturn, 1) := by decide +kernel
theorem dX8_init_0 : decode cX8_init 0 = .ok (.aload_n 0, 1) := by decide +kernel
theorem dX8_init_1 : decode cX8_init 1 = .ok (.invokespecial 3, 3) := by decide +kernel
theorem dX8_init_4 : decode cX8_init 4 = .ok (.aload_n 0, 1) := by decide +kernel
theorem dX8_init_5 : decode cX8_init 5 = .ok (.iconst 0, 1) := by decide +kernel
theorem dX8_init_6 : decode cX8_init 6 = .ok (.putfield 9, 3) := by decide +kernel
theorem dX8_init_9 : decode cX8_init 9 = .ok (.aload_n 0, 1) := by decide +kernel
theorem dX8_init_10 : decode cX8_init 10 = .ok (.bipush 10, 2) := by decide +kernel
theorem dX8_init_12 : decode cX8_init 12 = .ok (.newarray .int, 2) := by decide +kernel
theorem dX8_init_14 : decode cX8_init 14 = .ok (.putfield 15, 3) := by decide +kernel
theorem dX8_init_17 : decode cX8_init 17 = .ok (.return_, 1) := by decide +kernel
theorem dX8_take_0 : decode cX8_take 0 = .ok (.aload_n 0, 1) := by decide +kernel
theorem dX8_take_1 : decode cX8_take 1 = .ok (.iconst 0, 1) := by decide +kernel
theorem dX8_take_2 : decode cX8_take 2 = .ok (.putfield 9, 3) := by decide +kernel
theorem dX8_take_5 : decode cX8_take 5 = .ok (.iload_n 1, 1) := by decide +kernel
theorem dX8_take_6 : decode cX8_take 6 = .ok (.ifCond .ge 5, 3) := by decide +kernel
theorem dX8_take_9 : decode cX8_take 9 = .ok (.iconst 0, 1) := by decide +kernel
theorem dX8_take_10 : decode cX8_take 10 = .ok (.ireturn, 1) := by decide +kernel
theorem dX8_take_11 : decode cX8_take 11 = .ok (.iload_n 1, 1) := by decide +kernel
theorem dX8_take_12 : decode cX8_take 12 = .ok (.invokestatic 19, 3) := by decide +kernel
theorem dX8_take_15 : decode cX8_take 15 = .ok (.istore_n 3, 1) := by decide +kernel
theorem dX8_take_16 : decode cX8_take 16 = .ok (.iload_n 1, 1) := by decide +kernel
theorem dX8_take_17 : decode cX8_take 17 = .ok (.istore 4, 2) := by decide +kernel
theorem dX8_take_19 : decode cX8_take 19 = .ok (.iload_n 3, 1) := by decide +kernel
theorem dX8_take_20 : decode cX8_take 20 = .ok (.iconst 1, 1) := by decide +kernel
theorem dX8_take_21 : decode cX8_take 21 = .ok (.isub, 1) := by decide +kernel
theorem dX8_take_22 : decode cX8_take 22 = .ok (.istore 5, 2) := by decide +kernel
theorem dX8_take_24 : decode cX8_take 24 = .ok (.iload 5, 2) := by decide +kernel
theorem dX8_take_26 : decode cX8_take 26 = .ok (.ifCond .lt 45, 3) := by decide +kernel
theorem dX8_take_29 : decode cX8_take 29 = .ok (.iload 4, 2) := by decide +kernel
theorem dX8_take_31 : decode cX8_take 31 = .ok (.bipush 10, 2) := by decide +kernel
theorem dX8_take_33 : decode cX8_take 33 = .ok (.irem, 1) := by decide +kernel
theorem dX8_take_34 : decode cX8_take 34 = .ok (.istore 6, 2) := by decide +kernel
theorem dX8_take_36 : decode cX8_take 36 = .ok (.iload 6, 2) := by decide +kernel
theorem dX8_take_38 : decode cX8_take 38 = .ok (.ifCond .eq 9, 3) := by decide +kernel
theorem dX8_take_41 : decode cX8_take 41 = .ok (.iload 6, 2) := by decide +kernel
theorem dX8_take_43 : decode cX8_take 43 = .ok (.iload_n 2, 1) := by decide +kernel
theorem dX8_take_44 : decode cX8_take 44 = .ok (.if_icmp .le 5, 3) := by decide +kernel
theorem dX8_take_47 : decode cX8_take 47 = .ok (.iconst 0, 1) := by decide +kernel
theorem dX8_take_48 : decode cX8_take 48 = .ok (.ireturn, 1) := by decide +kernel
theorem dX8_take_49 : decode cX8_take 49 = .ok (.aload_n 0, 1) := by decide +kernel
theorem dX8_take_50 : decode cX8_take 50 = .ok (.getfield 15, 3) := by decide +kernel
theorem dX8_take_53 : decode cX8_take 53 = .ok (.iload 5, 2) := by decide +kernel
theorem dX8_take_55 : decode cX8_take 55 = .ok (.iload 6, 2) := by decide +kernel
theorem dX8_take_57 : decode cX8_take 57 = .ok (.iastore, 1) := by decide +kernel
theorem dX8_take_58 : decode cX8_take 58 = .ok (.iload 4, 2) := by decide +kernel
theorem dX8_take_60 : decode cX8_take 60 = .ok (.bipush 10, 2) := by decide +kernel
theorem dX8_take_62 : decode cX8_take 62 = .ok (.idiv, 1) := by decide +kernel
theorem dX8_take_63 : decode cX8_take 63 = .ok (.istore 4, 2) := by decide +kernel
theorem dX8_take_65 : decode cX8_take 65 = .ok (.iinc 5 (-1), 3) := by decide +kernel
theorem dX8_take_68 : decode cX8_take 68 = .ok (.goto (-44), 3) := by decide +kernel
theorem dX8_take_71 : decode cX8_take 71 = .ok (.aload_n 0, 1) := by decide +kernel
theorem dX8_take_72 : decode cX8_take 72 = .ok (.iload_n 3, 1) := by decide +kernel
theorem dX8_take_73 : decode cX8_take 73 = .ok (.putfield 9, 3) := by decide +kernel
theorem dX8_take_76 : decode cX8_take 76 = .ok (.iconst 1, 1) := by decide +kernel
theorem dX8_take_77 : decode cX8_take 77 = .ok (.ireturn, 1) := by decide +kernel
theorem dJ9_min_7cf53_0 : decode cJ9_min_7cf53 0 = .ok (.iload_n 0, 1) := by decide +kernel
theorem dJ9_min_7cf53_1 : decode cJ9_min_7cf53 1 = .ok (.iload_n 1, 1) := by decide +kernel
theorem dJ9_min_7cf53_2 : decode cJ9_min_7cf53 2 = .ok (.if_icmp .gt 7, 3) := by decide +kernel
theorem dJ9_min_7cf53_5 : decode cJ9_min_7cf53 5 = .ok (.iload_n 0, 1) := by decide +kernel
theorem dJ9_min_7cf53_6 : decode cJ9_min_7cf53 6 = .ok (.goto 4, 3) := by decide +kernel
theorem dJ9_min_7cf53_9 : decode cJ9_min_7cf53 9 = .ok (.iload_n 1, 1) := by decide +kernel
theorem dJ9_min_7cf53_10 : decode cJ9_min_7cf53 10 = .ok (.ireturn, 1) := by decide +kernel
theorem dJ9_min_f86c9_0 : decode cJ9_min_f86c9 0 = .ok (.lload_n 0, 1) := by decide +kernel
theorem dJ9_min_f86c9_1 : decode cJ9_min_f86c9 1 = .ok (.lload_n 2, 1) := by decide +kernel
theorem dJ9_min_f86c9_2 : decode cJ9_min_f86c9 2 = .ok (.lcmp, 1) := by decide +kernel
theorem dJ9_min_f86c9_3 : decode cJ9_min_f86c9 3 = .ok (.ifCond .gt 7, 3) := by decide +kernel
theorem dJ9_min_f86c9_6 : decode cJ9_min_f86c9 6 = .ok (.lload_n 0, 1) := by decide +kernel
theorem dJ9_min_f86c9_7 : decode cJ9_min_f86c9 7 = .ok (.goto 4, 3) := by decide +kernel
theorem dJ9_min_f86c9_10 : decode cJ9_min_f86c9 10 = .ok (.lload_n 2, 1) := by decide +kernel
theorem dJ9_min_f86c9_11 : decode cJ9_min_f86c9 11 = .ok (.lreturn, 1) := by decide +kernel
theorem dJ7_fill_d0a16_0 : decode cJ7_fill_d0a16 0 = .ok (.iconst 0, 1) := by decide +kernel
theorem dJ7_fill_d0a16_1 : decode cJ7_fill_d0a16 1 = .ok (.istore_n 3, 1) := by decide +kernel
theorem dJ7_fill_d0a16_2 : decode cJ7_fill_d0a16 2 = .ok (.aload_n 0, 1) := by decide +kernel
theorem dJ7_fill_d0a16_3 : decode cJ7_fill_d0a16 3 = .ok (.arraylength, 1) := by decide +kernel
theorem dJ7_fill_d0a16_4 : decode cJ7_fill_d0a16 4 = .ok (.istore 4, 2) := by decide +kernel
theorem dJ7_fill_d0a16_6 : decode cJ7_fill_d0a16 6 = .ok (.iload_n 3, 1) := by decide +kernel
theorem dJ7_fill_d0a16_7 : decode cJ7_fill_d0a16 7 = .ok (.iload 4, 2) := by decide +kernel
theorem dJ7_fill_d0a16_9 : decode cJ7_fill_d0a16 9 = .ok (.if_icmp .ge 13, 3) := by decide +kernel
theorem dJ7_fill_d0a16_12 : decode cJ7_fill_d0a16 12 = .ok (.aload_n 0, 1) := by decide +kernel
theorem dJ7_fill_d0a16_13 : decode cJ7_fill_d0a16 13 = .ok (.iload_n 3, 1) := by decide +kernel
theorem dJ7_fill_d0a16_14 : decode cJ7_fill_d0a16 14 = .ok (.lload_n 1, 1) := by decide +kernel
theorem dJ7_fill_d0a16_15 : decode cJ7_fill_d0a16 15 = .ok (.lastore, 1) := by decide +kernel
theorem dJ7_fill_d0a16_16 : decode cJ7_fill_d0a16 16 = .ok (.iinc 3 1, 3) := by decide +kernel
theorem dJ7_fill_d0a16_19 : decode cJ7_fill_d0a16 19 = .ok (.goto (-13), 3) := by decide +kernel
theorem dJ7_fill_d0a16_22 : decode cJ7_fill_d0a16 22 = .ok (.return_, 1) := by decide +kernel
theorem dJ7_fill_53178_0 : decode cJ7_fill_53178 0 = .ok (.iconst 0, 1) := by decide +kernel
theorem dJ7_fill_53178_1 : decode cJ7_fill_53178 1 = .ok (.istore_n 2, 1) := by decide +kernel
theorem dJ7_fill_53178_2 : decode cJ7_fill_53178 2 = .ok (.aload_n 0, 1) := by decide +kernel
theorem dJ7_fill_53178_3 : decode cJ7_fill_53178 3 = .ok (.arraylength, 1) := by decide +kernel
theorem dJ7_fill_53178_4 : decode cJ7_fill_53178 4 = .ok (.istore_n 3, 1) := by decide +kernel
theorem dJ7_fill_53178_5 : decode cJ7_fill_53178 5 = .ok (.iload_n 2, 1) := by decide +kernel
theorem dJ7_fill_53178_6 : decode cJ7_fill_53178 6 = .ok (.iload_n 3, 1) := by decide +kernel
theorem dJ7_fill_53178_7 : decode cJ7_fill_53178 7 = .ok (.if_icmp .ge 13, 3) := by decide +kernel
theorem dJ7_fill_53178_10 : decode cJ7_fill_53178 10 = .ok (.aload_n 0, 1) := by decide +kernel
theorem dJ7_fill_53178_11 : decode cJ7_fill_53178 11 = .ok (.iload_n 2, 1) := by decide +kernel
theorem dJ7_fill_53178_12 : decode cJ7_fill_53178 12 = .ok (.iload_n 1, 1) := by decide +kernel
theorem dJ7_fill_53178_13 : decode cJ7_fill_53178 13 = .ok (.iastore, 1) := by decide +kernel
theorem dJ7_fill_53178_14 : decode cJ7_fill_53178 14 = .ok (.iinc 2 1, 3) := by decide +kernel
theorem dJ7_fill_53178_17 : decode cJ7_fill_53178 17 = .ok (.goto (-12), 3) := by decide +kernel
theorem dJ7_fill_53178_20 : decode cJ7_fill_53178 20 = .ok (.return_, 1) := by decide +kernel

theorem dX0_init_0 : decode cX0_init 0 = .ok (.aload_n 0, 1) := by decide +kernel
theorem dX0_init_1 : decode cX0_init 1 = .ok (.invokespecial 3, 3) := by decide +kernel
theorem dX0_init_4 : decode cX0_init 4 = .ok (.aload_n 0, 1) := by decide +kernel
theorem dX0_init_5 : decode cX0_init 5 = .ok (.sipush 144, 3) := by decide +kernel
theorem dX0_init_8 : decode cX0_init 8 = .ok (.newarray .int, 2) := by decide +kernel
theorem dX0_init_10 : decode cX0_init 10 = .ok (.putfield 9, 3) := by decide +kernel
theorem dX0_init_13 : decode cX0_init 13 = .ok (.aload_n 0, 1) := by decide +kernel
theorem dX0_init_14 : decode cX0_init 14 = .ok (.lconst 1, 1) := by decide +kernel
theorem dX0_init_15 : decode cX0_init 15 = .ok (.putfield 15, 3) := by decide +kernel
theorem dX0_init_18 : decode cX0_init 18 = .ok (.aload_n 0, 1) := by decide +kernel
theorem dX0_init_19 : decode cX0_init 19 = .ok (.lconst 1, 1) := by decide +kernel
theorem dX0_init_20 : decode cX0_init 20 = .ok (.putfield 19, 3) := by decide +kernel
theorem dX0_init_23 : decode cX0_init 23 = .ok (.aload_n 0, 1) := by decide +kernel
theorem dX0_init_24 : decode cX0_init 24 = .ok (.lconst 1, 1) := by decide +kernel
theorem dX0_init_25 : decode cX0_init 25 = .ok (.putfield 22, 3) := by decide +kernel
theorem dX0_init_28 : decode cX0_init 28 = .ok (.return_, 1) := by decide +kernel
theorem dX0_startPair_0 : decode cX0_startPair 0 = .ok (.aload_n 0, 1) := by decide +kernel
theorem dX0_startPair_1 : decode cX0_startPair 1 = .ok (.aload_n 1, 1) := by decide +kernel
theorem dX0_startPair_2 : decode cX0_startPair 2 = .ok (.aload_n 1, 1) := by decide +kernel
theorem dX0_startPair_3 : decode cX0_startPair 3 = .ok (.iload_n 2, 1) := by decide +kernel
theorem dX0_startPair_4 : decode cX0_startPair 4 = .ok (.invokevirtual 25, 3) := by decide +kernel
theorem dX0_startPair_7 : decode cX0_startPair 7 = .ok (.i2l, 1) := by decide +kernel
theorem dX0_startPair_8 : decode cX0_startPair 8 = .ok (.aload_n 1, 1) := by decide +kernel
theorem dX0_startPair_9 : decode cX0_startPair 9 = .ok (.iload_n 3, 1) := by decide +kernel
theorem dX0_startPair_10 : decode cX0_startPair 10 = .ok (.invokevirtual 25, 3) := by decide +kernel
theorem dX0_startPair_13 : decode cX0_startPair 13 = .ok (.i2l, 1) := by decide +kernel
theorem dX0_startPair_14 : decode cX0_startPair 14 = .ok (.lmul, 1) := by decide +kernel
theorem dX0_startPair_15 : decode cX0_startPair 15 = .ok (.invokevirtual 31, 3) := by decide +kernel
theorem dX0_startPair_18 : decode cX0_startPair 18 = .ok (.return_, 1) := by decide +kernel
theorem dX0_start_0 : decode cX0_start 0 = .ok (.aload_n 0, 1) := by decide +kernel
theorem dX0_start_1 : decode cX0_start 1 = .ok (.iconst 0, 1) := by decide +kernel
theorem dX0_start_2 : decode cX0_start 2 = .ok (.putfield 35, 3) := by decide +kernel
theorem dX0_start_5 : decode cX0_start 5 = .ok (.aload_n 0, 1) := by decide +kernel
theorem dX0_start_6 : decode cX0_start 6 = .ok (.lload_n 2, 1) := by decide +kernel
theorem dX0_start_7 : decode cX0_start 7 = .ok (.putfield 15, 3) := by decide +kernel
theorem dX0_start_10 : decode cX0_start 10 = .ok (.aload_n 1, 1) := by decide +kernel
theorem dX0_start_11 : decode cX0_start 11 = .ok (.getfield 39, 3) := by decide +kernel
theorem dX0_start_14 : decode cX0_start 14 = .ok (.i2l, 1) := by decide +kernel
theorem dX0_start_15 : decode cX0_start 15 = .ok (.aload_n 1, 1) := by decide +kernel
theorem dX0_start_16 : decode cX0_start 16 = .ok (.getfield 39, 3) := by decide +kernel
theorem dX0_start_19 : decode cX0_start 19 = .ok (.i2l, 1) := by decide +kernel
theorem dX0_start_20 : decode cX0_start 20 = .ok (.lmul, 1) := by decide +kernel
theorem dX0_start_21 : decode cX0_start 21 = .ok (.lstore 4, 2) := by decide +kernel
theorem dX0_start_23 : decode cX0_start 23 = .ok (.aload_n 1, 1) := by decide +kernel
theorem dX0_start_24 : decode cX0_start 24 = .ok (.getfield 42, 3) := by decide +kernel
theorem dX0_start_27 : decode cX0_start 27 = .ok (.i2l, 1) := by decide +kernel
theorem dX0_start_28 : decode cX0_start 28 = .ok (.aload_n 1, 1) := by decide +kernel
theorem dX0_start_29 : decode cX0_start 29 = .ok (.getfield 42, 3) := by decide +kernel
theorem dX0_start_32 : decode cX0_start 32 = .ok (.i2l, 1) := by decide +kernel
theorem dX0_start_33 : decode cX0_start 33 = .ok (.lmul, 1) := by decide +kernel
theorem dX0_start_34 : decode cX0_start 34 = .ok (.lstore 6, 2) := by decide +kernel
theorem dX0_start_36 : decode cX0_start 36 = .ok (.aload_n 0, 1) := by decide +kernel
theorem dX0_start_37 : decode cX0_start 37 = .ok (.aload_n 0, 1) := by decide +kernel
theorem dX0_start_38 : decode cX0_start 38 = .ok (.getfield 15, 3) := by decide +kernel
theorem dX0_start_41 : decode cX0_start 41 = .ok (.lload 4, 2) := by decide +kernel
theorem dX0_start_43 : decode cX0_start 43 = .ok (.ladd, 1) := by decide +kernel
theorem dX0_start_44 : decode cX0_start 44 = .ok (.lconst 1, 1) := by decide +kernel
theorem dX0_start_45 : decode cX0_start 45 = .ok (.lsub, 1) := by decide +kernel
theorem dX0_start_46 : decode cX0_start 46 = .ok (.lload 4, 2) := by decide +kernel
theorem dX0_start_48 : decode cX0_start 48 = .ok (.invokestatic 45, 3) := by decide +kernel
theorem dX0_start_51 : decode cX0_start 51 = .ok (.putfield 19, 3) := by decide +kernel
theorem dX0_start_54 : decode cX0_start 54 = .ok (.aload_n 0, 1) := by decide +kernel
theorem dX0_start_55 : decode cX0_start 55 = .ok (.aload_n 0, 1) := by decide +kernel
theorem dX0_start_56 : decode cX0_start 56 = .ok (.getfield 15, 3) := by decide +kernel
theorem dX0_start_59 : decode cX0_start 59 = .ok (.lload 6, 2) := by decide +kernel
theorem dX0_start_61 : decode cX0_start 61 = .ok (.invokestatic 45, 3) := by decide +kernel
theorem dX0_start_64 : decode cX0_start 64 = .ok (.putfield 22, 3) := by decide +kernel
theorem dX0_start_67 : decode cX0_start 67 = .ok (.return_, 1) := by decide +kernel
theorem dX0_add_0 : decode cX0_add 0 = .ok (.aload_n 0, 1) := by decide +kernel
theorem dX0_add_1 : decode cX0_add 1 = .ok (.getfield 35, 3) := by decide +kernel
theorem dX0_add_4 : decode cX0_add 4 = .ok (.ifCond .lt 33, 3) := by decide +kernel
theorem dX0_add_7 : decode cX0_add 7 = .ok (.aload_n 0, 1) := by decide +kernel
theorem dX0_add_8 : decode cX0_add 8 = .ok (.getfield 35, 3) := by decide +kernel
theorem dX0_add_11 : decode cX0_add 11 = .ok (.sipush 144, 3) := by decide +kernel
theorem dX0_add_14 : decode cX0_add 14 = .ok (.if_icmp .ge 23, 3) := by decide +kernel
theorem dX0_add_17 : decode cX0_add 17 = .ok (.aload_n 0, 1) := by decide +kernel
theorem dX0_add_18 : decode cX0_add 18 = .ok (.getfield 9, 3) := by decide +kernel
theorem dX0_add_21 : decode cX0_add 21 = .ok (.aload_n 0, 1) := by decide +kernel
theorem dX0_add_22 : decode cX0_add 22 = .ok (.getfield 35, 3) := by decide +kernel
theorem dX0_add_25 : decode cX0_add 25 = .ok (.iload_n 1, 1) := by decide +kernel
theorem dX0_add_26 : decode cX0_add 26 = .ok (.iastore, 1) := by decide +kernel
theorem dX0_add_27 : decode cX0_add 27 = .ok (.aload_n 0, 1) := by decide +kernel
theorem dX0_add_28 : decode cX0_add 28 = .ok (.dup, 1) := by decide +kernel
theorem dX0_add_29 : decode cX0_add 29 = .ok (.getfield 35, 3) := by decide +kernel
theorem dX0_add_32 : decode cX0_add 32 = .ok (.iconst 1, 1) := by decide +kernel
theorem dX0_add_33 : decode cX0_add 33 = .ok (.iadd, 1) := by decide +kernel
theorem dX0_add_34 : decode cX0_add 34 = .ok (.putfield 35, 3) := by decide +kernel
theorem dX0_add_37 : decode cX0_add 37 = .ok (.return_, 1) := by decide +kernel
theorem dX0_fillPair_0 : decode cX0_fillPair 0 = .ok (.aload_n 0, 1) := by decide +kernel
theorem dX0_fillPair_1 : decode cX0_fillPair 1 = .ok (.aload_n 1, 1) := by decide +kernel
theorem dX0_fillPair_2 : decode cX0_fillPair 2 = .ok (.iload_n 2, 1) := by decide +kernel
theorem dX0_fillPair_3 : decode cX0_fillPair 3 = .ok (.iload_n 3, 1) := by decide +kernel
theorem dX0_fillPair_4 : decode cX0_fillPair 4 = .ok (.invokevirtual 49, 3) := by decide +kernel
theorem dX0_fillPair_7 : decode cX0_fillPair 7 = .ok (.iconst 1, 1) := by decide +kernel
theorem dX0_fillPair_8 : decode cX0_fillPair 8 = .ok (.istore 4, 2) := by decide +kernel
theorem dX0_fillPair_10 : decode cX0_fillPair 10 = .ok (.iload 4, 2) := by decide +kernel
theorem dX0_fillPair_12 : decode cX0_fillPair 12 = .ok (.aload_n 1, 1) := by decide +kernel
theorem dX0_fillPair_13 : decode cX0_fillPair 13 = .ok (.getfield 53, 3) := by decide +kernel
theorem dX0_fillPair_16 : decode cX0_fillPair 16 = .ok (.if_icmp .gt 38, 3) := by decide +kernel
theorem dX0_fillPair_19 : decode cX0_fillPair 19 = .ok (.iconst 0, 1) := by decide +kernel
theorem dX0_fillPair_20 : decode cX0_fillPair 20 = .ok (.istore 5, 2) := by decide +kernel
theorem dX0_fillPair_22 : decode cX0_fillPair 22 = .ok (.iload 5, 2) := by decide +kernel
theorem dX0_fillPair_24 : decode cX0_fillPair 24 = .ok (.aload_n 1, 1) := by decide +kernel
theorem dX0_fillPair_25 : decode cX0_fillPair 25 = .ok (.getfield 53, 3) := by decide +kernel
theorem dX0_fillPair_28 : decode cX0_fillPair 28 = .ok (.if_icmp .gt 20, 3) := by decide +kernel
theorem dX0_fillPair_31 : decode cX0_fillPair 31 = .ok (.aload_n 0, 1) := by decide +kernel
theorem dX0_fillPair_32 : decode cX0_fillPair 32 = .ok (.aload_n 1, 1) := by decide +kernel
theorem dX0_fillPair_33 : decode cX0_fillPair 33 = .ok (.iload_n 2, 1) := by decide +kernel
theorem dX0_fillPair_34 : decode cX0_fillPair 34 = .ok (.iload_n 3, 1) := by decide +kernel
theorem dX0_fillPair_35 : decode cX0_fillPair 35 = .ok (.iload 4, 2) := by decide +kernel
theorem dX0_fillPair_37 : decode cX0_fillPair 37 = .ok (.iload 5, 2) := by decide +kernel
theorem dX0_fillPair_39 : decode cX0_fillPair 39 = .ok (.invokevirtual 56, 3) := by decide +kernel
theorem dX0_fillPair_42 : decode cX0_fillPair 42 = .ok (.iinc 5 1, 3) := by decide +kernel
theorem dX0_fillPair_45 : decode cX0_fillPair 45 = .ok (.goto (-23), 3) := by decide +kernel
theorem dX0_fillPair_48 : decode cX0_fillPair 48 = .ok (.iinc 4 1, 3) := by decide +kernel
theorem dX0_fillPair_51 : decode cX0_fillPair 51 = .ok (.goto (-41), 3) := by decide +kernel
theorem dX0_fillPair_54 : decode cX0_fillPair 54 = .ok (.return_, 1) := by decide +kernel
theorem dX0_addAllFor_0 : decode cX0_addAllFor 0 = .ok (.aload_n 1, 1) := by decide +kernel
theorem dX0_addAllFor_1 : decode cX0_addAllFor 1 = .ok (.iload_n 2, 1) := by decide +kernel
theorem dX0_addAllFor_2 : decode cX0_addAllFor 2 = .ok (.invokevirtual 60, 3) := by decide +kernel
theorem dX0_addAllFor_5 : decode cX0_addAllFor 5 = .ok (.istore 6, 2) := by decide +kernel
theorem dX0_addAllFor_7 : decode cX0_addAllFor 7 = .ok (.aload_n 1, 1) := by decide +kernel
theorem dX0_addAllFor_8 : decode cX0_addAllFor 8 = .ok (.iload_n 2, 1) := by decide +kernel
theorem dX0_addAllFor_9 : decode cX0_addAllFor 9 = .ok (.invokevirtual 63, 3) := by decide +kernel
theorem dX0_addAllFor_12 : decode cX0_addAllFor 12 = .ok (.istore 7, 2) := by decide +kernel
theorem dX0_addAllFor_14 : decode cX0_addAllFor 14 = .ok (.aload_n 1, 1) := by decide +kernel
theorem dX0_addAllFor_15 : decode cX0_addAllFor 15 = .ok (.iload_n 3, 1) := by decide +kernel
theorem dX0_addAllFor_16 : decode cX0_addAllFor 16 = .ok (.invokevirtual 60, 3) := by decide +kernel
theorem dX0_addAllFor_19 : decode cX0_addAllFor 19 = .ok (.aload_n 1, 1) := by decide +kernel
theorem dX0_addAllFor_20 : decode cX0_addAllFor 20 = .ok (.iload_n 3, 1) := by decide +kernel
theorem dX0_addAllFor_21 : decode cX0_addAllFor 21 = .ok (.invokevirtual 63, 3) := by decide +kernel
theorem dX0_addAllFor_24 : decode cX0_addAllFor 24 = .ok (.iload 4, 2) := by decide +kernel
theorem dX0_addAllFor_26 : decode cX0_addAllFor 26 = .ok (.iload 5, 2) := by decide +kernel
theorem dX0_addAllFor_28 : decode cX0_addAllFor 28 = .ok (.invokestatic 66, 3) := by decide +kernel
theorem dX0_addAllFor_31 : decode cX0_addAllFor 31 = .ok (.istore 8, 2) := by decide +kernel
theorem dX0_addAllFor_33 : decode cX0_addAllFor 33 = .ok (.aload_n 1, 1) := by decide +kernel
theorem dX0_addAllFor_34 : decode cX0_addAllFor 34 = .ok (.iload_n 3, 1) := by decide +kernel
theorem dX0_addAllFor_35 : decode cX0_addAllFor 35 = .ok (.invokevirtual 60, 3) := by decide +kernel
theorem dX0_addAllFor_38 : decode cX0_addAllFor 38 = .ok (.aload_n 1, 1) := by decide +kernel
theorem dX0_addAllFor_39 : decode cX0_addAllFor 39 = .ok (.iload_n 3, 1) := by decide +kernel
theorem dX0_addAllFor_40 : decode cX0_addAllFor 40 = .ok (.invokevirtual 63, 3) := by decide +kernel
theorem dX0_addAllFor_43 : decode cX0_addAllFor 43 = .ok (.iload 4, 2) := by decide +kernel
theorem dX0_addAllFor_45 : decode cX0_addAllFor 45 = .ok (.iload 5, 2) := by decide +kernel
theorem dX0_addAllFor_47 : decode cX0_addAllFor 47 = .ok (.invokestatic 70, 3) := by decide +kernel
theorem dX0_addAllFor_50 : decode cX0_addAllFor 50 = .ok (.istore 9, 2) := by decide +kernel
theorem dX0_addAllFor_52 : decode cX0_addAllFor 52 = .ok (.aload_n 1, 1) := by decide +kernel
theorem dX0_addAllFor_53 : decode cX0_addAllFor 53 = .ok (.getfield 53, 3) := by decide +kernel
theorem dX0_addAllFor_56 : decode cX0_addAllFor 56 = .ok (.ineg, 1) := by decide +kernel
theorem dX0_addAllFor_57 : decode cX0_addAllFor 57 = .ok (.istore 10, 2) := by decide +kernel
theorem dX0_addAllFor_59 : decode cX0_addAllFor 59 = .ok (.iload 10, 2) := by decide +kernel
theorem dX0_addAllFor_61 : decode cX0_addAllFor 61 = .ok (.aload_n 1, 1) := by decide +kernel
theorem dX0_addAllFor_62 : decode cX0_addAllFor 62 = .ok (.getfield 53, 3) := by decide +kernel
theorem dX0_addAllFor_65 : decode cX0_addAllFor 65 = .ok (.if_icmp .gt 88, 3) := by decide +kernel
theorem dX0_addAllFor_68 : decode cX0_addAllFor 68 = .ok (.aload_n 1, 1) := by decide +kernel
theorem dX0_addAllFor_69 : decode cX0_addAllFor 69 = .ok (.getfield 53, 3) := by decide +kernel
theorem dX0_addAllFor_72 : decode cX0_addAllFor 72 = .ok (.ineg, 1) := by decide +kernel
theorem dX0_addAllFor_73 : decode cX0_addAllFor 73 = .ok (.istore 11, 2) := by decide +kernel
theorem dX0_addAllFor_75 : decode cX0_addAllFor 75 = .ok (.iload 11, 2) := by decide +kernel
theorem dX0_addAllFor_77 : decode cX0_addAllFor 77 = .ok (.aload_n 1, 1) := by decide +kernel
theorem dX0_addAllFor_78 : decode cX0_addAllFor 78 = .ok (.getfield 53, 3) := by decide +kernel
theorem dX0_addAllFor_81 : decode cX0_addAllFor 81 = .ok (.if_icmp .gt 66, 3) := by decide +kernel
theorem dX0_addAllFor_84 : decode cX0_addAllFor 84 = .ok (.iload 10, 2) := by decide +kernel
theorem dX0_addAllFor_86 : decode cX0_addAllFor 86 = .ok (.ifCond .ne 8, 3) := by decide +kernel
theorem dX0_addAllFor_89 : decode cX0_addAllFor 89 = .ok (.iload 11, 2) := by decide +kernel
theorem dX0_addAllFor_91 : decode cX0_addAllFor 91 = .ok (.ifCond .eq 50, 3) := by decide +kernel
theorem dX0_addAllFor_94 : decode cX0_addAllFor 94 = .ok (.iload 8, 2) := by decide +kernel
theorem dX0_addAllFor_96 : decode cX0_addAllFor 96 = .ok (.iload 6, 2) := by decide +kernel
theorem dX0_addAllFor_98 : decode cX0_addAllFor 98 = .ok (.iload 7, 2) := by decide +kernel
theorem dX0_addAllFor_100 : decode cX0_addAllFor 100 = .ok (.iload 10, 2) := by decide +kernel
theorem dX0_addAllFor_102 : decode cX0_addAllFor 102 = .ok (.iload 11, 2) := by decide +kernel
theorem dX0_addAllFor_104 : decode cX0_addAllFor 104 = .ok (.invokestatic 66, 3) := by decide +kernel
theorem dX0_addAllFor_107 : decode cX0_addAllFor 107 = .ok (.isub, 1) := by decide +kernel
theorem dX0_addAllFor_108 : decode cX0_addAllFor 108 = .ok (.istore 12, 2) := by decide +kernel
theorem dX0_addAllFor_110 : decode cX0_addAllFor 110 = .ok (.iload 9, 2) := by decide +kernel
theorem dX0_addAllFor_112 : decode cX0_addAllFor 112 = .ok (.iload 6, 2) := by decide +kernel
theorem dX0_addAllFor_114 : decode cX0_addAllFor 114 = .ok (.iload 7, 2) := by decide +kernel
theorem dX0_addAllFor_116 : decode cX0_addAllFor 116 = .ok (.iload 10, 2) := by decide +kernel
theorem dX0_addAllFor_118 : decode cX0_addAllFor 118 = .ok (.iload 11, 2) := by decide +kernel
theorem dX0_addAllFor_120 : decode cX0_addAllFor 120 = .ok (.invokestatic 70, 3) := by decide +kernel
theorem dX0_addAllFor_123 : decode cX0_addAllFor 123 = .ok (.isub, 1) := by decide +kernel
theorem dX0_addAllFor_124 : decode cX0_addAllFor 124 = .ok (.istore 13, 2) := by decide +kernel
theorem dX0_addAllFor_126 : decode cX0_addAllFor 126 = .ok (.aload_n 0, 1) := by decide +kernel
theorem dX0_addAllFor_127 : decode cX0_addAllFor 127 = .ok (.iload 12, 2) := by decide +kernel
theorem dX0_addAllFor_129 : decode cX0_addAllFor 129 = .ok (.iload 12, 2) := by decide +kernel
theorem dX0_addAllFor_131 : decode cX0_addAllFor 131 = .ok (.imul, 1) := by decide +kernel
theorem dX0_addAllFor_132 : decode cX0_addAllFor 132 = .ok (.iload 13, 2) := by decide +kernel
theorem dX0_addAllFor_134 : decode cX0_addAllFor 134 = .ok (.iload 13, 2) := by decide +kernel
theorem dX0_addAllFor_136 : decode cX0_addAllFor 136 = .ok (.imul, 1) := by decide +kernel
theorem dX0_addAllFor_137 : decode cX0_addAllFor 137 = .ok (.iadd, 1) := by decide +kernel
theorem dX0_addAllFor_138 : decode cX0_addAllFor 138 = .ok (.invokevirtual 73, 3) := by decide +kernel
theorem dX0_addAllFor_141 : decode cX0_addAllFor 141 = .ok (.iinc 11 1, 3) := by decide +kernel
theorem dX0_addAllFor_144 : decode cX0_addAllFor 144 = .ok (.goto (-69), 3) := by decide +kernel
theorem dX0_addAllFor_147 : decode cX0_addAllFor 147 = .ok (.iinc 10 1, 3) := by decide +kernel
theorem dX0_addAllFor_150 : decode cX0_addAllFor 150 = .ok (.goto (-91), 3) := by decide +kernel
theorem dX0_addAllFor_153 : decode cX0_addAllFor 153 = .ok (.return_, 1) := by decide +kernel
theorem dX0_fillTriple_0 : decode cX0_fillTriple 0 = .ok (.aload_n 0, 1) := by decide +kernel
theorem dX0_fillTriple_1 : decode cX0_fillTriple 1 = .ok (.aload_n 1, 1) := by decide +kernel
theorem dX0_fillTriple_2 : decode cX0_fillTriple 2 = .ok (.aload_n 1, 1) := by decide +kernel
theorem dX0_fillTriple_3 : decode cX0_fillTriple 3 = .ok (.iload_n 2, 1) := by decide +kernel
theorem dX0_fillTriple_4 : decode cX0_fillTriple 4 = .ok (.invokevirtual 25, 3) := by decide +kernel
theorem dX0_fillTriple_7 : decode cX0_fillTriple 7 = .ok (.i2l, 1) := by decide +kernel
theorem dX0_fillTriple_8 : decode cX0_fillTriple 8 = .ok (.aload_n 1, 1) := by decide +kernel
theorem dX0_fillTriple_9 : decode cX0_fillTriple 9 = .ok (.iload_n 3, 1) := by decide +kernel
theorem dX0_fillTriple_10 : decode cX0_fillTriple 10 = .ok (.invokevirtual 25, 3) := by decide +kernel
theorem dX0_fillTriple_13 : decode cX0_fillTriple 13 = .ok (.i2l, 1) := by decide +kernel
theorem dX0_fillTriple_14 : decode cX0_fillTriple 14 = .ok (.lmul, 1) := by decide +kernel
theorem dX0_fillTriple_15 : decode cX0_fillTriple 15 = .ok (.aload_n 1, 1) := by decide +kernel
theorem dX0_fillTriple_16 : decode cX0_fillTriple 16 = .ok (.iload 4, 2) := by decide +kernel
theorem dX0_fillTriple_18 : decode cX0_fillTriple 18 = .ok (.invokevirtual 25, 3) := by decide +kernel
theorem dX0_fillTriple_21 : decode cX0_fillTriple 21 = .ok (.i2l, 1) := by decide +kernel
theorem dX0_fillTriple_22 : decode cX0_fillTriple 22 = .ok (.lmul, 1) := by decide +kernel
theorem dX0_fillTriple_23 : decode cX0_fillTriple 23 = .ok (.invokevirtual 31, 3) := by decide +kernel
theorem dX0_fillTriple_26 : decode cX0_fillTriple 26 = .ok (.aload_n 1, 1) := by decide +kernel
theorem dX0_fillTriple_27 : decode cX0_fillTriple 27 = .ok (.iload_n 3, 1) := by decide +kernel
theorem dX0_fillTriple_28 : decode cX0_fillTriple 28 = .ok (.iload 4, 2) := by decide +kernel
theorem dX0_fillTriple_30 : decode cX0_fillTriple 30 = .ok (.invokestatic 77, 3) := by decide +kernel
theorem dX0_fillTriple_33 : decode cX0_fillTriple 33 = .ok (.istore 5, 2) := by decide +kernel
theorem dX0_fillTriple_35 : decode cX0_fillTriple 35 = .ok (.aload_n 1, 1) := by decide +kernel
theorem dX0_fillTriple_36 : decode cX0_fillTriple 36 = .ok (.iload_n 3, 1) := by decide +kernel
theorem dX0_fillTriple_37 : decode cX0_fillTriple 37 = .ok (.iload 4, 2) := by decide +kernel
theorem dX0_fillTriple_39 : decode cX0_fillTriple 39 = .ok (.invokestatic 81, 3) := by decide +kernel
theorem dX0_fillTriple_42 : decode cX0_fillTriple 42 = .ok (.istore 6, 2) := by decide +kernel
theorem dX0_fillTriple_44 : decode cX0_fillTriple 44 = .ok (.aload_n 1, 1) := by decide +kernel
theorem dX0_fillTriple_45 : decode cX0_fillTriple 45 = .ok (.iload_n 2, 1) := by decide +kernel
theorem dX0_fillTriple_46 : decode cX0_fillTriple 46 = .ok (.iload 4, 2) := by decide +kernel
theorem dX0_fillTriple_48 : decode cX0_fillTriple 48 = .ok (.invokestatic 77, 3) := by decide +kernel
theorem dX0_fillTriple_51 : decode cX0_fillTriple 51 = .ok (.istore 7, 2) := by decide +kernel
theorem dX0_fillTriple_53 : decode cX0_fillTriple 53 = .ok (.aload_n 1, 1) := by decide +kernel
theorem dX0_fillTriple_54 : decode cX0_fillTriple 54 = .ok (.iload_n 2, 1) := by decide +kernel
theorem dX0_fillTriple_55 : decode cX0_fillTriple 55 = .ok (.iload 4, 2) := by decide +kernel
theorem dX0_fillTriple_57 : decode cX0_fillTriple 57 = .ok (.invokestatic 81, 3) := by decide +kernel
theorem dX0_fillTriple_60 : decode cX0_fillTriple 60 = .ok (.istore 8, 2) := by decide +kernel
theorem dX0_fillTriple_62 : decode cX0_fillTriple 62 = .ok (.aload_n 1, 1) := by decide +kernel
theorem dX0_fillTriple_63 : decode cX0_fillTriple 63 = .ok (.iload_n 2, 1) := by decide +kernel
theorem dX0_fillTriple_64 : decode cX0_fillTriple 64 = .ok (.iload_n 3, 1) := by decide +kernel
theorem dX0_fillTriple_65 : decode cX0_fillTriple 65 = .ok (.invokestatic 77, 3) := by decide +kernel
theorem dX0_fillTriple_68 : decode cX0_fillTriple 68 = .ok (.istore 9, 2) := by decide +kernel
theorem dX0_fillTriple_70 : decode cX0_fillTriple 70 = .ok (.aload_n 1, 1) := by decide +kernel
theorem dX0_fillTriple_71 : decode cX0_fillTriple 71 = .ok (.iload_n 2, 1) := by decide +kernel
theorem dX0_fillTriple_72 : decode cX0_fillTriple 72 = .ok (.iload_n 3, 1) := by decide +kernel
theorem dX0_fillTriple_73 : decode cX0_fillTriple 73 = .ok (.invokestatic 81, 3) := by decide +kernel
theorem dX0_fillTriple_76 : decode cX0_fillTriple 76 = .ok (.istore 10, 2) := by decide +kernel
theorem dX0_fillTriple_78 : decode cX0_fillTriple 78 = .ok (.iconst 0, 1) := by decide +kernel
theorem dX0_fillTriple_79 : decode cX0_fillTriple 79 = .ok (.istore 11, 2) := by decide +kernel
theorem dX0_fillTriple_81 : decode cX0_fillTriple 81 = .ok (.iload 11, 2) := by decide +kernel
theorem dX0_fillTriple_83 : decode cX0_fillTriple 83 = .ok (.iconst 4, 1) := by decide +kernel
theorem dX0_fillTriple_84 : decode cX0_fillTriple 84 = .ok (.if_icmp .ge 85, 3) := by decide +kernel
theorem dX0_fillTriple_87 : decode cX0_fillTriple 87 = .ok (.iconst 0, 1) := by decide +kernel
theorem dX0_fillTriple_88 : decode cX0_fillTriple 88 = .ok (.istore 12, 2) := by decide +kernel
theorem dX0_fillTriple_90 : decode cX0_fillTriple 90 = .ok (.iload 12, 2) := by decide +kernel
theorem dX0_fillTriple_92 : decode cX0_fillTriple 92 = .ok (.iconst 4, 1) := by decide +kernel
theorem dX0_fillTriple_93 : decode cX0_fillTriple 93 = .ok (.if_icmp .ge 57, 3) := by decide +kernel
theorem dX0_fillTriple_96 : decode cX0_fillTriple 96 = .ok (.iload 5, 2) := by decide +kernel
theorem dX0_fillTriple_98 : decode cX0_fillTriple 98 = .ok (.iload 7, 2) := by decide +kernel
theorem dX0_fillTriple_100 : decode cX0_fillTriple 100 = .ok (.iadd, 1) := by decide +kernel
theorem dX0_fillTriple_101 : decode cX0_fillTriple 101 = .ok (.iload 9, 2) := by decide +kernel
theorem dX0_fillTriple_103 : decode cX0_fillTriple 103 = .ok (.iadd, 1) := by decide +kernel
theorem dX0_fillTriple_104 : decode cX0_fillTriple 104 = .ok (.istore 13, 2) := by decide +kernel
theorem dX0_fillTriple_106 : decode cX0_fillTriple 106 = .ok (.iload 6, 2) := by decide +kernel
theorem dX0_fillTriple_108 : decode cX0_fillTriple 108 = .ok (.iload 8, 2) := by decide +kernel
theorem dX0_fillTriple_110 : decode cX0_fillTriple 110 = .ok (.iadd, 1) := by decide +kernel
theorem dX0_fillTriple_111 : decode cX0_fillTriple 111 = .ok (.iload 10, 2) := by decide +kernel
theorem dX0_fillTriple_113 : decode cX0_fillTriple 113 = .ok (.iadd, 1) := by decide +kernel
theorem dX0_fillTriple_114 : decode cX0_fillTriple 114 = .ok (.istore 14, 2) := by decide +kernel
theorem dX0_fillTriple_116 : decode cX0_fillTriple 116 = .ok (.aload_n 0, 1) := by decide +kernel
theorem dX0_fillTriple_117 : decode cX0_fillTriple 117 = .ok (.iload 13, 2) := by decide +kernel
theorem dX0_fillTriple_119 : decode cX0_fillTriple 119 = .ok (.iload 13, 2) := by decide +kernel
theorem dX0_fillTriple_121 : decode cX0_fillTriple 121 = .ok (.imul, 1) := by decide +kernel
theorem dX0_fillTriple_122 : decode cX0_fillTriple 122 = .ok (.iload 14, 2) := by decide +kernel
theorem dX0_fillTriple_124 : decode cX0_fillTriple 124 = .ok (.iload 14, 2) := by decide +kernel
theorem dX0_fillTriple_126 : decode cX0_fillTriple 126 = .ok (.imul, 1) := by decide +kernel
theorem dX0_fillTriple_127 : decode cX0_fillTriple 127 = .ok (.iadd, 1) := by decide +kernel
theorem dX0_fillTriple_128 : decode cX0_fillTriple 128 = .ok (.invokevirtual 73, 3) := by decide +kernel
theorem dX0_fillTriple_131 : decode cX0_fillTriple 131 = .ok (.iload 10, 2) := by decide +kernel
theorem dX0_fillTriple_133 : decode cX0_fillTriple 133 = .ok (.ineg, 1) := by decide +kernel
theorem dX0_fillTriple_134 : decode cX0_fillTriple 134 = .ok (.istore 15, 2) := by decide +kernel
theorem dX0_fillTriple_136 : decode cX0_fillTriple 136 = .ok (.iload 9, 2) := by decide +kernel
theorem dX0_fillTriple_138 : decode cX0_fillTriple 138 = .ok (.istore 10, 2) := by decide +kernel
theorem dX0_fillTriple_140 : decode cX0_fillTriple 140 = .ok (.iload 15, 2) := by decide +kernel
theorem dX0_fillTriple_142 : decode cX0_fillTriple 142 = .ok (.istore 9, 2) := by decide +kernel
theorem dX0_fillTriple_144 : decode cX0_fillTriple 144 = .ok (.iinc 12 1, 3) := by decide +kernel
theorem dX0_fillTriple_147 : decode cX0_fillTriple 147 = .ok (.goto (-57), 3) := by decide +kernel
theorem dX0_fillTriple_150 : decode cX0_fillTriple 150 = .ok (.iload 8, 2) := by decide +kernel
theorem dX0_fillTriple_152 : decode cX0_fillTriple 152 = .ok (.ineg, 1) := by decide +kernel
theorem dX0_fillTriple_153 : decode cX0_fillTriple 153 = .ok (.istore 12, 2) := by decide +kernel
theorem dX0_fillTriple_155 : decode cX0_fillTriple 155 = .ok (.iload 7, 2) := by decide +kernel
theorem dX0_fillTriple_157 : decode cX0_fillTriple 157 = .ok (.istore 8, 2) := by decide +kernel
theorem dX0_fillTriple_159 : decode cX0_fillTriple 159 = .ok (.iload 12, 2) := by decide +kernel
theorem dX0_fillTriple_161 : decode cX0_fillTriple 161 = .ok (.istore 7, 2) := by decide +kernel
theorem dX0_fillTriple_163 : decode cX0_fillTriple 163 = .ok (.iinc 11 1, 3) := by decide +kernel
theorem dX0_fillTriple_166 : decode cX0_fillTriple 166 = .ok (.goto (-85), 3) := by decide +kernel
theorem dX0_fillTriple_169 : decode cX0_fillTriple 169 = .ok (.return_, 1) := by decide +kernel
theorem dX0_productReal_0 : decode cX0_productReal 0 = .ok (.aload_n 0, 1) := by decide +kernel
theorem dX0_productReal_1 : decode cX0_productReal 1 = .ok (.iload_n 1, 1) := by decide +kernel
theorem dX0_productReal_2 : decode cX0_productReal 2 = .ok (.invokevirtual 60, 3) := by decide +kernel
theorem dX0_productReal_5 : decode cX0_productReal 5 = .ok (.aload_n 0, 1) := by decide +kernel
theorem dX0_productReal_6 : decode cX0_productReal 6 = .ok (.iload_n 2, 1) := by decide +kernel
theorem dX0_productReal_7 : decode cX0_productReal 7 = .ok (.invokevirtual 60, 3) := by decide +kernel
theorem dX0_productReal_10 : decode cX0_productReal 10 = .ok (.imul, 1) := by decide +kernel
theorem dX0_productReal_11 : decode cX0_productReal 11 = .ok (.aload_n 0, 1) := by decide +kernel
theorem dX0_productReal_12 : decode cX0_productReal 12 = .ok (.iload_n 1, 1) := by decide +kernel
theorem dX0_productReal_13 : decode cX0_productReal 13 = .ok (.invokevirtual 63, 3) := by decide +kernel
theorem dX0_productReal_16 : decode cX0_productReal 16 = .ok (.aload_n 0, 1) := by decide +kernel
theorem dX0_productReal_17 : decode cX0_productReal 17 = .ok (.iload_n 2, 1) := by decide +kernel
theorem dX0_productReal_18 : decode cX0_productReal 18 = .ok (.invokevirtual 63, 3) := by decide +kernel
theorem dX0_productReal_21 : decode cX0_productReal 21 = .ok (.imul, 1) := by decide +kernel
theorem dX0_productReal_22 : decode cX0_productReal 22 = .ok (.isub, 1) := by decide +kernel
theorem dX0_productReal_23 : decode cX0_productReal 23 = .ok (.ireturn, 1) := by decide +kernel
theorem dX0_productImaginary_0 : decode cX0_productImaginary 0 = .ok (.aload_n 0, 1) := by decide +kernel
theorem dX0_productImaginary_1 : decode cX0_productImaginary 1 = .ok (.iload_n 1, 1) := by decide +kernel
theorem dX0_productImaginary_2 : decode cX0_productImaginary 2 = .ok (.invokevirtual 60, 3) := by decide +kernel
theorem dX0_productImaginary_5 : decode cX0_productImaginary 5 = .ok (.aload_n 0, 1) := by decide +kernel
theorem dX0_productImaginary_6 : decode cX0_productImaginary 6 = .ok (.iload_n 2, 1) := by decide +kernel
theorem dX0_productImaginary_7 : decode cX0_productImaginary 7 = .ok (.invokevirtual 63, 3) := by decide +kernel
theorem dX0_productImaginary_10 : decode cX0_productImaginary 10 = .ok (.imul, 1) := by decide +kernel
theorem dX0_productImaginary_11 : decode cX0_productImaginary 11 = .ok (.aload_n 0, 1) := by decide +kernel
theorem dX0_productImaginary_12 : decode cX0_productImaginary 12 = .ok (.iload_n 1, 1) := by decide +kernel
theorem dX0_productImaginary_13 : decode cX0_productImaginary 13 = .ok (.invokevirtual 63, 3) := by decide +kernel
theorem dX0_productImaginary_16 : decode cX0_productImaginary 16 = .ok (.aload_n 0, 1) := by decide +kernel
theorem dX0_productImaginary_17 : decode cX0_productImaginary 17 = .ok (.iload_n 2, 1) := by decide +kernel
theorem dX0_productImaginary_18 : decode cX0_productImaginary 18 = .ok (.invokevirtual 60, 3) := by decide +kernel
theorem dX0_productImaginary_21 : decode cX0_productImaginary 21 = .ok (.imul, 1) := by decide +kernel
theorem dX0_productImaginary_22 : decode cX0_productImaginary 22 = .ok (.iadd, 1) := by decide +kernel
theorem dX0_productImaginary_23 : decode cX0_productImaginary 23 = .ok (.ireturn, 1) := by decide +kernel
theorem dX0_fillPlates_0 : decode cX0_fillPlates 0 = .ok (.iload_n 2, 1) := by decide +kernel
theorem dX0_fillPlates_1 : decode cX0_fillPlates 1 = .ok (.iconst 0, 1) := by decide +kernel
theorem dX0_fillPlates_2 : decode cX0_fillPlates 2 = .ok (.invokestatic 84, 3) := by decide +kernel
theorem dX0_fillPlates_5 : decode cX0_fillPlates 5 = .ok (.istore_n 3, 1) := by decide +kernel
theorem dX0_fillPlates_6 : decode cX0_fillPlates 6 = .ok (.iload_n 2, 1) := by decide +kernel
theorem dX0_fillPlates_7 : decode cX0_fillPlates 7 = .ok (.iload_n 3, 1) := by decide +kernel
theorem dX0_fillPlates_8 : decode cX0_fillPlates 8 = .ok (.iconst 1, 1) := by decide +kernel
theorem dX0_fillPlates_9 : decode cX0_fillPlates 9 = .ok (.iadd, 1) := by decide +kernel
theorem dX0_fillPlates_10 : decode cX0_fillPlates 10 = .ok (.invokestatic 84, 3) := by decide +kernel
theorem dX0_fillPlates_13 : decode cX0_fillPlates 13 = .ok (.istore 4, 2) := by decide +kernel
theorem dX0_fillPlates_15 : decode cX0_fillPlates 15 = .ok (.iload_n 2, 1) := by decide +kernel
theorem dX0_fillPlates_16 : decode cX0_fillPlates 16 = .ok (.iload 4, 2) := by decide +kernel
theorem dX0_fillPlates_18 : decode cX0_fillPlates 18 = .ok (.iconst 1, 1) := by decide +kernel
theorem dX0_fillPlates_19 : decode cX0_fillPlates 19 = .ok (.iadd, 1) := by decide +kernel
theorem dX0_fillPlates_20 : decode cX0_fillPlates 20 = .ok (.invokestatic 84, 3) := by decide +kernel
theorem dX0_fillPlates_23 : decode cX0_fillPlates 23 = .ok (.istore 5, 2) := by decide +kernel
theorem dX0_fillPlates_25 : decode cX0_fillPlates 25 = .ok (.iload 5, 2) := by decide +kernel
theorem dX0_fillPlates_27 : decode cX0_fillPlates 27 = .ok (.iconst 4, 1) := by decide +kernel
theorem dX0_fillPlates_28 : decode cX0_fillPlates 28 = .ok (.if_icmp .ge 16, 3) := by decide +kernel
theorem dX0_fillPlates_31 : decode cX0_fillPlates 31 = .ok (.aload_n 0, 1) := by decide +kernel
theorem dX0_fillPlates_32 : decode cX0_fillPlates 32 = .ok (.aload_n 1, 1) := by decide +kernel
theorem dX0_fillPlates_33 : decode cX0_fillPlates 33 = .ok (.iload_n 3, 1) := by decide +kernel
theorem dX0_fillPlates_34 : decode cX0_fillPlates 34 = .ok (.iload 4, 2) := by decide +kernel
theorem dX0_fillPlates_36 : decode cX0_fillPlates 36 = .ok (.iload 5, 2) := by decide +kernel
theorem dX0_fillPlates_38 : decode cX0_fillPlates 38 = .ok (.invokevirtual 88, 3) := by decide +kernel
theorem dX0_fillPlates_41 : decode cX0_fillPlates 41 = .ok (.goto 11, 3) := by decide +kernel
theorem dX0_fillPlates_44 : decode cX0_fillPlates 44 = .ok (.aload_n 0, 1) := by decide +kernel
theorem dX0_fillPlates_45 : decode cX0_fillPlates 45 = .ok (.aload_n 1, 1) := by decide +kernel
theorem dX0_fillPlates_46 : decode cX0_fillPlates 46 = .ok (.iload_n 3, 1) := by decide +kernel
theorem dX0_fillPlates_47 : decode cX0_fillPlates 47 = .ok (.iload 4, 2) := by decide +kernel
theorem dX0_fillPlates_49 : decode cX0_fillPlates 49 = .ok (.invokevirtual 92, 3) := by decide +kernel
theorem dX0_fillPlates_52 : decode cX0_fillPlates 52 = .ok (.return_, 1) := by decide +kernel
theorem dX0_firstPlate_0 : decode cX0_firstPlate 0 = .ok (.iload_n 1, 1) := by decide +kernel
theorem dX0_firstPlate_1 : decode cX0_firstPlate 1 = .ok (.istore_n 2, 1) := by decide +kernel
theorem dX0_firstPlate_2 : decode cX0_firstPlate 2 = .ok (.iload_n 2, 1) := by decide +kernel
theorem dX0_firstPlate_3 : decode cX0_firstPlate 3 = .ok (.iconst 4, 1) := by decide +kernel
theorem dX0_firstPlate_4 : decode cX0_firstPlate 4 = .ok (.if_icmp .ge 20, 3) := by decide +kernel
theorem dX0_firstPlate_7 : decode cX0_firstPlate 7 = .ok (.iload_n 0, 1) := by decide +kernel
theorem dX0_firstPlate_8 : decode cX0_firstPlate 8 = .ok (.iload_n 2, 1) := by decide +kernel
theorem dX0_firstPlate_9 : decode cX0_firstPlate 9 = .ok (.ishr, 1) := by decide +kernel
theorem dX0_firstPlate_10 : decode cX0_firstPlate 10 = .ok (.iconst 1, 1) := by decide +kernel
theorem dX0_firstPlate_11 : decode cX0_firstPlate 11 = .ok (.iand, 1) := by decide +kernel
theorem dX0_firstPlate_12 : decode cX0_firstPlate 12 = .ok (.iconst 1, 1) := by decide +kernel
theorem dX0_firstPlate_13 : decode cX0_firstPlate 13 = .ok (.if_icmp .ne 5, 3) := by decide +kernel
theorem dX0_firstPlate_16 : decode cX0_firstPlate 16 = .ok (.iload_n 2, 1) := by decide +kernel
theorem dX0_firstPlate_17 : decode cX0_firstPlate 17 = .ok (.ireturn, 1) := by decide +kernel
theorem dX0_firstPlate_18 : decode cX0_firstPlate 18 = .ok (.iinc 2 1, 3) := by decide +kernel
theorem dX0_firstPlate_21 : decode cX0_firstPlate 21 = .ok (.goto (-19), 3) := by decide +kernel
theorem dX0_firstPlate_24 : decode cX0_firstPlate 24 = .ok (.iconst 4, 1) := by decide +kernel
theorem dX0_firstPlate_25 : decode cX0_firstPlate 25 = .ok (.ireturn, 1) := by decide +kernel
theorem dX0_kindOf_0 : decode cX0_kindOf 0 = .ok (.iload_n 1, 1) := by decide +kernel
theorem dX0_kindOf_1 : decode cX0_kindOf 1 = .ok (.ifCond .ne 5, 3) := by decide +kernel
theorem dX0_kindOf_4 : decode cX0_kindOf 4 = .ok (.iconst 0, 1) := by decide +kernel
theorem dX0_kindOf_5 : decode cX0_kindOf 5 = .ok (.ireturn, 1) := by decide +kernel
theorem dX0_kindOf_6 : decode cX0_kindOf 6 = .ok (.iload_n 1, 1) := by decide +kernel
theorem dX0_kindOf_7 : decode cX0_kindOf 7 = .ok (.i2l, 1) := by decide +kernel
theorem dX0_kindOf_8 : decode cX0_kindOf 8 = .ok (.aload_n 0, 1) := by decide +kernel
theorem dX0_kindOf_9 : decode cX0_kindOf 9 = .ok (.getfield 19, 3) := by decide +kernel
theorem dX0_kindOf_12 : decode cX0_kindOf 12 = .ok (.lcmp, 1) := by decide +kernel
theorem dX0_kindOf_13 : decode cX0_kindOf 13 = .ok (.ifCond .lt 5, 3) := by decide +kernel
theorem dX0_kindOf_16 : decode cX0_kindOf 16 = .ok (.iconst 1, 1) := by decide +kernel
theorem dX0_kindOf_17 : decode cX0_kindOf 17 = .ok (.ireturn, 1) := by decide +kernel
theorem dX0_kindOf_18 : decode cX0_kindOf 18 = .ok (.iload_n 1, 1) := by decide +kernel
theorem dX0_kindOf_19 : decode cX0_kindOf 19 = .ok (.i2l, 1) := by decide +kernel
theorem dX0_kindOf_20 : decode cX0_kindOf 20 = .ok (.aload_n 0, 1) := by decide +kernel
theorem dX0_kindOf_21 : decode cX0_kindOf 21 = .ok (.getfield 22, 3) := by decide +kernel
theorem dX0_kindOf_24 : decode cX0_kindOf 24 = .ok (.lcmp, 1) := by decide +kernel
theorem dX0_kindOf_25 : decode cX0_kindOf 25 = .ok (.ifCond .gt 7, 3) := by decide +kernel
theorem dX0_kindOf_28 : decode cX0_kindOf 28 = .ok (.iconst 2, 1) := by decide +kernel
theorem dX0_kindOf_29 : decode cX0_kindOf 29 = .ok (.goto 4, 3) := by decide +kernel
theorem dX0_kindOf_32 : decode cX0_kindOf 32 = .ok (.iconst 3, 1) := by decide +kernel
theorem dX0_kindOf_33 : decode cX0_kindOf 33 = .ok (.ireturn, 1) := by decide +kernel
theorem dX0_bandCount_0 : decode cX0_bandCount 0 = .ok (.iconst 0, 1) := by decide +kernel
theorem dX0_bandCount_1 : decode cX0_bandCount 1 = .ok (.istore_n 1, 1) := by decide +kernel
theorem dX0_bandCount_2 : decode cX0_bandCount 2 = .ok (.iconst 0, 1) := by decide +kernel
theorem dX0_bandCount_3 : decode cX0_bandCount 3 = .ok (.istore_n 2, 1) := by decide +kernel
theorem dX0_bandCount_4 : decode cX0_bandCount 4 = .ok (.iload_n 2, 1) := by decide +kernel
theorem dX0_bandCount_5 : decode cX0_bandCount 5 = .ok (.aload_n 0, 1) := by decide +kernel
theorem dX0_bandCount_6 : decode cX0_bandCount 6 = .ok (.getfield 35, 3) := by decide +kernel
theorem dX0_bandCount_9 : decode cX0_bandCount 9 = .ok (.if_icmp .ge 33, 3) := by decide +kernel
theorem dX0_bandCount_12 : decode cX0_bandCount 12 = .ok (.iload_n 2, 1) := by decide +kernel
theorem dX0_bandCount_13 : decode cX0_bandCount 13 = .ok (.sipush 144, 3) := by decide +kernel
theorem dX0_bandCount_16 : decode cX0_bandCount 16 = .ok (.if_icmp .ge 26, 3) := by decide +kernel
theorem dX0_bandCount_19 : decode cX0_bandCount 19 = .ok (.aload_n 0, 1) := by decide +kernel
theorem dX0_bandCount_20 : decode cX0_bandCount 20 = .ok (.aload_n 0, 1) := by decide +kernel
theorem dX0_bandCount_21 : decode cX0_bandCount 21 = .ok (.getfield 9, 3) := by decide +kernel
theorem dX0_bandCount_24 : decode cX0_bandCount 24 = .ok (.iload_n 2, 1) := by decide +kernel
theorem dX0_bandCount_25 : decode cX0_bandCount 25 = .ok (.iaload, 1) := by decide +kernel
theorem dX0_bandCount_26 : decode cX0_bandCount 26 = .ok (.invokevirtual 95, 3) := by decide +kernel
theorem dX0_bandCount_29 : decode cX0_bandCount 29 = .ok (.iconst 3, 1) := by decide +kernel
theorem dX0_bandCount_30 : decode cX0_bandCount 30 = .ok (.if_icmp .ne 6, 3) := by decide +kernel
theorem dX0_bandCount_33 : decode cX0_bandCount 33 = .ok (.iinc 1 4, 3) := by decide +kernel
theorem dX0_bandCount_36 : decode cX0_bandCount 36 = .ok (.iinc 2 1, 3) := by decide +kernel
theorem dX0_bandCount_39 : decode cX0_bandCount 39 = .ok (.goto (-35), 3) := by decide +kernel
theorem dX0_bandCount_42 : decode cX0_bandCount 42 = .ok (.iload_n 1, 1) := by decide +kernel
theorem dX0_bandCount_43 : decode cX0_bandCount 43 = .ok (.ireturn, 1) := by decide +kernel
theorem dX0_worstPeriodFound_0 : decode cX0_worstPeriodFound 0 = .ok (.iconst 0, 1) := by decide +kernel
theorem dX0_worstPeriodFound_1 : decode cX0_worstPeriodFound 1 = .ok (.istore_n 1, 1) := by decide +kernel
theorem dX0_worstPeriodFound_2 : decode cX0_worstPeriodFound 2 = .ok (.iconst 0, 1) := by decide +kernel
theorem dX0_worstPeriodFound_3 : decode cX0_worstPeriodFound 3 = .ok (.istore_n 2, 1) := by decide +kernel
theorem dX0_worstPeriodFound_4 : decode cX0_worstPeriodFound 4 = .ok (.iload_n 2, 1) := by decide +kernel
theorem dX0_worstPeriodFound_5 : decode cX0_worstPeriodFound 5 = .ok (.aload_n 0, 1) := by decide +kernel
theorem dX0_worstPeriodFound_6 : decode cX0_worstPeriodFound 6 = .ok (.getfield 35, 3) := by decide +kernel
theorem dX0_worstPeriodFound_9 : decode cX0_worstPeriodFound 9 = .ok (.if_icmp .ge 51, 3) := by decide +kernel
theorem dX0_worstPeriodFound_12 : decode cX0_worstPeriodFound 12 = .ok (.iload_n 2, 1) := by decide +kernel
theorem dX0_worstPeriodFound_13 : decode cX0_worstPeriodFound 13 = .ok (.sipush 144, 3) := by decide +kernel
theorem dX0_worstPeriodFound_16 : decode cX0_worstPeriodFound 16 = .ok (.if_icmp .ge 44, 3) := by decide +kernel
theorem dX0_worstPeriodFound_19 : decode cX0_worstPeriodFound 19 = .ok (.aload_n 0, 1) := by decide +kernel
theorem dX0_worstPeriodFound_20 : decode cX0_worstPeriodFound 20 = .ok (.aload_n 0, 1) := by decide +kernel
theorem dX0_worstPeriodFound_21 : decode cX0_worstPeriodFound 21 = .ok (.getfield 9, 3) := by decide +kernel
theorem dX0_worstPeriodFound_24 : decode cX0_worstPeriodFound 24 = .ok (.iload_n 2, 1) := by decide +kernel
theorem dX0_worstPeriodFound_25 : decode cX0_worstPeriodFound 25 = .ok (.iaload, 1) := by decide +kernel
theorem dX0_worstPeriodFound_26 : decode cX0_worstPeriodFound 26 = .ok (.invokevirtual 95, 3) := by decide +kernel
theorem dX0_worstPeriodFound_29 : decode cX0_worstPeriodFound 29 = .ok (.iconst 3, 1) := by decide +kernel
theorem dX0_worstPeriodFound_30 : decode cX0_worstPeriodFound 30 = .ok (.if_icmp .ne 24, 3) := by decide +kernel
theorem dX0_worstPeriodFound_33 : decode cX0_worstPeriodFound 33 = .ok (.iload_n 1, 1) := by decide +kernel
theorem dX0_worstPeriodFound_34 : decode cX0_worstPeriodFound 34 = .ok (.ifCond .eq 13, 3) := by decide +kernel
theorem dX0_worstPeriodFound_37 : decode cX0_worstPeriodFound 37 = .ok (.aload_n 0, 1) := by decide +kernel
theorem dX0_worstPeriodFound_38 : decode cX0_worstPeriodFound 38 = .ok (.getfield 9, 3) := by decide +kernel
theorem dX0_worstPeriodFound_41 : decode cX0_worstPeriodFound 41 = .ok (.iload_n 2, 1) := by decide +kernel
theorem dX0_worstPeriodFound_42 : decode cX0_worstPeriodFound 42 = .ok (.iaload, 1) := by decide +kernel
theorem dX0_worstPeriodFound_43 : decode cX0_worstPeriodFound 43 = .ok (.iload_n 1, 1) := by decide +kernel
theorem dX0_worstPeriodFound_44 : decode cX0_worstPeriodFound 44 = .ok (.if_icmp .ge 10, 3) := by decide +kernel
theorem dX0_worstPeriodFound_47 : decode cX0_worstPeriodFound 47 = .ok (.aload_n 0, 1) := by decide +kernel
theorem dX0_worstPeriodFound_48 : decode cX0_worstPeriodFound 48 = .ok (.getfield 9, 3) := by decide +kernel
theorem dX0_worstPeriodFound_51 : decode cX0_worstPeriodFound 51 = .ok (.iload_n 2, 1) := by decide +kernel
theorem dX0_worstPeriodFound_52 : decode cX0_worstPeriodFound 52 = .ok (.iaload, 1) := by decide +kernel
theorem dX0_worstPeriodFound_53 : decode cX0_worstPeriodFound 53 = .ok (.istore_n 1, 1) := by decide +kernel
theorem dX0_worstPeriodFound_54 : decode cX0_worstPeriodFound 54 = .ok (.iinc 2 1, 3) := by decide +kernel
theorem dX0_worstPeriodFound_57 : decode cX0_worstPeriodFound 57 = .ok (.goto (-53), 3) := by decide +kernel
theorem dX0_worstPeriodFound_60 : decode cX0_worstPeriodFound 60 = .ok (.aload_n 0, 1) := by decide +kernel
theorem dX0_worstPeriodFound_61 : decode cX0_worstPeriodFound 61 = .ok (.iload_n 1, 1) := by decide +kernel
theorem dX0_worstPeriodFound_62 : decode cX0_worstPeriodFound 62 = .ok (.invokevirtual 98, 3) := by decide +kernel
theorem dX0_worstPeriodFound_65 : decode cX0_worstPeriodFound 65 = .ok (.ireturn, 1) := by decide +kernel
theorem dX0_combinationsWith_0 : decode cX0_combinationsWith 0 = .ok (.iconst 0, 1) := by decide +kernel
theorem dX0_combinationsWith_1 : decode cX0_combinationsWith 1 = .ok (.istore_n 2, 1) := by decide +kernel
theorem dX0_combinationsWith_2 : decode cX0_combinationsWith 2 = .ok (.iconst 0, 1) := by decide +kernel
theorem dX0_combinationsWith_3 : decode cX0_combinationsWith 3 = .ok (.istore_n 3, 1) := by decide +kernel
theorem dX0_combinationsWith_4 : decode cX0_combinationsWith 4 = .ok (.iload_n 3, 1) := by decide +kernel
theorem dX0_combinationsWith_5 : decode cX0_combinationsWith 5 = .ok (.aload_n 0, 1) := by decide +kernel
theorem dX0_combinationsWith_6 : decode cX0_combinationsWith 6 = .ok (.getfield 35, 3) := by decide +kernel
theorem dX0_combinationsWith_9 : decode cX0_combinationsWith 9 = .ok (.if_icmp .ge 29, 3) := by decide +kernel
theorem dX0_combinationsWith_12 : decode cX0_combinationsWith 12 = .ok (.iload_n 3, 1) := by decide +kernel
theorem dX0_combinationsWith_13 : decode cX0_combinationsWith 13 = .ok (.sipush 144, 3) := by decide +kernel
theorem dX0_combinationsWith_16 : decode cX0_combinationsWith 16 = .ok (.if_icmp .ge 22, 3) := by decide +kernel
theorem dX0_combinationsWith_19 : decode cX0_combinationsWith 19 = .ok (.aload_n 0, 1) := by decide +kernel
theorem dX0_combinationsWith_20 : decode cX0_combinationsWith 20 = .ok (.getfield 9, 3) := by decide +kernel
theorem dX0_combinationsWith_23 : decode cX0_combinationsWith 23 = .ok (.iload_n 3, 1) := by decide +kernel
theorem dX0_combinationsWith_24 : decode cX0_combinationsWith 24 = .ok (.iaload, 1) := by decide +kernel
theorem dX0_combinationsWith_25 : decode cX0_combinationsWith 25 = .ok (.iload_n 1, 1) := by decide +kernel
theorem dX0_combinationsWith_26 : decode cX0_combinationsWith 26 = .ok (.if_icmp .ne 6, 3) := by decide +kernel
theorem dX0_combinationsWith_29 : decode cX0_combinationsWith 29 = .ok (.iinc 2 4, 3) := by decide +kernel
theorem dX0_combinationsWith_32 : decode cX0_combinationsWith 32 = .ok (.iinc 3 1, 3) := by decide +kernel
theorem dX0_combinationsWith_35 : decode cX0_combinationsWith 35 = .ok (.goto (-31), 3) := by decide +kernel
theorem dX0_combinationsWith_38 : decode cX0_combinationsWith 38 = .ok (.iload_n 2, 1) := by decide +kernel
theorem dX0_combinationsWith_39 : decode cX0_combinationsWith 39 = .ok (.ireturn, 1) := by decide +kernel
theorem dX0_sort_0 : decode cX0_sort 0 = .ok (.iconst 1, 1) := by decide +kernel
theorem dX0_sort_1 : decode cX0_sort 1 = .ok (.istore_n 1, 1) := by decide +kernel
theorem dX0_sort_2 : decode cX0_sort 2 = .ok (.iload_n 1, 1) := by decide +kernel
theorem dX0_sort_3 : decode cX0_sort 3 = .ok (.aload_n 0, 1) := by decide +kernel
theorem dX0_sort_4 : decode cX0_sort 4 = .ok (.getfield 35, 3) := by decide +kernel
theorem dX0_sort_7 : decode cX0_sort 7 = .ok (.if_icmp .ge 68, 3) := by decide +kernel
theorem dX0_sort_10 : decode cX0_sort 10 = .ok (.iload_n 1, 1) := by decide +kernel
theorem dX0_sort_11 : decode cX0_sort 11 = .ok (.sipush 144, 3) := by decide +kernel
theorem dX0_sort_14 : decode cX0_sort 14 = .ok (.if_icmp .ge 61, 3) := by decide +kernel
theorem dX0_sort_17 : decode cX0_sort 17 = .ok (.aload_n 0, 1) := by decide +kernel
theorem dX0_sort_18 : decode cX0_sort 18 = .ok (.getfield 9, 3) := by decide +kernel
theorem dX0_sort_21 : decode cX0_sort 21 = .ok (.iload_n 1, 1) := by decide +kernel
theorem dX0_sort_22 : decode cX0_sort 22 = .ok (.iaload, 1) := by decide +kernel
theorem dX0_sort_23 : decode cX0_sort 23 = .ok (.istore_n 2, 1) := by decide +kernel
theorem dX0_sort_24 : decode cX0_sort 24 = .ok (.iload_n 1, 1) := by decide +kernel
theorem dX0_sort_25 : decode cX0_sort 25 = .ok (.istore_n 3, 1) := by decide +kernel
theorem dX0_sort_26 : decode cX0_sort 26 = .ok (.iload_n 3, 1) := by decide +kernel
theorem dX0_sort_27 : decode cX0_sort 27 = .ok (.ifCond .le 35, 3) := by decide +kernel
theorem dX0_sort_30 : decode cX0_sort 30 = .ok (.aload_n 0, 1) := by decide +kernel
theorem dX0_sort_31 : decode cX0_sort 31 = .ok (.getfield 9, 3) := by decide +kernel
theorem dX0_sort_34 : decode cX0_sort 34 = .ok (.iload_n 3, 1) := by decide +kernel
theorem dX0_sort_35 : decode cX0_sort 35 = .ok (.iconst 1, 1) := by decide +kernel
theorem dX0_sort_36 : decode cX0_sort 36 = .ok (.isub, 1) := by decide +kernel
theorem dX0_sort_37 : decode cX0_sort 37 = .ok (.iaload, 1) := by decide +kernel
theorem dX0_sort_38 : decode cX0_sort 38 = .ok (.iload_n 2, 1) := by decide +kernel
theorem dX0_sort_39 : decode cX0_sort 39 = .ok (.if_icmp .le 23, 3) := by decide +kernel
theorem dX0_sort_42 : decode cX0_sort 42 = .ok (.aload_n 0, 1) := by decide +kernel
theorem dX0_sort_43 : decode cX0_sort 43 = .ok (.getfield 9, 3) := by decide +kernel
theorem dX0_sort_46 : decode cX0_sort 46 = .ok (.iload_n 3, 1) := by decide +kernel
theorem dX0_sort_47 : decode cX0_sort 47 = .ok (.aload_n 0, 1) := by decide +kernel
theorem dX0_sort_48 : decode cX0_sort 48 = .ok (.getfield 9, 3) := by decide +kernel
theorem dX0_sort_51 : decode cX0_sort 51 = .ok (.iload_n 3, 1) := by decide +kernel
theorem dX0_sort_52 : decode cX0_sort 52 = .ok (.iconst 1, 1) := by decide +kernel
theorem dX0_sort_53 : decode cX0_sort 53 = .ok (.isub, 1) := by decide +kernel
theorem dX0_sort_54 : decode cX0_sort 54 = .ok (.iaload, 1) := by decide +kernel
theorem dX0_sort_55 : decode cX0_sort 55 = .ok (.iastore, 1) := by decide +kernel
theorem dX0_sort_56 : decode cX0_sort 56 = .ok (.iinc 3 (-1), 3) := by decide +kernel
theorem dX0_sort_59 : decode cX0_sort 59 = .ok (.goto (-33), 3) := by decide +kernel
theorem dX0_sort_62 : decode cX0_sort 62 = .ok (.aload_n 0, 1) := by decide +kernel
theorem dX0_sort_63 : decode cX0_sort 63 = .ok (.getfield 9, 3) := by decide +kernel
theorem dX0_sort_66 : decode cX0_sort 66 = .ok (.iload_n 3, 1) := by decide +kernel
theorem dX0_sort_67 : decode cX0_sort 67 = .ok (.iload_n 2, 1) := by decide +kernel
theorem dX0_sort_68 : decode cX0_sort 68 = .ok (.iastore, 1) := by decide +kernel
theorem dX0_sort_69 : decode cX0_sort 69 = .ok (.iinc 1 1, 3) := by decide +kernel
theorem dX0_sort_72 : decode cX0_sort 72 = .ok (.goto (-70), 3) := by decide +kernel
theorem dX0_sort_75 : decode cX0_sort 75 = .ok (.return_, 1) := by decide +kernel
theorem dX0_differentNorms_0 : decode cX0_differentNorms 0 = .ok (.iconst 0, 1) := by decide +kernel
theorem dX0_differentNorms_1 : decode cX0_differentNorms 1 = .ok (.istore_n 1, 1) := by decide +kernel
theorem dX0_differentNorms_2 : decode cX0_differentNorms 2 = .ok (.iconst 0, 1) := by decide +kernel
theorem dX0_differentNorms_3 : decode cX0_differentNorms 3 = .ok (.istore_n 2, 1) := by decide +kernel
theorem dX0_differentNorms_4 : decode cX0_differentNorms 4 = .ok (.iload_n 2, 1) := by decide +kernel
theorem dX0_differentNorms_5 : decode cX0_differentNorms 5 = .ok (.aload_n 0, 1) := by decide +kernel
theorem dX0_differentNorms_6 : decode cX0_differentNorms 6 = .ok (.getfield 35, 3) := by decide +kernel
theorem dX0_differentNorms_9 : decode cX0_differentNorms 9 = .ok (.if_icmp .ge 40, 3) := by decide +kernel
theorem dX0_differentNorms_12 : decode cX0_differentNorms 12 = .ok (.iload_n 2, 1) := by decide +kernel
theorem dX0_differentNorms_13 : decode cX0_differentNorms 13 = .ok (.sipush 144, 3) := by decide +kernel
theorem dX0_differentNorms_16 : decode cX0_differentNorms 16 = .ok (.if_icmp .ge 33, 3) := by decide +kernel
theorem dX0_differentNorms_19 : decode cX0_differentNorms 19 = .ok (.iload_n 2, 1) := by decide +kernel
theorem dX0_differentNorms_20 : decode cX0_differentNorms 20 = .ok (.ifCond .eq 20, 3) := by decide +kernel
theorem dX0_differentNorms_23 : decode cX0_differentNorms 23 = .ok (.aload_n 0, 1) := by decide +kernel
theorem dX0_differentNorms_24 : decode cX0_differentNorms 24 = .ok (.getfield 9, 3) := by decide +kernel
theorem dX0_differentNorms_27 : decode cX0_differentNorms 27 = .ok (.iload_n 2, 1) := by decide +kernel
theorem dX0_differentNorms_28 : decode cX0_differentNorms 28 = .ok (.iaload, 1) := by decide +kernel
theorem dX0_differentNorms_29 : decode cX0_differentNorms 29 = .ok (.aload_n 0, 1) := by decide +kernel
theorem dX0_differentNorms_30 : decode cX0_differentNorms 30 = .ok (.getfield 9, 3) := by decide +kernel
theorem dX0_differentNorms_33 : decode cX0_differentNorms 33 = .ok (.iload_n 2, 1) := by decide +kernel
theorem dX0_differentNorms_34 : decode cX0_differentNorms 34 = .ok (.iconst 1, 1) := by decide +kernel
theorem dX0_differentNorms_35 : decode cX0_differentNorms 35 = .ok (.isub, 1) := by decide +kernel
theorem dX0_differentNorms_36 : decode cX0_differentNorms 36 = .ok (.iaload, 1) := by decide +kernel
theorem dX0_differentNorms_37 : decode cX0_differentNorms 37 = .ok (.if_icmp .eq 6, 3) := by decide +kernel
theorem dX0_differentNorms_40 : decode cX0_differentNorms 40 = .ok (.iinc 1 1, 3) := by decide +kernel
theorem dX0_differentNorms_43 : decode cX0_differentNorms 43 = .ok (.iinc 2 1, 3) := by decide +kernel
theorem dX0_differentNorms_46 : decode cX0_differentNorms 46 = .ok (.goto (-42), 3) := by decide +kernel
theorem dX0_differentNorms_49 : decode cX0_differentNorms 49 = .ok (.iload_n 1, 1) := by decide +kernel
theorem dX0_differentNorms_50 : decode cX0_differentNorms 50 = .ok (.ireturn, 1) := by decide +kernel
theorem dX0_normAt_0 : decode cX0_normAt 0 = .ok (.iconst 0, 1) := by decide +kernel
theorem dX0_normAt_1 : decode cX0_normAt 1 = .ok (.istore_n 2, 1) := by decide +kernel
theorem dX0_normAt_2 : decode cX0_normAt 2 = .ok (.iconst 0, 1) := by decide +kernel
theorem dX0_normAt_3 : decode cX0_normAt 3 = .ok (.istore_n 3, 1) := by decide +kernel
theorem dX0_normAt_4 : decode cX0_normAt 4 = .ok (.iload_n 3, 1) := by decide +kernel
theorem dX0_normAt_5 : decode cX0_normAt 5 = .ok (.aload_n 0, 1) := by decide +kernel
theorem dX0_normAt_6 : decode cX0_normAt 6 = .ok (.getfield 35, 3) := by decide +kernel
theorem dX0_normAt_9 : decode cX0_normAt 9 = .ok (.if_icmp .ge 52, 3) := by decide +kernel
theorem dX0_normAt_12 : decode cX0_normAt 12 = .ok (.iload_n 3, 1) := by decide +kernel
theorem dX0_normAt_13 : decode cX0_normAt 13 = .ok (.sipush 144, 3) := by decide +kernel
theorem dX0_normAt_16 : decode cX0_normAt 16 = .ok (.if_icmp .ge 45, 3) := by decide +kernel
theorem dX0_normAt_19 : decode cX0_normAt 19 = .ok (.iload_n 3, 1) := by decide +kernel
theorem dX0_normAt_20 : decode cX0_normAt 20 = .ok (.ifCond .eq 20, 3) := by decide +kernel
theorem dX0_normAt_23 : decode cX0_normAt 23 = .ok (.aload_n 0, 1) := by decide +kernel
theorem dX0_normAt_24 : decode cX0_normAt 24 = .ok (.getfield 9, 3) := by decide +kernel
theorem dX0_normAt_27 : decode cX0_normAt 27 = .ok (.iload_n 3, 1) := by decide +kernel
theorem dX0_normAt_28 : decode cX0_normAt 28 = .ok (.iaload, 1) := by decide +kernel
theorem dX0_normAt_29 : decode cX0_normAt 29 = .ok (.aload_n 0, 1) := by decide +kernel
theorem dX0_normAt_30 : decode cX0_normAt 30 = .ok (.getfield 9, 3) := by decide +kernel
theorem dX0_normAt_33 : decode cX0_normAt 33 = .ok (.iload_n 3, 1) := by decide +kernel
theorem dX0_normAt_34 : decode cX0_normAt 34 = .ok (.iconst 1, 1) := by decide +kernel
theorem dX0_normAt_35 : decode cX0_normAt 35 = .ok (.isub, 1) := by decide +kernel
theorem dX0_normAt_36 : decode cX0_normAt 36 = .ok (.iaload, 1) := by decide +kernel
theorem dX0_normAt_37 : decode cX0_normAt 37 = .ok (.if_icmp .eq 18, 3) := by decide +kernel
theorem dX0_normAt_40 : decode cX0_normAt 40 = .ok (.iload_n 2, 1) := by decide +kernel
theorem dX0_normAt_41 : decode cX0_normAt 41 = .ok (.iload_n 1, 1) := by decide +kernel
theorem dX0_normAt_42 : decode cX0_normAt 42 = .ok (.if_icmp .ne 10, 3) := by decide +kernel
theorem dX0_normAt_45 : decode cX0_normAt 45 = .ok (.aload_n 0, 1) := by decide +kernel
theorem dX0_normAt_46 : decode cX0_normAt 46 = .ok (.getfield 9, 3) := by decide +kernel
theorem dX0_normAt_49 : decode cX0_normAt 49 = .ok (.iload_n 3, 1) := by decide +kernel
theorem dX0_normAt_50 : decode cX0_normAt 50 = .ok (.iaload, 1) := by decide +kernel
theorem dX0_normAt_51 : decode cX0_normAt 51 = .ok (.ireturn, 1) := by decide +kernel
theorem dX0_normAt_52 : decode cX0_normAt 52 = .ok (.iinc 2 1, 3) := by decide +kernel
theorem dX0_normAt_55 : decode cX0_normAt 55 = .ok (.iinc 3 1, 3) := by decide +kernel
theorem dX0_normAt_58 : decode cX0_normAt 58 = .ok (.goto (-54), 3) := by decide +kernel
theorem dX0_normAt_61 : decode cX0_normAt 61 = .ok (.bipush (-4), 2) := by decide +kernel
theorem dX0_normAt_63 : decode cX0_normAt 63 = .ok (.ireturn, 1) := by decide +kernel
theorem dX0_numerator_0 : decode cX0_numerator 0 = .ok (.iload_n 1, 1) := by decide +kernel
theorem dX0_numerator_1 : decode cX0_numerator 1 = .ok (.i2l, 1) := by decide +kernel
theorem dX0_numerator_2 : decode cX0_numerator 2 = .ok (.iload_n 1, 1) := by decide +kernel
theorem dX0_numerator_3 : decode cX0_numerator 3 = .ok (.i2l, 1) := by decide +kernel
theorem dX0_numerator_4 : decode cX0_numerator 4 = .ok (.aload_n 0, 1) := by decide +kernel
theorem dX0_numerator_5 : decode cX0_numerator 5 = .ok (.getfield 15, 3) := by decide +kernel
theorem dX0_numerator_8 : decode cX0_numerator 8 = .ok (.invokestatic 101, 3) := by decide +kernel
theorem dX0_numerator_11 : decode cX0_numerator 11 = .ok (.invokestatic 45, 3) := by decide +kernel
theorem dX0_numerator_14 : decode cX0_numerator 14 = .ok (.lreturn, 1) := by decide +kernel
theorem dX0_denominator_0 : decode cX0_denominator 0 = .ok (.aload_n 0, 1) := by decide +kernel
theorem dX0_denominator_1 : decode cX0_denominator 1 = .ok (.getfield 15, 3) := by decide +kernel
theorem dX0_denominator_4 : decode cX0_denominator 4 = .ok (.iload_n 1, 1) := by decide +kernel
theorem dX0_denominator_5 : decode cX0_denominator 5 = .ok (.i2l, 1) := by decide +kernel
theorem dX0_denominator_6 : decode cX0_denominator 6 = .ok (.aload_n 0, 1) := by decide +kernel
theorem dX0_denominator_7 : decode cX0_denominator 7 = .ok (.getfield 15, 3) := by decide +kernel
theorem dX0_denominator_10 : decode cX0_denominator 10 = .ok (.invokestatic 101, 3) := by decide +kernel
theorem dX0_denominator_13 : decode cX0_denominator 13 = .ok (.invokestatic 45, 3) := by decide +kernel
theorem dX0_denominator_16 : decode cX0_denominator 16 = .ok (.lreturn, 1) := by decide +kernel
theorem dX0_period_0 : decode cX0_period 0 = .ok (.aload_n 0, 1) := by decide +kernel
theorem dX0_period_1 : decode cX0_period 1 = .ok (.getfield 15, 3) := by decide +kernel
theorem dX0_period_4 : decode cX0_period 4 = .ok (.iload_n 1, 1) := by decide +kernel
theorem dX0_period_5 : decode cX0_period 5 = .ok (.i2l, 1) := by decide +kernel
theorem dX0_period_6 : decode cX0_period 6 = .ok (.invokestatic 45, 3) := by decide +kernel
theorem dX0_period_9 : decode cX0_period 9 = .ok (.invokestatic 104, 3) := by decide +kernel
theorem dX0_period_12 : decode cX0_period 12 = .ok (.ireturn, 1) := by decide +kernel
theorem dX1_init_0 : decode cX1_init 0 = .ok (.aload_n 0, 1) := by decide +kernel
theorem dX1_init_1 : decode cX1_init 1 = .ok (.invokespecial 3, 3) := by decide +kernel
theorem dX1_init_4 : decode cX1_init 4 = .ok (.aload_n 0, 1) := by decide +kernel
theorem dX1_init_5 : decode cX1_init 5 = .ok (.iconst 4, 1) := by decide +kernel
theorem dX1_init_6 : decode cX1_init 6 = .ok (.newarray .int, 2) := by decide +kernel
theorem dX1_init_8 : decode cX1_init 8 = .ok (.putfield 9, 3) := by decide +kernel
theorem dX1_init_11 : decode cX1_init 11 = .ok (.aload_n 0, 1) := by decide +kernel
theorem dX1_init_12 : decode cX1_init 12 = .ok (.iconst 4, 1) := by decide +kernel
theorem dX1_init_13 : decode cX1_init 13 = .ok (.newarray .int, 2) := by decide +kernel
theorem dX1_init_15 : decode cX1_init 15 = .ok (.putfield 15, 3) := by decide +kernel
theorem dX1_init_18 : decode cX1_init 18 = .ok (.aload_n 0, 1) := by decide +kernel
theorem dX1_init_19 : decode cX1_init 19 = .ok (.iconst 0, 1) := by decide +kernel
theorem dX1_init_20 : decode cX1_init 20 = .ok (.putfield 18, 3) := by decide +kernel
theorem dX1_init_23 : decode cX1_init 23 = .ok (.aload_n 0, 1) := by decide +kernel
theorem dX1_init_24 : decode cX1_init 24 = .ok (.iconst 1, 1) := by decide +kernel
theorem dX1_init_25 : decode cX1_init 25 = .ok (.putfield 22, 3) := by decide +kernel
theorem dX1_init_28 : decode cX1_init 28 = .ok (.aload_n 0, 1) := by decide +kernel
theorem dX1_init_29 : decode cX1_init 29 = .ok (.bipush 10, 2) := by decide +kernel
theorem dX1_init_31 : decode cX1_init 31 = .ok (.putfield 25, 3) := by decide +kernel
theorem dX1_init_34 : decode cX1_init 34 = .ok (.aload_n 0, 1) := by decide +kernel
theorem dX1_init_35 : decode cX1_init 35 = .ok (.sipush 500, 3) := by decide +kernel
theorem dX1_init_38 : decode cX1_init 38 = .ok (.putfield 28, 3) := by decide +kernel
theorem dX1_init_41 : decode cX1_init 41 = .ok (.return_, 1) := by decide +kernel
theorem dX1_has_0 : decode cX1_has 0 = .ok (.iload_n 1, 1) := by decide +kernel
theorem dX1_has_1 : decode cX1_has 1 = .ok (.ifCond .lt 20, 3) := by decide +kernel
theorem dX1_has_4 : decode cX1_has 4 = .ok (.iload_n 1, 1) := by decide +kernel
theorem dX1_has_5 : decode cX1_has 5 = .ok (.aload_n 0, 1) := by decide +kernel
theorem dX1_has_6 : decode cX1_has 6 = .ok (.getfield 18, 3) := by decide +kernel
theorem dX1_has_9 : decode cX1_has 9 = .ok (.if_icmp .ge 12, 3) := by decide +kernel
theorem dX1_has_12 : decode cX1_has 12 = .ok (.iload_n 1, 1) := by decide +kernel
theorem dX1_has_13 : decode cX1_has 13 = .ok (.iconst 4, 1) := by decide +kernel
theorem dX1_has_14 : decode cX1_has 14 = .ok (.if_icmp .ge 7, 3) := by decide +kernel
theorem dX1_has_17 : decode cX1_has 17 = .ok (.iconst 1, 1) := by decide +kernel
theorem dX1_has_18 : decode cX1_has 18 = .ok (.goto 4, 3) := by decide +kernel
theorem dX1_has_21 : decode cX1_has 21 = .ok (.iconst 0, 1) := by decide +kernel
theorem dX1_has_22 : decode cX1_has 22 = .ok (.ireturn, 1) := by decide +kernel
theorem dX1_hasPair_0 : decode cX1_hasPair 0 = .ok (.aload_n 0, 1) := by decide +kernel
theorem dX1_hasPair_1 : decode cX1_hasPair 1 = .ok (.iload_n 1, 1) := by decide +kernel
theorem dX1_hasPair_2 : decode cX1_hasPair 2 = .ok (.invokevirtual 31, 3) := by decide +kernel
theorem dX1_hasPair_5 : decode cX1_hasPair 5 = .ok (.ifCond .eq 20, 3) := by decide +kernel
theorem dX1_hasPair_8 : decode cX1_hasPair 8 = .ok (.aload_n 0, 1) := by decide +kernel
theorem dX1_hasPair_9 : decode cX1_hasPair 9 = .ok (.iload_n 2, 1) := by decide +kernel
theorem dX1_hasPair_10 : decode cX1_hasPair 10 = .ok (.invokevirtual 31, 3) := by decide +kernel
theorem dX1_hasPair_13 : decode cX1_hasPair 13 = .ok (.ifCond .eq 12, 3) := by decide +kernel
theorem dX1_hasPair_16 : decode cX1_hasPair 16 = .ok (.iload_n 1, 1) := by decide +kernel
theorem dX1_hasPair_17 : decode cX1_hasPair 17 = .ok (.iload_n 2, 1) := by decide +kernel
theorem dX1_hasPair_18 : decode cX1_hasPair 18 = .ok (.if_icmp .ge 7, 3) := by decide +kernel
theorem dX1_hasPair_21 : decode cX1_hasPair 21 = .ok (.iconst 1, 1) := by decide +kernel
theorem dX1_hasPair_22 : decode cX1_hasPair 22 = .ok (.goto 4, 3) := by decide +kernel
theorem dX1_hasPair_25 : decode cX1_hasPair 25 = .ok (.iconst 0, 1) := by decide +kernel
theorem dX1_hasPair_26 : decode cX1_hasPair 26 = .ok (.ireturn, 1) := by decide +kernel
theorem dX1_hasAll_0 : decode cX1_hasAll 0 = .ok (.iload_n 1, 1) := by decide +kernel
theorem dX1_hasAll_1 : decode cX1_hasAll 1 = .ok (.iconst 1, 1) := by decide +kernel
theorem dX1_hasAll_2 : decode cX1_hasAll 2 = .ok (.aload_n 0, 1) := by decide +kernel
theorem dX1_hasAll_3 : decode cX1_hasAll 3 = .ok (.getfield 18, 3) := by decide +kernel
theorem dX1_hasAll_6 : decode cX1_hasAll 6 = .ok (.ishl, 1) := by decide +kernel
theorem dX1_hasAll_7 : decode cX1_hasAll 7 = .ok (.if_icmp .ge 7, 3) := by decide +kernel
theorem dX1_hasAll_10 : decode cX1_hasAll 10 = .ok (.iconst 1, 1) := by decide +kernel
theorem dX1_hasAll_11 : decode cX1_hasAll 11 = .ok (.goto 4, 3) := by decide +kernel
theorem dX1_hasAll_14 : decode cX1_hasAll 14 = .ok (.iconst 0, 1) := by decide +kernel
theorem dX1_hasAll_15 : decode cX1_hasAll 15 = .ok (.ireturn, 1) := by decide +kernel
theorem dX1_isFactorPair_0 : decode cX1_isFactorPair 0 = .ok (.iload_n 1, 1) := by decide +kernel
theorem dX1_isFactorPair_1 : decode cX1_isFactorPair 1 = .ok (.aload_n 0, 1) := by decide +kernel
theorem dX1_isFactorPair_2 : decode cX1_isFactorPair 2 = .ok (.getfield 22, 3) := by decide +kernel
theorem dX1_isFactorPair_5 : decode cX1_isFactorPair 5 = .ok (.ineg, 1) := by decide +kernel
theorem dX1_isFactorPair_6 : decode cX1_isFactorPair 6 = .ok (.if_icmp .lt 40, 3) := by decide +kernel
theorem dX1_isFactorPair_9 : decode cX1_isFactorPair 9 = .ok (.iload_n 1, 1) := by decide +kernel
theorem dX1_isFactorPair_10 : decode cX1_isFactorPair 10 = .ok (.aload_n 0, 1) := by decide +kernel
theorem dX1_isFactorPair_11 : decode cX1_isFactorPair 11 = .ok (.getfield 22, 3) := by decide +kernel
theorem dX1_isFactorPair_14 : decode cX1_isFactorPair 14 = .ok (.if_icmp .gt 32, 3) := by decide +kernel
theorem dX1_isFactorPair_17 : decode cX1_isFactorPair 17 = .ok (.iload_n 2, 1) := by decide +kernel
theorem dX1_isFactorPair_18 : decode cX1_isFactorPair 18 = .ok (.aload_n 0, 1) := by decide +kernel
theorem dX1_isFactorPair_19 : decode cX1_isFactorPair 19 = .ok (.getfield 22, 3) := by decide +kernel
theorem dX1_isFactorPair_22 : decode cX1_isFactorPair 22 = .ok (.ineg, 1) := by decide +kernel
theorem dX1_isFactorPair_23 : decode cX1_isFactorPair 23 = .ok (.if_icmp .lt 23, 3) := by decide +kernel
theorem dX1_isFactorPair_26 : decode cX1_isFactorPair 26 = .ok (.iload_n 2, 1) := by decide +kernel
theorem dX1_isFactorPair_27 : decode cX1_isFactorPair 27 = .ok (.aload_n 0, 1) := by decide +kernel
theorem dX1_isFactorPair_28 : decode cX1_isFactorPair 28 = .ok (.getfield 22, 3) := by decide +kernel
theorem dX1_isFactorPair_31 : decode cX1_isFactorPair 31 = .ok (.if_icmp .gt 15, 3) := by decide +kernel
theorem dX1_isFactorPair_34 : decode cX1_isFactorPair 34 = .ok (.iload_n 1, 1) := by decide +kernel
theorem dX1_isFactorPair_35 : decode cX1_isFactorPair 35 = .ok (.ifCond .ne 7, 3) := by decide +kernel
theorem dX1_isFactorPair_38 : decode cX1_isFactorPair 38 = .ok (.iload_n 2, 1) := by decide +kernel
theorem dX1_isFactorPair_39 : decode cX1_isFactorPair 39 = .ok (.ifCond .eq 7, 3) := by decide +kernel
theorem dX1_isFactorPair_42 : decode cX1_isFactorPair 42 = .ok (.iconst 1, 1) := by decide +kernel
theorem dX1_isFactorPair_43 : decode cX1_isFactorPair 43 = .ok (.goto 4, 3) := by decide +kernel
theorem dX1_isFactorPair_46 : decode cX1_isFactorPair 46 = .ok (.iconst 0, 1) := by decide +kernel
theorem dX1_isFactorPair_47 : decode cX1_isFactorPair 47 = .ok (.ireturn, 1) := by decide +kernel
theorem dX1_pOf_0 : decode cX1_pOf 0 = .ok (.aload_n 0, 1) := by decide +kernel
theorem dX1_pOf_1 : decode cX1_pOf 1 = .ok (.iload_n 1, 1) := by decide +kernel
theorem dX1_pOf_2 : decode cX1_pOf 2 = .ok (.invokevirtual 31, 3) := by decide +kernel
theorem dX1_pOf_5 : decode cX1_pOf 5 = .ok (.ifCond .eq 12, 3) := by decide +kernel
theorem dX1_pOf_8 : decode cX1_pOf 8 = .ok (.aload_n 0, 1) := by decide +kernel
theorem dX1_pOf_9 : decode cX1_pOf 9 = .ok (.getfield 9, 3) := by decide +kernel
theorem dX1_pOf_12 : decode cX1_pOf 12 = .ok (.iload_n 1, 1) := by decide +kernel
theorem dX1_pOf_13 : decode cX1_pOf 13 = .ok (.iaload, 1) := by decide +kernel
theorem dX1_pOf_14 : decode cX1_pOf 14 = .ok (.goto 4, 3) := by decide +kernel
theorem dX1_pOf_17 : decode cX1_pOf 17 = .ok (.iconst 0, 1) := by decide +kernel
theorem dX1_pOf_18 : decode cX1_pOf 18 = .ok (.ireturn, 1) := by decide +kernel
theorem dX1_qOf_0 : decode cX1_qOf 0 = .ok (.aload_n 0, 1) := by decide +kernel
theorem dX1_qOf_1 : decode cX1_qOf 1 = .ok (.iload_n 1, 1) := by decide +kernel
theorem dX1_qOf_2 : decode cX1_qOf 2 = .ok (.invokevirtual 31, 3) := by decide +kernel
theorem dX1_qOf_5 : decode cX1_qOf 5 = .ok (.ifCond .eq 12, 3) := by decide +kernel
theorem dX1_qOf_8 : decode cX1_qOf 8 = .ok (.aload_n 0, 1) := by decide +kernel
theorem dX1_qOf_9 : decode cX1_qOf 9 = .ok (.getfield 15, 3) := by decide +kernel
theorem dX1_qOf_12 : decode cX1_qOf 12 = .ok (.iload_n 1, 1) := by decide +kernel
theorem dX1_qOf_13 : decode cX1_qOf 13 = .ok (.iaload, 1) := by decide +kernel
theorem dX1_qOf_14 : decode cX1_qOf 14 = .ok (.goto 4, 3) := by decide +kernel
theorem dX1_qOf_17 : decode cX1_qOf 17 = .ok (.iconst 0, 1) := by decide +kernel
theorem dX1_qOf_18 : decode cX1_qOf 18 = .ok (.ireturn, 1) := by decide +kernel
theorem dX1_areaOf_0 : decode cX1_areaOf 0 = .ok (.aload_n 0, 1) := by decide +kernel
theorem dX1_areaOf_1 : decode cX1_areaOf 1 = .ok (.iload_n 1, 1) := by decide +kernel
theorem dX1_areaOf_2 : decode cX1_areaOf 2 = .ok (.invokevirtual 31, 3) := by decide +kernel
theorem dX1_areaOf_5 : decode cX1_areaOf 5 = .ok (.ifCond .eq 33, 3) := by decide +kernel
theorem dX1_areaOf_8 : decode cX1_areaOf 8 = .ok (.aload_n 0, 1) := by decide +kernel
theorem dX1_areaOf_9 : decode cX1_areaOf 9 = .ok (.getfield 9, 3) := by decide +kernel
theorem dX1_areaOf_12 : decode cX1_areaOf 12 = .ok (.iload_n 1, 1) := by decide +kernel
theorem dX1_areaOf_13 : decode cX1_areaOf 13 = .ok (.iaload, 1) := by decide +kernel
theorem dX1_areaOf_14 : decode cX1_areaOf 14 = .ok (.aload_n 0, 1) := by decide +kernel
theorem dX1_areaOf_15 : decode cX1_areaOf 15 = .ok (.getfield 9, 3) := by decide +kernel
theorem dX1_areaOf_18 : decode cX1_areaOf 18 = .ok (.iload_n 1, 1) := by decide +kernel
theorem dX1_areaOf_19 : decode cX1_areaOf 19 = .ok (.iaload, 1) := by decide +kernel
theorem dX1_areaOf_20 : decode cX1_areaOf 20 = .ok (.imul, 1) := by decide +kernel
theorem dX1_areaOf_21 : decode cX1_areaOf 21 = .ok (.aload_n 0, 1) := by decide +kernel
theorem dX1_areaOf_22 : decode cX1_areaOf 22 = .ok (.getfield 15, 3) := by decide +kernel
theorem dX1_areaOf_25 : decode cX1_areaOf 25 = .ok (.iload_n 1, 1) := by decide +kernel
theorem dX1_areaOf_26 : decode cX1_areaOf 26 = .ok (.iaload, 1) := by decide +kernel
theorem dX1_areaOf_27 : decode cX1_areaOf 27 = .ok (.aload_n 0, 1) := by decide +kernel
theorem dX1_areaOf_28 : decode cX1_areaOf 28 = .ok (.getfield 15, 3) := by decide +kernel
theorem dX1_areaOf_31 : decode cX1_areaOf 31 = .ok (.iload_n 1, 1) := by decide +kernel
theorem dX1_areaOf_32 : decode cX1_areaOf 32 = .ok (.iaload, 1) := by decide +kernel
theorem dX1_areaOf_33 : decode cX1_areaOf 33 = .ok (.imul, 1) := by decide +kernel
theorem dX1_areaOf_34 : decode cX1_areaOf 34 = .ok (.iadd, 1) := by decide +kernel
theorem dX1_areaOf_35 : decode cX1_areaOf 35 = .ok (.goto 4, 3) := by decide +kernel
theorem dX1_areaOf_38 : decode cX1_areaOf 38 = .ok (.iconst 0, 1) := by decide +kernel
theorem dX1_areaOf_39 : decode cX1_areaOf 39 = .ok (.ireturn, 1) := by decide +kernel
theorem dX1_put_0 : decode cX1_put 0 = .ok (.aload_n 0, 1) := by decide +kernel
theorem dX1_put_1 : decode cX1_put 1 = .ok (.iload_n 1, 1) := by decide +kernel
theorem dX1_put_2 : decode cX1_put 2 = .ok (.invokevirtual 31, 3) := by decide +kernel
theorem dX1_put_5 : decode cX1_put 5 = .ok (.ifCond .eq 17, 3) := by decide +kernel
theorem dX1_put_8 : decode cX1_put 8 = .ok (.aload_n 0, 1) := by decide +kernel
theorem dX1_put_9 : decode cX1_put 9 = .ok (.getfield 9, 3) := by decide +kernel
theorem dX1_put_12 : decode cX1_put 12 = .ok (.iload_n 1, 1) := by decide +kernel
theorem dX1_put_13 : decode cX1_put 13 = .ok (.iload_n 2, 1) := by decide +kernel
theorem dX1_put_14 : decode cX1_put 14 = .ok (.iastore, 1) := by decide +kernel
theorem dX1_put_15 : decode cX1_put 15 = .ok (.aload_n 0, 1) := by decide +kernel
theorem dX1_put_16 : decode cX1_put 16 = .ok (.getfield 15, 3) := by decide +kernel
theorem dX1_put_19 : decode cX1_put 19 = .ok (.iload_n 1, 1) := by decide +kernel
theorem dX1_put_20 : decode cX1_put 20 = .ok (.iload_n 3, 1) := by decide +kernel
theorem dX1_put_21 : decode cX1_put 21 = .ok (.iastore, 1) := by decide +kernel
theorem dX1_put_22 : decode cX1_put 22 = .ok (.return_, 1) := by decide +kernel
theorem dX1_append_0 : decode cX1_append 0 = .ok (.aload_n 0, 1) := by decide +kernel
theorem dX1_append_1 : decode cX1_append 1 = .ok (.getfield 18, 3) := by decide +kernel
theorem dX1_append_4 : decode cX1_append 4 = .ok (.iconst 4, 1) := by decide +kernel
theorem dX1_append_5 : decode cX1_append 5 = .ok (.if_icmp .ge 25, 3) := by decide +kernel
theorem dX1_append_8 : decode cX1_append 8 = .ok (.aload_n 0, 1) := by decide +kernel
theorem dX1_append_9 : decode cX1_append 9 = .ok (.dup, 1) := by decide +kernel
theorem dX1_append_10 : decode cX1_append 10 = .ok (.getfield 18, 3) := by decide +kernel
theorem dX1_append_13 : decode cX1_append 13 = .ok (.iconst 1, 1) := by decide +kernel
theorem dX1_append_14 : decode cX1_append 14 = .ok (.iadd, 1) := by decide +kernel
theorem dX1_append_15 : decode cX1_append 15 = .ok (.putfield 18, 3) := by decide +kernel
theorem dX1_append_18 : decode cX1_append 18 = .ok (.aload_n 0, 1) := by decide +kernel
theorem dX1_append_19 : decode cX1_append 19 = .ok (.aload_n 0, 1) := by decide +kernel
theorem dX1_append_20 : decode cX1_append 20 = .ok (.getfield 18, 3) := by decide +kernel
theorem dX1_append_23 : decode cX1_append 23 = .ok (.iconst 1, 1) := by decide +kernel
theorem dX1_append_24 : decode cX1_append 24 = .ok (.isub, 1) := by decide +kernel
theorem dX1_append_25 : decode cX1_append 25 = .ok (.iload_n 1, 1) := by decide +kernel
theorem dX1_append_26 : decode cX1_append 26 = .ok (.iload_n 2, 1) := by decide +kernel
theorem dX1_append_27 : decode cX1_append 27 = .ok (.invokevirtual 35, 3) := by decide +kernel
theorem dX1_append_30 : decode cX1_append 30 = .ok (.return_, 1) := by decide +kernel
theorem dX1_drop_0 : decode cX1_drop 0 = .ok (.aload_n 0, 1) := by decide +kernel
theorem dX1_drop_1 : decode cX1_drop 1 = .ok (.iload_n 1, 1) := by decide +kernel
theorem dX1_drop_2 : decode cX1_drop 2 = .ok (.invokevirtual 31, 3) := by decide +kernel
theorem dX1_drop_5 : decode cX1_drop 5 = .ok (.ifCond .eq 50, 3) := by decide +kernel
theorem dX1_drop_8 : decode cX1_drop 8 = .ok (.iload_n 1, 1) := by decide +kernel
theorem dX1_drop_9 : decode cX1_drop 9 = .ok (.istore_n 2, 1) := by decide +kernel
theorem dX1_drop_10 : decode cX1_drop 10 = .ok (.iload_n 2, 1) := by decide +kernel
theorem dX1_drop_11 : decode cX1_drop 11 = .ok (.aload_n 0, 1) := by decide +kernel
theorem dX1_drop_12 : decode cX1_drop 12 = .ok (.getfield 18, 3) := by decide +kernel
theorem dX1_drop_15 : decode cX1_drop 15 = .ok (.iconst 1, 1) := by decide +kernel
theorem dX1_drop_16 : decode cX1_drop 16 = .ok (.isub, 1) := by decide +kernel
theorem dX1_drop_17 : decode cX1_drop 17 = .ok (.if_icmp .ge 28, 3) := by decide +kernel
theorem dX1_drop_20 : decode cX1_drop 20 = .ok (.aload_n 0, 1) := by decide +kernel
theorem dX1_drop_21 : decode cX1_drop 21 = .ok (.iload_n 2, 1) := by decide +kernel
theorem dX1_drop_22 : decode cX1_drop 22 = .ok (.aload_n 0, 1) := by decide +kernel
theorem dX1_drop_23 : decode cX1_drop 23 = .ok (.iload_n 2, 1) := by decide +kernel
theorem dX1_drop_24 : decode cX1_drop 24 = .ok (.iconst 1, 1) := by decide +kernel
theorem dX1_drop_25 : decode cX1_drop 25 = .ok (.iadd, 1) := by decide +kernel
theorem dX1_drop_26 : decode cX1_drop 26 = .ok (.invokevirtual 39, 3) := by decide +kernel
theorem dX1_drop_29 : decode cX1_drop 29 = .ok (.aload_n 0, 1) := by decide +kernel
theorem dX1_drop_30 : decode cX1_drop 30 = .ok (.iload_n 2, 1) := by decide +kernel
theorem dX1_drop_31 : decode cX1_drop 31 = .ok (.iconst 1, 1) := by decide +kernel
theorem dX1_drop_32 : decode cX1_drop 32 = .ok (.iadd, 1) := by decide +kernel
theorem dX1_drop_33 : decode cX1_drop 33 = .ok (.invokevirtual 43, 3) := by decide +kernel
theorem dX1_drop_36 : decode cX1_drop 36 = .ok (.invokevirtual 35, 3) := by decide +kernel
theorem dX1_drop_39 : decode cX1_drop 39 = .ok (.iinc 2 1, 3) := by decide +kernel
theorem dX1_drop_42 : decode cX1_drop 42 = .ok (.goto (-32), 3) := by decide +kernel
theorem dX1_drop_45 : decode cX1_drop 45 = .ok (.aload_n 0, 1) := by decide +kernel
theorem dX1_drop_46 : decode cX1_drop 46 = .ok (.dup, 1) := by decide +kernel
theorem dX1_drop_47 : decode cX1_drop 47 = .ok (.getfield 18, 3) := by decide +kernel
theorem dX1_drop_50 : decode cX1_drop 50 = .ok (.iconst 1, 1) := by decide +kernel
theorem dX1_drop_51 : decode cX1_drop 51 = .ok (.isub, 1) := by decide +kernel
theorem dX1_drop_52 : decode cX1_drop 52 = .ok (.putfield 18, 3) := by decide +kernel
theorem dX1_drop_55 : decode cX1_drop 55 = .ok (.return_, 1) := by decide +kernel
theorem dX1_pairNorm_0 : decode cX1_pairNorm 0 = .ok (.aload_n 0, 1) := by decide +kernel
theorem dX1_pairNorm_1 : decode cX1_pairNorm 1 = .ok (.iload_n 2, 1) := by decide +kernel
theorem dX1_pairNorm_2 : decode cX1_pairNorm 2 = .ok (.invokevirtual 39, 3) := by decide +kernel
theorem dX1_pairNorm_5 : decode cX1_pairNorm 5 = .ok (.aload_n 0, 1) := by decide +kernel
theorem dX1_pairNorm_6 : decode cX1_pairNorm 6 = .ok (.iload_n 2, 1) := by decide +kernel
theorem dX1_pairNorm_7 : decode cX1_pairNorm 7 = .ok (.invokevirtual 43, 3) := by decide +kernel
theorem dX1_pairNorm_10 : decode cX1_pairNorm 10 = .ok (.iload_n 3, 1) := by decide +kernel
theorem dX1_pairNorm_11 : decode cX1_pairNorm 11 = .ok (.iload 4, 2) := by decide +kernel
theorem dX1_pairNorm_13 : decode cX1_pairNorm 13 = .ok (.invokestatic 46, 3) := by decide +kernel
theorem dX1_pairNorm_16 : decode cX1_pairNorm 16 = .ok (.aload_n 0, 1) := by decide +kernel
theorem dX1_pairNorm_17 : decode cX1_pairNorm 17 = .ok (.iload_n 1, 1) := by decide +kernel
theorem dX1_pairNorm_18 : decode cX1_pairNorm 18 = .ok (.invokevirtual 39, 3) := by decide +kernel
theorem dX1_pairNorm_21 : decode cX1_pairNorm 21 = .ok (.aload_n 0, 1) := by decide +kernel
theorem dX1_pairNorm_22 : decode cX1_pairNorm 22 = .ok (.iload_n 1, 1) := by decide +kernel
theorem dX1_pairNorm_23 : decode cX1_pairNorm 23 = .ok (.invokevirtual 43, 3) := by decide +kernel
theorem dX1_pairNorm_26 : decode cX1_pairNorm 26 = .ok (.iload 5, 2) := by decide +kernel
theorem dX1_pairNorm_28 : decode cX1_pairNorm 28 = .ok (.iload 6, 2) := by decide +kernel
theorem dX1_pairNorm_30 : decode cX1_pairNorm 30 = .ok (.invokestatic 46, 3) := by decide +kernel
theorem dX1_pairNorm_33 : decode cX1_pairNorm 33 = .ok (.isub, 1) := by decide +kernel
theorem dX1_pairNorm_34 : decode cX1_pairNorm 34 = .ok (.istore 7, 2) := by decide +kernel
theorem dX1_pairNorm_36 : decode cX1_pairNorm 36 = .ok (.aload_n 0, 1) := by decide +kernel
theorem dX1_pairNorm_37 : decode cX1_pairNorm 37 = .ok (.iload_n 2, 1) := by decide +kernel
theorem dX1_pairNorm_38 : decode cX1_pairNorm 38 = .ok (.invokevirtual 39, 3) := by decide +kernel
theorem dX1_pairNorm_41 : decode cX1_pairNorm 41 = .ok (.aload_n 0, 1) := by decide +kernel
theorem dX1_pairNorm_42 : decode cX1_pairNorm 42 = .ok (.iload_n 2, 1) := by decide +kernel
theorem dX1_pairNorm_43 : decode cX1_pairNorm 43 = .ok (.invokevirtual 43, 3) := by decide +kernel
theorem dX1_pairNorm_46 : decode cX1_pairNorm 46 = .ok (.iload_n 3, 1) := by decide +kernel
theorem dX1_pairNorm_47 : decode cX1_pairNorm 47 = .ok (.iload 4, 2) := by decide +kernel
theorem dX1_pairNorm_49 : decode cX1_pairNorm 49 = .ok (.invokestatic 50, 3) := by decide +kernel
theorem dX1_pairNorm_52 : decode cX1_pairNorm 52 = .ok (.aload_n 0, 1) := by decide +kernel
theorem dX1_pairNorm_53 : decode cX1_pairNorm 53 = .ok (.iload_n 1, 1) := by decide +kernel
theorem dX1_pairNorm_54 : decode cX1_pairNorm 54 = .ok (.invokevirtual 39, 3) := by decide +kernel
theorem dX1_pairNorm_57 : decode cX1_pairNorm 57 = .ok (.aload_n 0, 1) := by decide +kernel
theorem dX1_pairNorm_58 : decode cX1_pairNorm 58 = .ok (.iload_n 1, 1) := by decide +kernel
theorem dX1_pairNorm_59 : decode cX1_pairNorm 59 = .ok (.invokevirtual 43, 3) := by decide +kernel
theorem dX1_pairNorm_62 : decode cX1_pairNorm 62 = .ok (.iload 5, 2) := by decide +kernel
theorem dX1_pairNorm_64 : decode cX1_pairNorm 64 = .ok (.iload 6, 2) := by decide +kernel
theorem dX1_pairNorm_66 : decode cX1_pairNorm 66 = .ok (.invokestatic 50, 3) := by decide +kernel
theorem dX1_pairNorm_69 : decode cX1_pairNorm 69 = .ok (.isub, 1) := by decide +kernel
theorem dX1_pairNorm_70 : decode cX1_pairNorm 70 = .ok (.istore 8, 2) := by decide +kernel
theorem dX1_pairNorm_72 : decode cX1_pairNorm 72 = .ok (.iload 7, 2) := by decide +kernel
theorem dX1_pairNorm_74 : decode cX1_pairNorm 74 = .ok (.iload 7, 2) := by decide +kernel
theorem dX1_pairNorm_76 : decode cX1_pairNorm 76 = .ok (.imul, 1) := by decide +kernel
theorem dX1_pairNorm_77 : decode cX1_pairNorm 77 = .ok (.iload 8, 2) := by decide +kernel
theorem dX1_pairNorm_79 : decode cX1_pairNorm 79 = .ok (.iload 8, 2) := by decide +kernel
theorem dX1_pairNorm_81 : decode cX1_pairNorm 81 = .ok (.imul, 1) := by decide +kernel
theorem dX1_pairNorm_82 : decode cX1_pairNorm 82 = .ok (.iadd, 1) := by decide +kernel
theorem dX1_pairNorm_83 : decode cX1_pairNorm 83 = .ok (.ireturn, 1) := by decide +kernel
theorem dJ9_abs_0f7a4_0 : decode cJ9_abs_0f7a4 0 = .ok (.iload_n 0, 1) := by decide +kernel
theorem dJ9_abs_0f7a4_1 : decode cJ9_abs_0f7a4 1 = .ok (.ifCond .ge 8, 3) := by decide +kernel
theorem dJ9_abs_0f7a4_4 : decode cJ9_abs_0f7a4 4 = .ok (.iload_n 0, 1) := by decide +kernel
theorem dJ9_abs_0f7a4_5 : decode cJ9_abs_0f7a4 5 = .ok (.ineg, 1) := by decide +kernel
theorem dJ9_abs_0f7a4_6 : decode cJ9_abs_0f7a4 6 = .ok (.goto 4, 3) := by decide +kernel
theorem dJ9_abs_0f7a4_9 : decode cJ9_abs_0f7a4 9 = .ok (.iload_n 0, 1) := by decide +kernel
theorem dJ9_abs_0f7a4_10 : decode cJ9_abs_0f7a4 10 = .ok (.ireturn, 1) := by decide +kernel
theorem dX2_init_0 : decode cX2_init 0 = .ok (.aload_n 0, 1) := by decide +kernel
theorem dX2_init_1 : decode cX2_init 1 = .ok (.invokespecial 1, 3) := by decide +kernel
theorem dX2_init_4 : decode cX2_init 4 = .ok (.aload_n 0, 1) := by decide +kernel
theorem dX2_init_5 : decode cX2_init 5 = .ok (.new 7, 3) := by decide +kernel
theorem dX2_init_8 : decode cX2_init 8 = .ok (.dup, 1) := by decide +kernel
theorem dX2_init_9 : decode cX2_init 9 = .ok (.invokespecial 9, 3) := by decide +kernel
theorem dX2_init_12 : decode cX2_init 12 = .ok (.putfield 10, 3) := by decide +kernel
theorem dX2_init_15 : decode cX2_init 15 = .ok (.aload_n 0, 1) := by decide +kernel
theorem dX2_init_16 : decode cX2_init 16 = .ok (.new 7, 3) := by decide +kernel
theorem dX2_init_19 : decode cX2_init 19 = .ok (.dup, 1) := by decide +kernel
theorem dX2_init_20 : decode cX2_init 20 = .ok (.invokespecial 9, 3) := by decide +kernel
theorem dX2_init_23 : decode cX2_init 23 = .ok (.putfield 16, 3) := by decide +kernel
theorem dX2_init_26 : decode cX2_init 26 = .ok (.aload_n 0, 1) := by decide +kernel
theorem dX2_init_27 : decode cX2_init 27 = .ok (.iconst 5, 1) := by decide +kernel
theorem dX2_init_28 : decode cX2_init 28 = .ok (.anewarray 7, 3) := by decide +kernel
theorem dX2_init_31 : decode cX2_init 31 = .ok (.putfield 19, 3) := by decide +kernel
theorem dX2_init_34 : decode cX2_init 34 = .ok (.aload_n 0, 1) := by decide +kernel
theorem dX2_init_35 : decode cX2_init 35 = .ok (.iconst 2, 1) := by decide +kernel
theorem dX2_init_36 : decode cX2_init 36 = .ok (.anewarray 7, 3) := by decide +kernel
theorem dX2_init_39 : decode cX2_init 39 = .ok (.putfield 23, 3) := by decide +kernel
theorem dX2_init_42 : decode cX2_init 42 = .ok (.aload_n 0, 1) := by decide +kernel
theorem dX2_init_43 : decode cX2_init 43 = .ok (.iconst 2, 1) := by decide +kernel
theorem dX2_init_44 : decode cX2_init 44 = .ok (.newarray .boolean, 2) := by decide +kernel
theorem dX2_init_46 : decode cX2_init 46 = .ok (.putfield 26, 3) := by decide +kernel
theorem dX2_init_49 : decode cX2_init 49 = .ok (.aload_n 0, 1) := by decide +kernel
theorem dX2_init_50 : decode cX2_init 50 = .ok (.new 30, 3) := by decide +kernel
theorem dX2_init_53 : decode cX2_init 53 = .ok (.dup, 1) := by decide +kernel
theorem dX2_init_54 : decode cX2_init 54 = .ok (.invokespecial 32, 3) := by decide +kernel
theorem dX2_init_57 : decode cX2_init 57 = .ok (.putfield 33, 3) := by decide +kernel
theorem dX2_init_60 : decode cX2_init 60 = .ok (.iconst 0, 1) := by decide +kernel
theorem dX2_init_61 : decode cX2_init 61 = .ok (.istore_n 1, 1) := by decide +kernel
theorem dX2_init_62 : decode cX2_init 62 = .ok (.iload_n 1, 1) := by decide +kernel
theorem dX2_init_63 : decode cX2_init 63 = .ok (.iconst 5, 1) := by decide +kernel
theorem dX2_init_64 : decode cX2_init 64 = .ok (.if_icmp .ge 22, 3) := by decide +kernel
theorem dX2_init_67 : decode cX2_init 67 = .ok (.aload_n 0, 1) := by decide +kernel
theorem dX2_init_68 : decode cX2_init 68 = .ok (.getfield 19, 3) := by decide +kernel
theorem dX2_init_71 : decode cX2_init 71 = .ok (.iload_n 1, 1) := by decide +kernel
theorem dX2_init_72 : decode cX2_init 72 = .ok (.new 7, 3) := by decide +kernel
theorem dX2_init_75 : decode cX2_init 75 = .ok (.dup, 1) := by decide +kernel
theorem dX2_init_76 : decode cX2_init 76 = .ok (.invokespecial 9, 3) := by decide +kernel
theorem dX2_init_79 : decode cX2_init 79 = .ok (.aastore, 1) := by decide +kernel
theorem dX2_init_80 : decode cX2_init 80 = .ok (.iinc 1 1, 3) := by decide +kernel
theorem dX2_init_83 : decode cX2_init 83 = .ok (.goto (-21), 3) := by decide +kernel
theorem dX2_init_86 : decode cX2_init 86 = .ok (.iconst 0, 1) := by decide +kernel
theorem dX2_init_87 : decode cX2_init 87 = .ok (.istore_n 1, 1) := by decide +kernel
theorem dX2_init_88 : decode cX2_init 88 = .ok (.iload_n 1, 1) := by decide +kernel
theorem dX2_init_89 : decode cX2_init 89 = .ok (.iconst 2, 1) := by decide +kernel
theorem dX2_init_90 : decode cX2_init 90 = .ok (.if_icmp .ge 22, 3) := by decide +kernel
theorem dX2_init_93 : decode cX2_init 93 = .ok (.aload_n 0, 1) := by decide +kernel
theorem dX2_init_94 : decode cX2_init 94 = .ok (.getfield 23, 3) := by decide +kernel
theorem dX2_init_97 : decode cX2_init 97 = .ok (.iload_n 1, 1) := by decide +kernel
theorem dX2_init_98 : decode cX2_init 98 = .ok (.new 7, 3) := by decide +kernel
theorem dX2_init_101 : decode cX2_init 101 = .ok (.dup, 1) := by decide +kernel
theorem dX2_init_102 : decode cX2_init 102 = .ok (.invokespecial 9, 3) := by decide +kernel
theorem dX2_init_105 : decode cX2_init 105 = .ok (.aastore, 1) := by decide +kernel
theorem dX2_init_106 : decode cX2_init 106 = .ok (.iinc 1 1, 3) := by decide +kernel
theorem dX2_init_109 : decode cX2_init 109 = .ok (.goto (-21), 3) := by decide +kernel
theorem dX2_init_112 : decode cX2_init 112 = .ok (.return_, 1) := by decide +kernel
theorem dX2_addPlate_0 : decode cX2_addPlate 0 = .ok (.iload_n 1, 1) := by decide +kernel
theorem dX2_addPlate_1 : decode cX2_addPlate 1 = .ok (.iload_n 2, 1) := by decide +kernel
theorem dX2_addPlate_2 : decode cX2_addPlate 2 = .ok (.invokestatic 37, 3) := by decide +kernel
theorem dX2_addPlate_5 : decode cX2_addPlate 5 = .ok (.ifCond .ne 5, 3) := by decide +kernel
theorem dX2_addPlate_8 : decode cX2_addPlate 8 = .ok (.iconst (-1), 1) := by decide +kernel
theorem dX2_addPlate_9 : decode cX2_addPlate 9 = .ok (.ireturn, 1) := by decide +kernel
theorem dX2_addPlate_10 : decode cX2_addPlate 10 = .ok (.aload_n 0, 1) := by decide +kernel
theorem dX2_addPlate_11 : decode cX2_addPlate 11 = .ok (.getfield 10, 3) := by decide +kernel
theorem dX2_addPlate_14 : decode cX2_addPlate 14 = .ok (.getfield 41, 3) := by decide +kernel
theorem dX2_addPlate_17 : decode cX2_addPlate 17 = .ok (.iconst 4, 1) := by decide +kernel
theorem dX2_addPlate_18 : decode cX2_addPlate 18 = .ok (.if_icmp .lt 6, 3) := by decide +kernel
theorem dX2_addPlate_21 : decode cX2_addPlate 21 = .ok (.bipush (-3), 2) := by decide +kernel
theorem dX2_addPlate_23 : decode cX2_addPlate 23 = .ok (.ireturn, 1) := by decide +kernel
theorem dX2_addPlate_24 : decode cX2_addPlate 24 = .ok (.aload_n 0, 1) := by decide +kernel
theorem dX2_addPlate_25 : decode cX2_addPlate 25 = .ok (.invokevirtual 45, 3) := by decide +kernel
theorem dX2_addPlate_28 : decode cX2_addPlate 28 = .ok (.aload_n 0, 1) := by decide +kernel
theorem dX2_addPlate_29 : decode cX2_addPlate 29 = .ok (.getfield 10, 3) := by decide +kernel
theorem dX2_addPlate_32 : decode cX2_addPlate 32 = .ok (.iload_n 1, 1) := by decide +kernel
theorem dX2_addPlate_33 : decode cX2_addPlate 33 = .ok (.iload_n 2, 1) := by decide +kernel
theorem dX2_addPlate_34 : decode cX2_addPlate 34 = .ok (.invokevirtual 48, 3) := by decide +kernel
theorem dX2_addPlate_37 : decode cX2_addPlate 37 = .ok (.aload_n 0, 1) := by decide +kernel
theorem dX2_addPlate_38 : decode cX2_addPlate 38 = .ok (.getfield 10, 3) := by decide +kernel
theorem dX2_addPlate_41 : decode cX2_addPlate 41 = .ok (.getfield 41, 3) := by decide +kernel
theorem dX2_addPlate_44 : decode cX2_addPlate 44 = .ok (.iconst 1, 1) := by decide +kernel
theorem dX2_addPlate_45 : decode cX2_addPlate 45 = .ok (.isub, 1) := by decide +kernel
theorem dX2_addPlate_46 : decode cX2_addPlate 46 = .ok (.ireturn, 1) := by decide +kernel
theorem dX2_setScreen_0 : decode cX2_setScreen 0 = .ok (.aload_n 0, 1) := by decide +kernel
theorem dX2_setScreen_1 : decode cX2_setScreen 1 = .ok (.getfield 10, 3) := by decide +kernel
theorem dX2_setScreen_4 : decode cX2_setScreen 4 = .ok (.iload_n 1, 1) := by decide +kernel
theorem dX2_setScreen_5 : decode cX2_setScreen 5 = .ok (.invokevirtual 52, 3) := by decide +kernel
theorem dX2_setScreen_8 : decode cX2_setScreen 8 = .ok (.ifCond .eq 11, 3) := by decide +kernel
theorem dX2_setScreen_11 : decode cX2_setScreen 11 = .ok (.iload_n 2, 1) := by decide +kernel
theorem dX2_setScreen_12 : decode cX2_setScreen 12 = .ok (.iload_n 3, 1) := by decide +kernel
theorem dX2_setScreen_13 : decode cX2_setScreen 13 = .ok (.invokestatic 37, 3) := by decide +kernel
theorem dX2_setScreen_16 : decode cX2_setScreen 16 = .ok (.ifCond .ne 5, 3) := by decide +kernel
theorem dX2_setScreen_19 : decode cX2_setScreen 19 = .ok (.iconst (-1), 1) := by decide +kernel
theorem dX2_setScreen_20 : decode cX2_setScreen 20 = .ok (.ireturn, 1) := by decide +kernel
theorem dX2_setScreen_21 : decode cX2_setScreen 21 = .ok (.aload_n 0, 1) := by decide +kernel
theorem dX2_setScreen_22 : decode cX2_setScreen 22 = .ok (.invokevirtual 45, 3) := by decide +kernel
theorem dX2_setScreen_25 : decode cX2_setScreen 25 = .ok (.aload_n 0, 1) := by decide +kernel
theorem dX2_setScreen_26 : decode cX2_setScreen 26 = .ok (.getfield 10, 3) := by decide +kernel
theorem dX2_setScreen_29 : decode cX2_setScreen 29 = .ok (.iload_n 1, 1) := by decide +kernel
theorem dX2_setScreen_30 : decode cX2_setScreen 30 = .ok (.invokevirtual 56, 3) := by decide +kernel
theorem dX2_setScreen_33 : decode cX2_setScreen 33 = .ok (.istore 4, 2) := by decide +kernel
theorem dX2_setScreen_35 : decode cX2_setScreen 35 = .ok (.aload_n 0, 1) := by decide +kernel
theorem dX2_setScreen_36 : decode cX2_setScreen 36 = .ok (.getfield 10, 3) := by decide +kernel
theorem dX2_setScreen_39 : decode cX2_setScreen 39 = .ok (.iload_n 1, 1) := by decide +kernel
theorem dX2_setScreen_40 : decode cX2_setScreen 40 = .ok (.iload_n 2, 1) := by decide +kernel
theorem dX2_setScreen_41 : decode cX2_setScreen 41 = .ok (.iload_n 3, 1) := by decide +kernel
theorem dX2_setScreen_42 : decode cX2_setScreen 42 = .ok (.invokevirtual 60, 3) := by decide +kernel
theorem dX2_setScreen_45 : decode cX2_setScreen 45 = .ok (.iload 4, 2) := by decide +kernel
theorem dX2_setScreen_47 : decode cX2_setScreen 47 = .ok (.ireturn, 1) := by decide +kernel
theorem dX2_removePlate_0 : decode cX2_removePlate 0 = .ok (.aload_n 0, 1) := by decide +kernel
theorem dX2_removePlate_1 : decode cX2_removePlate 1 = .ok (.getfield 10, 3) := by decide +kernel
theorem dX2_removePlate_4 : decode cX2_removePlate 4 = .ok (.iload_n 1, 1) := by decide +kernel
theorem dX2_removePlate_5 : decode cX2_removePlate 5 = .ok (.invokevirtual 52, 3) := by decide +kernel
theorem dX2_removePlate_8 : decode cX2_removePlate 8 = .ok (.ifCond .ne 5, 3) := by decide +kernel
theorem dX2_removePlate_11 : decode cX2_removePlate 11 = .ok (.iconst (-1), 1) := by decide +kernel
theorem dX2_removePlate_12 : decode cX2_removePlate 12 = .ok (.ireturn, 1) := by decide +kernel
theorem dX2_removePlate_13 : decode cX2_removePlate 13 = .ok (.aload_n 0, 1) := by decide +kernel
theorem dX2_removePlate_14 : decode cX2_removePlate 14 = .ok (.invokevirtual 45, 3) := by decide +kernel
theorem dX2_removePlate_17 : decode cX2_removePlate 17 = .ok (.aload_n 0, 1) := by decide +kernel
theorem dX2_removePlate_18 : decode cX2_removePlate 18 = .ok (.getfield 10, 3) := by decide +kernel
theorem dX2_removePlate_21 : decode cX2_removePlate 21 = .ok (.iload_n 1, 1) := by decide +kernel
theorem dX2_removePlate_22 : decode cX2_removePlate 22 = .ok (.invokevirtual 64, 3) := by decide +kernel
theorem dX2_removePlate_25 : decode cX2_removePlate 25 = .ok (.aload_n 0, 1) := by decide +kernel
theorem dX2_removePlate_26 : decode cX2_removePlate 26 = .ok (.getfield 10, 3) := by decide +kernel
theorem dX2_removePlate_29 : decode cX2_removePlate 29 = .ok (.getfield 41, 3) := by decide +kernel
theorem dX2_removePlate_32 : decode cX2_removePlate 32 = .ok (.ireturn, 1) := by decide +kernel
theorem dX2_plateCount_0 : decode cX2_plateCount 0 = .ok (.aload_n 0, 1) := by decide +kernel
theorem dX2_plateCount_1 : decode cX2_plateCount 1 = .ok (.getfield 10, 3) := by decide +kernel
theorem dX2_plateCount_4 : decode cX2_plateCount 4 = .ok (.getfield 41, 3) := by decide +kernel
theorem dX2_plateCount_7 : decode cX2_plateCount 7 = .ok (.ireturn, 1) := by decide +kernel
theorem dX2_cellP_0 : decode cX2_cellP 0 = .ok (.aload_n 0, 1) := by decide +kernel
theorem dX2_cellP_1 : decode cX2_cellP 1 = .ok (.getfield 10, 3) := by decide +kernel
theorem dX2_cellP_4 : decode cX2_cellP 4 = .ok (.iload_n 1, 1) := by decide +kernel
theorem dX2_cellP_5 : decode cX2_cellP 5 = .ok (.invokevirtual 52, 3) := by decide +kernel
theorem dX2_cellP_8 : decode cX2_cellP 8 = .ok (.ifCond .eq 14, 3) := by decide +kernel
theorem dX2_cellP_11 : decode cX2_cellP 11 = .ok (.aload_n 0, 1) := by decide +kernel
theorem dX2_cellP_12 : decode cX2_cellP 12 = .ok (.getfield 10, 3) := by decide +kernel
theorem dX2_cellP_15 : decode cX2_cellP 15 = .ok (.iload_n 1, 1) := by decide +kernel
theorem dX2_cellP_16 : decode cX2_cellP 16 = .ok (.invokevirtual 68, 3) := by decide +kernel
theorem dX2_cellP_19 : decode cX2_cellP 19 = .ok (.goto 4, 3) := by decide +kernel
theorem dX2_cellP_22 : decode cX2_cellP 22 = .ok (.iconst (-1), 1) := by decide +kernel
theorem dX2_cellP_23 : decode cX2_cellP 23 = .ok (.ireturn, 1) := by decide +kernel
theorem dX2_cellQ_0 : decode cX2_cellQ 0 = .ok (.aload_n 0, 1) := by decide +kernel
theorem dX2_cellQ_1 : decode cX2_cellQ 1 = .ok (.getfield 10, 3) := by decide +kernel
theorem dX2_cellQ_4 : decode cX2_cellQ 4 = .ok (.iload_n 1, 1) := by decide +kernel
theorem dX2_cellQ_5 : decode cX2_cellQ 5 = .ok (.invokevirtual 52, 3) := by decide +kernel
theorem dX2_cellQ_8 : decode cX2_cellQ 8 = .ok (.ifCond .eq 14, 3) := by decide +kernel
theorem dX2_cellQ_11 : decode cX2_cellQ 11 = .ok (.aload_n 0, 1) := by decide +kernel
theorem dX2_cellQ_12 : decode cX2_cellQ 12 = .ok (.getfield 10, 3) := by decide +kernel
theorem dX2_cellQ_15 : decode cX2_cellQ 15 = .ok (.iload_n 1, 1) := by decide +kernel
theorem dX2_cellQ_16 : decode cX2_cellQ 16 = .ok (.invokevirtual 71, 3) := by decide +kernel
theorem dX2_cellQ_19 : decode cX2_cellQ 19 = .ok (.goto 4, 3) := by decide +kernel
theorem dX2_cellQ_22 : decode cX2_cellQ 22 = .ok (.iconst (-1), 1) := by decide +kernel
theorem dX2_cellQ_23 : decode cX2_cellQ 23 = .ok (.ireturn, 1) := by decide +kernel
theorem dX2_cellArea_0 : decode cX2_cellArea 0 = .ok (.aload_n 0, 1) := by decide +kernel
theorem dX2_cellArea_1 : decode cX2_cellArea 1 = .ok (.getfield 10, 3) := by decide +kernel
theorem dX2_cellArea_4 : decode cX2_cellArea 4 = .ok (.iload_n 1, 1) := by decide +kernel
theorem dX2_cellArea_5 : decode cX2_cellArea 5 = .ok (.invokevirtual 52, 3) := by decide +kernel
theorem dX2_cellArea_8 : decode cX2_cellArea 8 = .ok (.ifCond .eq 14, 3) := by decide +kernel
theorem dX2_cellArea_11 : decode cX2_cellArea 11 = .ok (.aload_n 0, 1) := by decide +kernel
theorem dX2_cellArea_12 : decode cX2_cellArea 12 = .ok (.getfield 10, 3) := by decide +kernel
theorem dX2_cellArea_15 : decode cX2_cellArea 15 = .ok (.iload_n 1, 1) := by decide +kernel
theorem dX2_cellArea_16 : decode cX2_cellArea 16 = .ok (.invokevirtual 56, 3) := by decide +kernel
theorem dX2_cellArea_19 : decode cX2_cellArea 19 = .ok (.goto 4, 3) := by decide +kernel
theorem dX2_cellArea_22 : decode cX2_cellArea 22 = .ok (.iconst (-1), 1) := by decide +kernel
theorem dX2_cellArea_23 : decode cX2_cellArea 23 = .ok (.ireturn, 1) := by decide +kernel
theorem dX2_tile_0 : decode cX2_tile 0 = .ok (.aload_n 0, 1) := by decide +kernel
theorem dX2_tile_1 : decode cX2_tile 1 = .ok (.getfield 10, 3) := by decide +kernel
theorem dX2_tile_4 : decode cX2_tile 4 = .ok (.iload_n 1, 1) := by decide +kernel
theorem dX2_tile_5 : decode cX2_tile 5 = .ok (.invokevirtual 52, 3) := by decide +kernel
theorem dX2_tile_8 : decode cX2_tile 8 = .ok (.ifCond .eq 12, 3) := by decide +kernel
theorem dX2_tile_11 : decode cX2_tile 11 = .ok (.aload_n 0, 1) := by decide +kernel
theorem dX2_tile_12 : decode cX2_tile 12 = .ok (.iload_n 1, 1) := by decide +kernel
theorem dX2_tile_13 : decode cX2_tile 13 = .ok (.invokevirtual 74, 3) := by decide +kernel
theorem dX2_tile_16 : decode cX2_tile 16 = .ok (.l2i, 1) := by decide +kernel
theorem dX2_tile_17 : decode cX2_tile 17 = .ok (.goto 4, 3) := by decide +kernel
theorem dX2_tile_20 : decode cX2_tile 20 = .ok (.iconst (-1), 1) := by decide +kernel
theorem dX2_tile_21 : decode cX2_tile 21 = .ok (.ireturn, 1) := by decide +kernel
theorem dX2_commonTile_0 : decode cX2_commonTile 0 = .ok (.lconst 1, 1) := by decide +kernel
theorem dX2_commonTile_1 : decode cX2_commonTile 1 = .ok (.lstore_n 1, 1) := by decide +kernel
theorem dX2_commonTile_2 : decode cX2_commonTile 2 = .ok (.iconst 0, 1) := by decide +kernel
theorem dX2_commonTile_3 : decode cX2_commonTile 3 = .ok (.istore_n 3, 1) := by decide +kernel
theorem dX2_commonTile_4 : decode cX2_commonTile 4 = .ok (.iload_n 3, 1) := by decide +kernel
theorem dX2_commonTile_5 : decode cX2_commonTile 5 = .ok (.aload_n 0, 1) := by decide +kernel
theorem dX2_commonTile_6 : decode cX2_commonTile 6 = .ok (.getfield 10, 3) := by decide +kernel
theorem dX2_commonTile_9 : decode cX2_commonTile 9 = .ok (.getfield 41, 3) := by decide +kernel
theorem dX2_commonTile_12 : decode cX2_commonTile 12 = .ok (.if_icmp .ge 30, 3) := by decide +kernel
theorem dX2_commonTile_15 : decode cX2_commonTile 15 = .ok (.aload_n 0, 1) := by decide +kernel
theorem dX2_commonTile_16 : decode cX2_commonTile 16 = .ok (.iload_n 3, 1) := by decide +kernel
theorem dX2_commonTile_17 : decode cX2_commonTile 17 = .ok (.invokevirtual 74, 3) := by decide +kernel
theorem dX2_commonTile_20 : decode cX2_commonTile 20 = .ok (.lstore 4, 2) := by decide +kernel
theorem dX2_commonTile_22 : decode cX2_commonTile 22 = .ok (.lload_n 1, 1) := by decide +kernel
theorem dX2_commonTile_23 : decode cX2_commonTile 23 = .ok (.lload_n 1, 1) := by decide +kernel
theorem dX2_commonTile_24 : decode cX2_commonTile 24 = .ok (.lload 4, 2) := by decide +kernel
theorem dX2_commonTile_26 : decode cX2_commonTile 26 = .ok (.invokestatic 78, 3) := by decide +kernel
theorem dX2_commonTile_29 : decode cX2_commonTile 29 = .ok (.invokestatic 82, 3) := by decide +kernel
theorem dX2_commonTile_32 : decode cX2_commonTile 32 = .ok (.lload 4, 2) := by decide +kernel
theorem dX2_commonTile_34 : decode cX2_commonTile 34 = .ok (.lmul, 1) := by decide +kernel
theorem dX2_commonTile_35 : decode cX2_commonTile 35 = .ok (.lstore_n 1, 1) := by decide +kernel
theorem dX2_commonTile_36 : decode cX2_commonTile 36 = .ok (.iinc 3 1, 3) := by decide +kernel
theorem dX2_commonTile_39 : decode cX2_commonTile 39 = .ok (.goto (-35), 3) := by decide +kernel
theorem dX2_commonTile_42 : decode cX2_commonTile 42 = .ok (.lload_n 1, 1) := by decide +kernel
theorem dX2_commonTile_43 : decode cX2_commonTile 43 = .ok (.lreturn, 1) := by decide +kernel
theorem dX2_byAngle_0 : decode cX2_byAngle 0 = .ok (.iload_n 1, 1) := by decide +kernel
theorem dX2_byAngle_1 : decode cX2_byAngle 1 = .ok (.ifCond .ge 5, 3) := by decide +kernel
theorem dX2_byAngle_4 : decode cX2_byAngle 4 = .ok (.iconst (-1), 1) := by decide +kernel
theorem dX2_byAngle_5 : decode cX2_byAngle 5 = .ok (.ireturn, 1) := by decide +kernel
theorem dX2_byAngle_6 : decode cX2_byAngle 6 = .ok (.iconst 0, 1) := by decide +kernel
theorem dX2_byAngle_7 : decode cX2_byAngle 7 = .ok (.istore_n 2, 1) := by decide +kernel
theorem dX2_byAngle_8 : decode cX2_byAngle 8 = .ok (.iload_n 2, 1) := by decide +kernel
theorem dX2_byAngle_9 : decode cX2_byAngle 9 = .ok (.aload_n 0, 1) := by decide +kernel
theorem dX2_byAngle_10 : decode cX2_byAngle 10 = .ok (.getfield 10, 3) := by decide +kernel
theorem dX2_byAngle_13 : decode cX2_byAngle 13 = .ok (.getfield 41, 3) := by decide +kernel
theorem dX2_byAngle_16 : decode cX2_byAngle 16 = .ok (.if_icmp .ge 20, 3) := by decide +kernel
theorem dX2_byAngle_19 : decode cX2_byAngle 19 = .ok (.aload_n 0, 1) := by decide +kernel
theorem dX2_byAngle_20 : decode cX2_byAngle 20 = .ok (.iload_n 2, 1) := by decide +kernel
theorem dX2_byAngle_21 : decode cX2_byAngle 21 = .ok (.invokevirtual 85, 3) := by decide +kernel
theorem dX2_byAngle_24 : decode cX2_byAngle 24 = .ok (.iload_n 1, 1) := by decide +kernel
theorem dX2_byAngle_25 : decode cX2_byAngle 25 = .ok (.if_icmp .ne 5, 3) := by decide +kernel
theorem dX2_byAngle_28 : decode cX2_byAngle 28 = .ok (.iload_n 2, 1) := by decide +kernel
theorem dX2_byAngle_29 : decode cX2_byAngle 29 = .ok (.ireturn, 1) := by decide +kernel
theorem dX2_byAngle_30 : decode cX2_byAngle 30 = .ok (.iinc 2 1, 3) := by decide +kernel
theorem dX2_byAngle_33 : decode cX2_byAngle 33 = .ok (.goto (-25), 3) := by decide +kernel
theorem dX2_byAngle_36 : decode cX2_byAngle 36 = .ok (.bipush (-4), 2) := by decide +kernel
theorem dX2_byAngle_38 : decode cX2_byAngle 38 = .ok (.ireturn, 1) := by decide +kernel
theorem dX2_tileOf_0 : decode cX2_tileOf 0 = .ok (.aload_n 0, 1) := by decide +kernel
theorem dX2_tileOf_1 : decode cX2_tileOf 1 = .ok (.getfield 10, 3) := by decide +kernel
theorem dX2_tileOf_4 : decode cX2_tileOf 4 = .ok (.iload_n 1, 1) := by decide +kernel
theorem dX2_tileOf_5 : decode cX2_tileOf 5 = .ok (.invokevirtual 56, 3) := by decide +kernel
theorem dX2_tileOf_8 : decode cX2_tileOf 8 = .ok (.i2l, 1) := by decide +kernel
theorem dX2_tileOf_9 : decode cX2_tileOf 9 = .ok (.aload_n 0, 1) := by decide +kernel
theorem dX2_tileOf_10 : decode cX2_tileOf 10 = .ok (.getfield 10, 3) := by decide +kernel
theorem dX2_tileOf_13 : decode cX2_tileOf 13 = .ok (.iload_n 1, 1) := by decide +kernel
theorem dX2_tileOf_14 : decode cX2_tileOf 14 = .ok (.invokevirtual 68, 3) := by decide +kernel
theorem dX2_tileOf_17 : decode cX2_tileOf 17 = .ok (.i2l, 1) := by decide +kernel
theorem dX2_tileOf_18 : decode cX2_tileOf 18 = .ok (.aload_n 0, 1) := by decide +kernel
theorem dX2_tileOf_19 : decode cX2_tileOf 19 = .ok (.getfield 10, 3) := by decide +kernel
theorem dX2_tileOf_22 : decode cX2_tileOf 22 = .ok (.iload_n 1, 1) := by decide +kernel
theorem dX2_tileOf_23 : decode cX2_tileOf 23 = .ok (.invokevirtual 71, 3) := by decide +kernel
theorem dX2_tileOf_26 : decode cX2_tileOf 26 = .ok (.i2l, 1) := by decide +kernel
theorem dX2_tileOf_27 : decode cX2_tileOf 27 = .ok (.invokestatic 78, 3) := by decide +kernel
theorem dX2_tileOf_30 : decode cX2_tileOf 30 = .ok (.invokestatic 82, 3) := by decide +kernel
theorem dX2_tileOf_33 : decode cX2_tileOf 33 = .ok (.lreturn, 1) := by decide +kernel
theorem dX2_platesBefore_0 : decode cX2_platesBefore 0 = .ok (.iconst 0, 1) := by decide +kernel
theorem dX2_platesBefore_1 : decode cX2_platesBefore 1 = .ok (.istore_n 2, 1) := by decide +kernel
theorem dX2_platesBefore_2 : decode cX2_platesBefore 2 = .ok (.iconst 0, 1) := by decide +kernel
theorem dX2_platesBefore_3 : decode cX2_platesBefore 3 = .ok (.istore_n 3, 1) := by decide +kernel
theorem dX2_platesBefore_4 : decode cX2_platesBefore 4 = .ok (.iload_n 3, 1) := by decide +kernel
theorem dX2_platesBefore_5 : decode cX2_platesBefore 5 = .ok (.aload_n 0, 1) := by decide +kernel
theorem dX2_platesBefore_6 : decode cX2_platesBefore 6 = .ok (.getfield 10, 3) := by decide +kernel
theorem dX2_platesBefore_9 : decode cX2_platesBefore 9 = .ok (.getfield 41, 3) := by decide +kernel
theorem dX2_platesBefore_12 : decode cX2_platesBefore 12 = .ok (.if_icmp .ge 69, 3) := by decide +kernel
theorem dX2_platesBefore_15 : decode cX2_platesBefore 15 = .ok (.aload_n 0, 1) := by decide +kernel
theorem dX2_platesBefore_16 : decode cX2_platesBefore 16 = .ok (.getfield 10, 3) := by decide +kernel
theorem dX2_platesBefore_19 : decode cX2_platesBefore 19 = .ok (.iload_n 3, 1) := by decide +kernel
theorem dX2_platesBefore_20 : decode cX2_platesBefore 20 = .ok (.invokevirtual 71, 3) := by decide +kernel
theorem dX2_platesBefore_23 : decode cX2_platesBefore 23 = .ok (.aload_n 0, 1) := by decide +kernel
theorem dX2_platesBefore_24 : decode cX2_platesBefore 24 = .ok (.getfield 10, 3) := by decide +kernel
theorem dX2_platesBefore_27 : decode cX2_platesBefore 27 = .ok (.iload_n 1, 1) := by decide +kernel
theorem dX2_platesBefore_28 : decode cX2_platesBefore 28 = .ok (.invokevirtual 68, 3) := by decide +kernel
theorem dX2_platesBefore_31 : decode cX2_platesBefore 31 = .ok (.imul, 1) := by decide +kernel
theorem dX2_platesBefore_32 : decode cX2_platesBefore 32 = .ok (.istore 4, 2) := by decide +kernel
theorem dX2_platesBefore_34 : decode cX2_platesBefore 34 = .ok (.aload_n 0, 1) := by decide +kernel
theorem dX2_platesBefore_35 : decode cX2_platesBefore 35 = .ok (.getfield 10, 3) := by decide +kernel
theorem dX2_platesBefore_38 : decode cX2_platesBefore 38 = .ok (.iload_n 1, 1) := by decide +kernel
theorem dX2_platesBefore_39 : decode cX2_platesBefore 39 = .ok (.invokevirtual 71, 3) := by decide +kernel
theorem dX2_platesBefore_42 : decode cX2_platesBefore 42 = .ok (.aload_n 0, 1) := by decide +kernel
theorem dX2_platesBefore_43 : decode cX2_platesBefore 43 = .ok (.getfield 10, 3) := by decide +kernel
theorem dX2_platesBefore_46 : decode cX2_platesBefore 46 = .ok (.iload_n 3, 1) := by decide +kernel
theorem dX2_platesBefore_47 : decode cX2_platesBefore 47 = .ok (.invokevirtual 68, 3) := by decide +kernel
theorem dX2_platesBefore_50 : decode cX2_platesBefore 50 = .ok (.imul, 1) := by decide +kernel
theorem dX2_platesBefore_51 : decode cX2_platesBefore 51 = .ok (.istore 5, 2) := by decide +kernel
theorem dX2_platesBefore_53 : decode cX2_platesBefore 53 = .ok (.iload 4, 2) := by decide +kernel
theorem dX2_platesBefore_55 : decode cX2_platesBefore 55 = .ok (.iload 5, 2) := by decide +kernel
theorem dX2_platesBefore_57 : decode cX2_platesBefore 57 = .ok (.if_icmp .lt 15, 3) := by decide +kernel
theorem dX2_platesBefore_60 : decode cX2_platesBefore 60 = .ok (.iload 4, 2) := by decide +kernel
theorem dX2_platesBefore_62 : decode cX2_platesBefore 62 = .ok (.iload 5, 2) := by decide +kernel
theorem dX2_platesBefore_64 : decode cX2_platesBefore 64 = .ok (.if_icmp .ne 11, 3) := by decide +kernel
theorem dX2_platesBefore_67 : decode cX2_platesBefore 67 = .ok (.iload_n 3, 1) := by decide +kernel
theorem dX2_platesBefore_68 : decode cX2_platesBefore 68 = .ok (.iload_n 1, 1) := by decide +kernel
theorem dX2_platesBefore_69 : decode cX2_platesBefore 69 = .ok (.if_icmp .ge 6, 3) := by decide +kernel
theorem dX2_platesBefore_72 : decode cX2_platesBefore 72 = .ok (.iinc 2 1, 3) := by decide +kernel
theorem dX2_platesBefore_75 : decode cX2_platesBefore 75 = .ok (.iinc 3 1, 3) := by decide +kernel
theorem dX2_platesBefore_78 : decode cX2_platesBefore 78 = .ok (.goto (-74), 3) := by decide +kernel
theorem dX2_platesBefore_81 : decode cX2_platesBefore 81 = .ok (.iload_n 2, 1) := by decide +kernel
theorem dX2_platesBefore_82 : decode cX2_platesBefore 82 = .ok (.ireturn, 1) := by decide +kernel
theorem dX2_isScreen_0 : decode cX2_isScreen 0 = .ok (.iload_n 0, 1) := by decide +kernel
theorem dX2_isScreen_1 : decode cX2_isScreen 1 = .ok (.iconst 1, 1) := by decide +kernel
theorem dX2_isScreen_2 : decode cX2_isScreen 2 = .ok (.if_icmp .lt 23, 3) := by decide +kernel
theorem dX2_isScreen_5 : decode cX2_isScreen 5 = .ok (.iload_n 0, 1) := by decide +kernel
theorem dX2_isScreen_6 : decode cX2_isScreen 6 = .ok (.bipush 20, 2) := by decide +kernel
theorem dX2_isScreen_8 : decode cX2_isScreen 8 = .ok (.if_icmp .gt 17, 3) := by decide +kernel
theorem dX2_isScreen_11 : decode cX2_isScreen 11 = .ok (.iload_n 1, 1) := by decide +kernel
theorem dX2_isScreen_12 : decode cX2_isScreen 12 = .ok (.ifCond .lt 13, 3) := by decide +kernel
theorem dX2_isScreen_15 : decode cX2_isScreen 15 = .ok (.iload_n 1, 1) := by decide +kernel
theorem dX2_isScreen_16 : decode cX2_isScreen 16 = .ok (.bipush 20, 2) := by decide +kernel
theorem dX2_isScreen_18 : decode cX2_isScreen 18 = .ok (.if_icmp .gt 7, 3) := by decide +kernel
theorem dX2_isScreen_21 : decode cX2_isScreen 21 = .ok (.iconst 1, 1) := by decide +kernel
theorem dX2_isScreen_22 : decode cX2_isScreen 22 = .ok (.goto 4, 3) := by decide +kernel
theorem dX2_isScreen_25 : decode cX2_isScreen 25 = .ok (.iconst 0, 1) := by decide +kernel
theorem dX2_isScreen_26 : decode cX2_isScreen 26 = .ok (.ireturn, 1) := by decide +kernel
theorem dX2_setOrder_0 : decode cX2_setOrder 0 = .ok (.iload_n 1, 1) := by decide +kernel
theorem dX2_setOrder_1 : decode cX2_setOrder 1 = .ok (.iconst 1, 1) := by decide +kernel
theorem dX2_setOrder_2 : decode cX2_setOrder 2 = .ok (.if_icmp .lt 8, 3) := by decide +kernel
theorem dX2_setOrder_5 : decode cX2_setOrder 5 = .ok (.iload_n 1, 1) := by decide +kernel
theorem dX2_setOrder_6 : decode cX2_setOrder 6 = .ok (.iconst 2, 1) := by decide +kernel
theorem dX2_setOrder_7 : decode cX2_setOrder 7 = .ok (.if_icmp .le 5, 3) := by decide +kernel
theorem dX2_setOrder_10 : decode cX2_setOrder 10 = .ok (.iconst (-1), 1) := by decide +kernel
theorem dX2_setOrder_11 : decode cX2_setOrder 11 = .ok (.ireturn, 1) := by decide +kernel
theorem dX2_setOrder_12 : decode cX2_setOrder 12 = .ok (.aload_n 0, 1) := by decide +kernel
theorem dX2_setOrder_13 : decode cX2_setOrder 13 = .ok (.invokevirtual 45, 3) := by decide +kernel
theorem dX2_setOrder_16 : decode cX2_setOrder 16 = .ok (.aload_n 0, 1) := by decide +kernel
theorem dX2_setOrder_17 : decode cX2_setOrder 17 = .ok (.getfield 10, 3) := by decide +kernel
theorem dX2_setOrder_20 : decode cX2_setOrder 20 = .ok (.getfield 88, 3) := by decide +kernel
theorem dX2_setOrder_23 : decode cX2_setOrder 23 = .ok (.istore_n 2, 1) := by decide +kernel
theorem dX2_setOrder_24 : decode cX2_setOrder 24 = .ok (.aload_n 0, 1) := by decide +kernel
theorem dX2_setOrder_25 : decode cX2_setOrder 25 = .ok (.getfield 10, 3) := by decide +kernel
theorem dX2_setOrder_28 : decode cX2_setOrder 28 = .ok (.iload_n 1, 1) := by decide +kernel
theorem dX2_setOrder_29 : decode cX2_setOrder 29 = .ok (.putfield 88, 3) := by decide +kernel
theorem dX2_setOrder_32 : decode cX2_setOrder 32 = .ok (.iload_n 2, 1) := by decide +kernel
theorem dX2_setOrder_33 : decode cX2_setOrder 33 = .ok (.ireturn, 1) := by decide +kernel
theorem dX2_setLimits_0 : decode cX2_setLimits 0 = .ok (.iload_n 1, 1) := by decide +kernel
theorem dX2_setLimits_1 : decode cX2_setLimits 1 = .ok (.iconst 1, 1) := by decide +kernel
theorem dX2_setLimits_2 : decode cX2_setLimits 2 = .ok (.if_icmp .lt 22, 3) := by decide +kernel
theorem dX2_setLimits_5 : decode cX2_setLimits 5 = .ok (.iload_n 1, 1) := by decide +kernel
theorem dX2_setLimits_6 : decode cX2_setLimits 6 = .ok (.sipush 1000, 3) := by decide +kernel
theorem dX2_setLimits_9 : decode cX2_setLimits 9 = .ok (.if_icmp .gt 15, 3) := by decide +kernel
theorem dX2_setLimits_12 : decode cX2_setLimits 12 = .ok (.iload_n 2, 1) := by decide +kernel
theorem dX2_setLimits_13 : decode cX2_setLimits 13 = .ok (.iload_n 1, 1) := by decide +kernel
theorem dX2_setLimits_14 : decode cX2_setLimits 14 = .ok (.if_icmp .le 10, 3) := by decide +kernel
theorem dX2_setLimits_17 : decode cX2_setLimits 17 = .ok (.iload_n 2, 1) := by decide +kernel
theorem dX2_setLimits_18 : decode cX2_setLimits 18 = .ok (.sipush 10000, 3) := by decide +kernel
theorem dX2_setLimits_21 : decode cX2_setLimits 21 = .ok (.if_icmp .le 5, 3) := by decide +kernel
theorem dX2_setLimits_24 : decode cX2_setLimits 24 = .ok (.iconst (-1), 1) := by decide +kernel
theorem dX2_setLimits_25 : decode cX2_setLimits 25 = .ok (.ireturn, 1) := by decide +kernel
theorem dX2_setLimits_26 : decode cX2_setLimits 26 = .ok (.aload_n 0, 1) := by decide +kernel
theorem dX2_setLimits_27 : decode cX2_setLimits 27 = .ok (.invokevirtual 45, 3) := by decide +kernel
theorem dX2_setLimits_30 : decode cX2_setLimits 30 = .ok (.aload_n 0, 1) := by decide +kernel
theorem dX2_setLimits_31 : decode cX2_setLimits 31 = .ok (.getfield 10, 3) := by decide +kernel
theorem dX2_setLimits_34 : decode cX2_setLimits 34 = .ok (.getfield 91, 3) := by decide +kernel
theorem dX2_setLimits_37 : decode cX2_setLimits 37 = .ok (.istore_n 3, 1) := by decide +kernel
theorem dX2_setLimits_38 : decode cX2_setLimits 38 = .ok (.aload_n 0, 1) := by decide +kernel
theorem dX2_setLimits_39 : decode cX2_setLimits 39 = .ok (.getfield 10, 3) := by decide +kernel
theorem dX2_setLimits_42 : decode cX2_setLimits 42 = .ok (.iload_n 1, 1) := by decide +kernel
theorem dX2_setLimits_43 : decode cX2_setLimits 43 = .ok (.putfield 91, 3) := by decide +kernel
theorem dX2_setLimits_46 : decode cX2_setLimits 46 = .ok (.aload_n 0, 1) := by decide +kernel
theorem dX2_setLimits_47 : decode cX2_setLimits 47 = .ok (.getfield 10, 3) := by decide +kernel
theorem dX2_setLimits_50 : decode cX2_setLimits 50 = .ok (.iload_n 2, 1) := by decide +kernel
theorem dX2_setLimits_51 : decode cX2_setLimits 51 = .ok (.putfield 94, 3) := by decide +kernel
theorem dX2_setLimits_54 : decode cX2_setLimits 54 = .ok (.iload_n 3, 1) := by decide +kernel
theorem dX2_setLimits_55 : decode cX2_setLimits 55 = .ok (.ireturn, 1) := by decide +kernel
theorem dX2_longLimit_0 : decode cX2_longLimit 0 = .ok (.aload_n 0, 1) := by decide +kernel
theorem dX2_longLimit_1 : decode cX2_longLimit 1 = .ok (.getfield 10, 3) := by decide +kernel
theorem dX2_longLimit_4 : decode cX2_longLimit 4 = .ok (.getfield 94, 3) := by decide +kernel
theorem dX2_longLimit_7 : decode cX2_longLimit 7 = .ok (.ireturn, 1) := by decide +kernel
theorem dX2_squareNumerator_0 : decode cX2_squareNumerator 0 = .ok (.aload_n 0, 1) := by decide +kernel
theorem dX2_squareNumerator_1 : decode cX2_squareNumerator 1 = .ok (.iload_n 1, 1) := by decide +kernel
theorem dX2_squareNumerator_2 : decode cX2_squareNumerator 2 = .ok (.iload_n 2, 1) := by decide +kernel
theorem dX2_squareNumerator_3 : decode cX2_squareNumerator 3 = .ok (.iload_n 3, 1) := by decide +kernel
theorem dX2_squareNumerator_4 : decode cX2_squareNumerator 4 = .ok (.iload 4, 2) := by decide +kernel
theorem dX2_squareNumerator_6 : decode cX2_squareNumerator 6 = .ok (.iload 5, 2) := by decide +kernel
theorem dX2_squareNumerator_8 : decode cX2_squareNumerator 8 = .ok (.iload 6, 2) := by decide +kernel
theorem dX2_squareNumerator_10 : decode cX2_squareNumerator 10 = .ok (.invokevirtual 97, 3) := by decide +kernel
theorem dX2_squareNumerator_13 : decode cX2_squareNumerator 13 = .ok (.ifCond .ne 7, 3) := by decide +kernel
theorem dX2_squareNumerator_16 : decode cX2_squareNumerator 16 = .ok (.ldc2_w 101, 3) := by decide +kernel
theorem dX2_squareNumerator_19 : decode cX2_squareNumerator 19 = .ok (.lreturn, 1) := by decide +kernel
theorem dX2_squareNumerator_20 : decode cX2_squareNumerator 20 = .ok (.aload_n 0, 1) := by decide +kernel
theorem dX2_squareNumerator_21 : decode cX2_squareNumerator 21 = .ok (.getfield 33, 3) := by decide +kernel
theorem dX2_squareNumerator_24 : decode cX2_squareNumerator 24 = .ok (.aload_n 0, 1) := by decide +kernel
theorem dX2_squareNumerator_25 : decode cX2_squareNumerator 25 = .ok (.getfield 10, 3) := by decide +kernel
theorem dX2_squareNumerator_28 : decode cX2_squareNumerator 28 = .ok (.iload_n 1, 1) := by decide +kernel
theorem dX2_squareNumerator_29 : decode cX2_squareNumerator 29 = .ok (.iload_n 2, 1) := by decide +kernel
theorem dX2_squareNumerator_30 : decode cX2_squareNumerator 30 = .ok (.invokevirtual 103, 3) := by decide +kernel
theorem dX2_squareNumerator_33 : decode cX2_squareNumerator 33 = .ok (.aload_n 0, 1) := by decide +kernel
theorem dX2_squareNumerator_34 : decode cX2_squareNumerator 34 = .ok (.getfield 33, 3) := by decide +kernel
theorem dX2_squareNumerator_37 : decode cX2_squareNumerator 37 = .ok (.aload_n 0, 1) := by decide +kernel
theorem dX2_squareNumerator_38 : decode cX2_squareNumerator 38 = .ok (.getfield 10, 3) := by decide +kernel
theorem dX2_squareNumerator_41 : decode cX2_squareNumerator 41 = .ok (.iload_n 1, 1) := by decide +kernel
theorem dX2_squareNumerator_42 : decode cX2_squareNumerator 42 = .ok (.iload_n 2, 1) := by decide +kernel
theorem dX2_squareNumerator_43 : decode cX2_squareNumerator 43 = .ok (.iload_n 3, 1) := by decide +kernel
theorem dX2_squareNumerator_44 : decode cX2_squareNumerator 44 = .ok (.iload 4, 2) := by decide +kernel
theorem dX2_squareNumerator_46 : decode cX2_squareNumerator 46 = .ok (.iload 5, 2) := by decide +kernel
theorem dX2_squareNumerator_48 : decode cX2_squareNumerator 48 = .ok (.iload 6, 2) := by decide +kernel
theorem dX2_squareNumerator_50 : decode cX2_squareNumerator 50 = .ok (.invokevirtual 107, 3) := by decide +kernel
theorem dX2_squareNumerator_53 : decode cX2_squareNumerator 53 = .ok (.invokevirtual 111, 3) := by decide +kernel
theorem dX2_squareNumerator_56 : decode cX2_squareNumerator 56 = .ok (.lreturn, 1) := by decide +kernel
theorem dX2_squareDenominator_0 : decode cX2_squareDenominator 0 = .ok (.aload_n 0, 1) := by decide +kernel
theorem dX2_squareDenominator_1 : decode cX2_squareDenominator 1 = .ok (.iload_n 1, 1) := by decide +kernel
theorem dX2_squareDenominator_2 : decode cX2_squareDenominator 2 = .ok (.iload_n 2, 1) := by decide +kernel
theorem dX2_squareDenominator_3 : decode cX2_squareDenominator 3 = .ok (.iload_n 3, 1) := by decide +kernel
theorem dX2_squareDenominator_4 : decode cX2_squareDenominator 4 = .ok (.iload 4, 2) := by decide +kernel
theorem dX2_squareDenominator_6 : decode cX2_squareDenominator 6 = .ok (.iload 5, 2) := by decide +kernel
theorem dX2_squareDenominator_8 : decode cX2_squareDenominator 8 = .ok (.iload 6, 2) := by decide +kernel
theorem dX2_squareDenominator_10 : decode cX2_squareDenominator 10 = .ok (.invokevirtual 97, 3) := by decide +kernel
theorem dX2_squareDenominator_13 : decode cX2_squareDenominator 13 = .ok (.ifCond .ne 7, 3) := by decide +kernel
theorem dX2_squareDenominator_16 : decode cX2_squareDenominator 16 = .ok (.ldc2_w 101, 3) := by decide +kernel
theorem dX2_squareDenominator_19 : decode cX2_squareDenominator 19 = .ok (.lreturn, 1) := by decide +kernel
theorem dX2_squareDenominator_20 : decode cX2_squareDenominator 20 = .ok (.aload_n 0, 1) := by decide +kernel
theorem dX2_squareDenominator_21 : decode cX2_squareDenominator 21 = .ok (.getfield 33, 3) := by decide +kernel
theorem dX2_squareDenominator_24 : decode cX2_squareDenominator 24 = .ok (.aload_n 0, 1) := by decide +kernel
theorem dX2_squareDenominator_25 : decode cX2_squareDenominator 25 = .ok (.getfield 10, 3) := by decide +kernel
theorem dX2_squareDenominator_28 : decode cX2_squareDenominator 28 = .ok (.iload_n 1, 1) := by decide +kernel
theorem dX2_squareDenominator_29 : decode cX2_squareDenominator 29 = .ok (.iload_n 2, 1) := by decide +kernel
theorem dX2_squareDenominator_30 : decode cX2_squareDenominator 30 = .ok (.invokevirtual 103, 3) := by decide +kernel
theorem dX2_squareDenominator_33 : decode cX2_squareDenominator 33 = .ok (.aload_n 0, 1) := by decide +kernel
theorem dX2_squareDenominator_34 : decode cX2_squareDenominator 34 = .ok (.getfield 33, 3) := by decide +kernel
theorem dX2_squareDenominator_37 : decode cX2_squareDenominator 37 = .ok (.aload_n 0, 1) := by decide +kernel
theorem dX2_squareDenominator_38 : decode cX2_squareDenominator 38 = .ok (.getfield 10, 3) := by decide +kernel
theorem dX2_squareDenominator_41 : decode cX2_squareDenominator 41 = .ok (.iload_n 1, 1) := by decide +kernel
theorem dX2_squareDenominator_42 : decode cX2_squareDenominator 42 = .ok (.iload_n 2, 1) := by decide +kernel
theorem dX2_squareDenominator_43 : decode cX2_squareDenominator 43 = .ok (.iload_n 3, 1) := by decide +kernel
theorem dX2_squareDenominator_44 : decode cX2_squareDenominator 44 = .ok (.iload 4, 2) := by decide +kernel
theorem dX2_squareDenominator_46 : decode cX2_squareDenominator 46 = .ok (.iload 5, 2) := by decide +kernel
theorem dX2_squareDenominator_48 : decode cX2_squareDenominator 48 = .ok (.iload 6, 2) := by decide +kernel
theorem dX2_squareDenominator_50 : decode cX2_squareDenominator 50 = .ok (.invokevirtual 107, 3) := by decide +kernel
theorem dX2_squareDenominator_53 : decode cX2_squareDenominator 53 = .ok (.invokevirtual 114, 3) := by decide +kernel
theorem dX2_squareDenominator_56 : decode cX2_squareDenominator 56 = .ok (.lreturn, 1) := by decide +kernel
theorem dX2_kind_0 : decode cX2_kind 0 = .ok (.aload_n 0, 1) := by decide +kernel
theorem dX2_kind_1 : decode cX2_kind 1 = .ok (.iload_n 1, 1) := by decide +kernel
theorem dX2_kind_2 : decode cX2_kind 2 = .ok (.iload_n 2, 1) := by decide +kernel
theorem dX2_kind_3 : decode cX2_kind 3 = .ok (.iload_n 3, 1) := by decide +kernel
theorem dX2_kind_4 : decode cX2_kind 4 = .ok (.iload 4, 2) := by decide +kernel
theorem dX2_kind_6 : decode cX2_kind 6 = .ok (.iload 5, 2) := by decide +kernel
theorem dX2_kind_8 : decode cX2_kind 8 = .ok (.iload 6, 2) := by decide +kernel
theorem dX2_kind_10 : decode cX2_kind 10 = .ok (.invokevirtual 97, 3) := by decide +kernel
theorem dX2_kind_13 : decode cX2_kind 13 = .ok (.ifCond .ne 5, 3) := by decide +kernel
theorem dX2_kind_16 : decode cX2_kind 16 = .ok (.iconst (-1), 1) := by decide +kernel
theorem dX2_kind_17 : decode cX2_kind 17 = .ok (.ireturn, 1) := by decide +kernel
theorem dX2_kind_18 : decode cX2_kind 18 = .ok (.aload_n 0, 1) := by decide +kernel
theorem dX2_kind_19 : decode cX2_kind 19 = .ok (.getfield 33, 3) := by decide +kernel
theorem dX2_kind_22 : decode cX2_kind 22 = .ok (.aload_n 0, 1) := by decide +kernel
theorem dX2_kind_23 : decode cX2_kind 23 = .ok (.getfield 10, 3) := by decide +kernel
theorem dX2_kind_26 : decode cX2_kind 26 = .ok (.iload_n 1, 1) := by decide +kernel
theorem dX2_kind_27 : decode cX2_kind 27 = .ok (.iload_n 2, 1) := by decide +kernel
theorem dX2_kind_28 : decode cX2_kind 28 = .ok (.invokevirtual 103, 3) := by decide +kernel
theorem dX2_kind_31 : decode cX2_kind 31 = .ok (.aload_n 0, 1) := by decide +kernel
theorem dX2_kind_32 : decode cX2_kind 32 = .ok (.getfield 33, 3) := by decide +kernel
theorem dX2_kind_35 : decode cX2_kind 35 = .ok (.aload_n 0, 1) := by decide +kernel
theorem dX2_kind_36 : decode cX2_kind 36 = .ok (.getfield 10, 3) := by decide +kernel
theorem dX2_kind_39 : decode cX2_kind 39 = .ok (.iload_n 1, 1) := by decide +kernel
theorem dX2_kind_40 : decode cX2_kind 40 = .ok (.iload_n 2, 1) := by decide +kernel
theorem dX2_kind_41 : decode cX2_kind 41 = .ok (.iload_n 3, 1) := by decide +kernel
theorem dX2_kind_42 : decode cX2_kind 42 = .ok (.iload 4, 2) := by decide +kernel
theorem dX2_kind_44 : decode cX2_kind 44 = .ok (.iload 5, 2) := by decide +kernel
theorem dX2_kind_46 : decode cX2_kind 46 = .ok (.iload 6, 2) := by decide +kernel
theorem dX2_kind_48 : decode cX2_kind 48 = .ok (.invokevirtual 107, 3) := by decide +kernel
theorem dX2_kind_51 : decode cX2_kind 51 = .ok (.invokevirtual 117, 3) := by decide +kernel
theorem dX2_kind_54 : decode cX2_kind 54 = .ok (.ireturn, 1) := by decide +kernel
theorem dX2_beatCount_0 : decode cX2_beatCount 0 = .ok (.aload_n 0, 1) := by decide +kernel
theorem dX2_beatCount_1 : decode cX2_beatCount 1 = .ok (.getfield 10, 3) := by decide +kernel
theorem dX2_beatCount_4 : decode cX2_beatCount 4 = .ok (.iload_n 1, 1) := by decide +kernel
theorem dX2_beatCount_5 : decode cX2_beatCount 5 = .ok (.iload_n 2, 1) := by decide +kernel
theorem dX2_beatCount_6 : decode cX2_beatCount 6 = .ok (.invokevirtual 120, 3) := by decide +kernel
theorem dX2_beatCount_9 : decode cX2_beatCount 9 = .ok (.ifCond .ne 5, 3) := by decide +kernel
theorem dX2_beatCount_12 : decode cX2_beatCount 12 = .ok (.iconst (-1), 1) := by decide +kernel
theorem dX2_beatCount_13 : decode cX2_beatCount 13 = .ok (.ireturn, 1) := by decide +kernel
theorem dX2_beatCount_14 : decode cX2_beatCount 14 = .ok (.aload_n 0, 1) := by decide +kernel
theorem dX2_beatCount_15 : decode cX2_beatCount 15 = .ok (.getfield 33, 3) := by decide +kernel
theorem dX2_beatCount_18 : decode cX2_beatCount 18 = .ok (.aload_n 0, 1) := by decide +kernel
theorem dX2_beatCount_19 : decode cX2_beatCount 19 = .ok (.getfield 10, 3) := by decide +kernel
theorem dX2_beatCount_22 : decode cX2_beatCount 22 = .ok (.iload_n 1, 1) := by decide +kernel
theorem dX2_beatCount_23 : decode cX2_beatCount 23 = .ok (.iload_n 2, 1) := by decide +kernel
theorem dX2_beatCount_24 : decode cX2_beatCount 24 = .ok (.invokevirtual 123, 3) := by decide +kernel
theorem dX2_beatCount_27 : decode cX2_beatCount 27 = .ok (.aload_n 0, 1) := by decide +kernel
theorem dX2_beatCount_28 : decode cX2_beatCount 28 = .ok (.getfield 33, 3) := by decide +kernel
theorem dX2_beatCount_31 : decode cX2_beatCount 31 = .ok (.invokevirtual 126, 3) := by decide +kernel
theorem dX2_beatCount_34 : decode cX2_beatCount 34 = .ok (.aload_n 0, 1) := by decide +kernel
theorem dX2_beatCount_35 : decode cX2_beatCount 35 = .ok (.getfield 33, 3) := by decide +kernel
theorem dX2_beatCount_38 : decode cX2_beatCount 38 = .ok (.invokevirtual 129, 3) := by decide +kernel
theorem dX2_beatCount_41 : decode cX2_beatCount 41 = .ok (.ireturn, 1) := by decide +kernel
theorem dX2_beatNumerator_0 : decode cX2_beatNumerator 0 = .ok (.aload_n 0, 1) := by decide +kernel
theorem dX2_beatNumerator_1 : decode cX2_beatNumerator 1 = .ok (.iload_n 1, 1) := by decide +kernel
theorem dX2_beatNumerator_2 : decode cX2_beatNumerator 2 = .ok (.iload_n 2, 1) := by decide +kernel
theorem dX2_beatNumerator_3 : decode cX2_beatNumerator 3 = .ok (.iload_n 3, 1) := by decide +kernel
theorem dX2_beatNumerator_4 : decode cX2_beatNumerator 4 = .ok (.invokevirtual 133, 3) := by decide +kernel
theorem dX2_beatNumerator_7 : decode cX2_beatNumerator 7 = .ok (.istore 4, 2) := by decide +kernel
theorem dX2_beatNumerator_9 : decode cX2_beatNumerator 9 = .ok (.iload 4, 2) := by decide +kernel
theorem dX2_beatNumerator_11 : decode cX2_beatNumerator 11 = .ok (.ifCond .ge 9, 3) := by decide +kernel
theorem dX2_beatNumerator_14 : decode cX2_beatNumerator 14 = .ok (.iload 4, 2) := by decide +kernel
theorem dX2_beatNumerator_16 : decode cX2_beatNumerator 16 = .ok (.i2l, 1) := by decide +kernel
theorem dX2_beatNumerator_17 : decode cX2_beatNumerator 17 = .ok (.goto 12, 3) := by decide +kernel
theorem dX2_beatNumerator_20 : decode cX2_beatNumerator 20 = .ok (.aload_n 0, 1) := by decide +kernel
theorem dX2_beatNumerator_21 : decode cX2_beatNumerator 21 = .ok (.getfield 33, 3) := by decide +kernel
theorem dX2_beatNumerator_24 : decode cX2_beatNumerator 24 = .ok (.iload 4, 2) := by decide +kernel
theorem dX2_beatNumerator_26 : decode cX2_beatNumerator 26 = .ok (.invokevirtual 111, 3) := by decide +kernel
theorem dX2_beatNumerator_29 : decode cX2_beatNumerator 29 = .ok (.lreturn, 1) := by decide +kernel
theorem dX2_beatDenominator_0 : decode cX2_beatDenominator 0 = .ok (.aload_n 0, 1) := by decide +kernel
theorem dX2_beatDenominator_1 : decode cX2_beatDenominator 1 = .ok (.iload_n 1, 1) := by decide +kernel
theorem dX2_beatDenominator_2 : decode cX2_beatDenominator 2 = .ok (.iload_n 2, 1) := by decide +kernel
theorem dX2_beatDenominator_3 : decode cX2_beatDenominator 3 = .ok (.iload_n 3, 1) := by decide +kernel
theorem dX2_beatDenominator_4 : decode cX2_beatDenominator 4 = .ok (.invokevirtual 133, 3) := by decide +kernel
theorem dX2_beatDenominator_7 : decode cX2_beatDenominator 7 = .ok (.istore 4, 2) := by decide +kernel
theorem dX2_beatDenominator_9 : decode cX2_beatDenominator 9 = .ok (.iload 4, 2) := by decide +kernel
theorem dX2_beatDenominator_11 : decode cX2_beatDenominator 11 = .ok (.ifCond .ge 9, 3) := by decide +kernel
theorem dX2_beatDenominator_14 : decode cX2_beatDenominator 14 = .ok (.iload 4, 2) := by decide +kernel
theorem dX2_beatDenominator_16 : decode cX2_beatDenominator 16 = .ok (.i2l, 1) := by decide +kernel
theorem dX2_beatDenominator_17 : decode cX2_beatDenominator 17 = .ok (.goto 12, 3) := by decide +kernel
theorem dX2_beatDenominator_20 : decode cX2_beatDenominator 20 = .ok (.aload_n 0, 1) := by decide +kernel
theorem dX2_beatDenominator_21 : decode cX2_beatDenominator 21 = .ok (.getfield 33, 3) := by decide +kernel
theorem dX2_beatDenominator_24 : decode cX2_beatDenominator 24 = .ok (.iload 4, 2) := by decide +kernel
theorem dX2_beatDenominator_26 : decode cX2_beatDenominator 26 = .ok (.invokevirtual 114, 3) := by decide +kernel
theorem dX2_beatDenominator_29 : decode cX2_beatDenominator 29 = .ok (.lreturn, 1) := by decide +kernel
theorem dX2_beatFrequency_0 : decode cX2_beatFrequency 0 = .ok (.aload_n 0, 1) := by decide +kernel
theorem dX2_beatFrequency_1 : decode cX2_beatFrequency 1 = .ok (.iload_n 1, 1) := by decide +kernel
theorem dX2_beatFrequency_2 : decode cX2_beatFrequency 2 = .ok (.iload_n 2, 1) := by decide +kernel
theorem dX2_beatFrequency_3 : decode cX2_beatFrequency 3 = .ok (.iload_n 3, 1) := by decide +kernel
theorem dX2_beatFrequency_4 : decode cX2_beatFrequency 4 = .ok (.invokevirtual 133, 3) := by decide +kernel
theorem dX2_beatFrequency_7 : decode cX2_beatFrequency 7 = .ok (.istore 4, 2) := by decide +kernel
theorem dX2_beatFrequency_9 : decode cX2_beatFrequency 9 = .ok (.iload 4, 2) := by decide +kernel
theorem dX2_beatFrequency_11 : decode cX2_beatFrequency 11 = .ok (.ifCond .ge 8, 3) := by decide +kernel
theorem dX2_beatFrequency_14 : decode cX2_beatFrequency 14 = .ok (.iload 4, 2) := by decide +kernel
theorem dX2_beatFrequency_16 : decode cX2_beatFrequency 16 = .ok (.goto 12, 3) := by decide +kernel
theorem dX2_beatFrequency_19 : decode cX2_beatFrequency 19 = .ok (.aload_n 0, 1) := by decide +kernel
theorem dX2_beatFrequency_20 : decode cX2_beatFrequency 20 = .ok (.getfield 33, 3) := by decide +kernel
theorem dX2_beatFrequency_23 : decode cX2_beatFrequency 23 = .ok (.iload 4, 2) := by decide +kernel
theorem dX2_beatFrequency_25 : decode cX2_beatFrequency 25 = .ok (.invokevirtual 137, 3) := by decide +kernel
theorem dX2_beatFrequency_28 : decode cX2_beatFrequency 28 = .ok (.ireturn, 1) := by decide +kernel
theorem dX2_beatPeriod_0 : decode cX2_beatPeriod 0 = .ok (.aload_n 0, 1) := by decide +kernel
theorem dX2_beatPeriod_1 : decode cX2_beatPeriod 1 = .ok (.iload_n 1, 1) := by decide +kernel
theorem dX2_beatPeriod_2 : decode cX2_beatPeriod 2 = .ok (.iload_n 2, 1) := by decide +kernel
theorem dX2_beatPeriod_3 : decode cX2_beatPeriod 3 = .ok (.iload_n 3, 1) := by decide +kernel
theorem dX2_beatPeriod_4 : decode cX2_beatPeriod 4 = .ok (.invokevirtual 133, 3) := by decide +kernel
theorem dX2_beatPeriod_7 : decode cX2_beatPeriod 7 = .ok (.istore 4, 2) := by decide +kernel
theorem dX2_beatPeriod_9 : decode cX2_beatPeriod 9 = .ok (.iload 4, 2) := by decide +kernel
theorem dX2_beatPeriod_11 : decode cX2_beatPeriod 11 = .ok (.ifCond .ge 6, 3) := by decide +kernel
theorem dX2_beatPeriod_14 : decode cX2_beatPeriod 14 = .ok (.iload 4, 2) := by decide +kernel
theorem dX2_beatPeriod_16 : decode cX2_beatPeriod 16 = .ok (.ireturn, 1) := by decide +kernel
theorem dX2_beatPeriod_17 : decode cX2_beatPeriod 17 = .ok (.iload 4, 2) := by decide +kernel
theorem dX2_beatPeriod_19 : decode cX2_beatPeriod 19 = .ok (.ifCond .ne 8, 3) := by decide +kernel
theorem dX2_beatPeriod_22 : decode cX2_beatPeriod 22 = .ok (.bipush (-4), 2) := by decide +kernel
theorem dX2_beatPeriod_24 : decode cX2_beatPeriod 24 = .ok (.goto 12, 3) := by decide +kernel
theorem dX2_beatPeriod_27 : decode cX2_beatPeriod 27 = .ok (.aload_n 0, 1) := by decide +kernel
theorem dX2_beatPeriod_28 : decode cX2_beatPeriod 28 = .ok (.getfield 33, 3) := by decide +kernel
theorem dX2_beatPeriod_31 : decode cX2_beatPeriod 31 = .ok (.iload 4, 2) := by decide +kernel
theorem dX2_beatPeriod_33 : decode cX2_beatPeriod 33 = .ok (.invokevirtual 140, 3) := by decide +kernel
theorem dX2_beatPeriod_36 : decode cX2_beatPeriod 36 = .ok (.ireturn, 1) := by decide +kernel
theorem dX2_locked_0 : decode cX2_locked 0 = .ok (.aload_n 0, 1) := by decide +kernel
theorem dX2_locked_1 : decode cX2_locked 1 = .ok (.getfield 10, 3) := by decide +kernel
theorem dX2_locked_4 : decode cX2_locked 4 = .ok (.iload_n 1, 1) := by decide +kernel
theorem dX2_locked_5 : decode cX2_locked 5 = .ok (.iload_n 2, 1) := by decide +kernel
theorem dX2_locked_6 : decode cX2_locked 6 = .ok (.invokevirtual 120, 3) := by decide +kernel
theorem dX2_locked_9 : decode cX2_locked 9 = .ok (.ifCond .ne 5, 3) := by decide +kernel
theorem dX2_locked_12 : decode cX2_locked 12 = .ok (.iconst (-1), 1) := by decide +kernel
theorem dX2_locked_13 : decode cX2_locked 13 = .ok (.ireturn, 1) := by decide +kernel
theorem dX2_locked_14 : decode cX2_locked 14 = .ok (.aload_n 0, 1) := by decide +kernel
theorem dX2_locked_15 : decode cX2_locked 15 = .ok (.getfield 33, 3) := by decide +kernel
theorem dX2_locked_18 : decode cX2_locked 18 = .ok (.aload_n 0, 1) := by decide +kernel
theorem dX2_locked_19 : decode cX2_locked 19 = .ok (.getfield 10, 3) := by decide +kernel
theorem dX2_locked_22 : decode cX2_locked 22 = .ok (.iload_n 1, 1) := by decide +kernel
theorem dX2_locked_23 : decode cX2_locked 23 = .ok (.iload_n 2, 1) := by decide +kernel
theorem dX2_locked_24 : decode cX2_locked 24 = .ok (.invokevirtual 123, 3) := by decide +kernel
theorem dX2_locked_27 : decode cX2_locked 27 = .ok (.aload_n 0, 1) := by decide +kernel
theorem dX2_locked_28 : decode cX2_locked 28 = .ok (.getfield 33, 3) := by decide +kernel
theorem dX2_locked_31 : decode cX2_locked 31 = .ok (.iconst 0, 1) := by decide +kernel
theorem dX2_locked_32 : decode cX2_locked 32 = .ok (.invokevirtual 137, 3) := by decide +kernel
theorem dX2_locked_35 : decode cX2_locked 35 = .ok (.ireturn, 1) := by decide +kernel
theorem dX2_bands_0 : decode cX2_bands 0 = .ok (.aload_n 0, 1) := by decide +kernel
theorem dX2_bands_1 : decode cX2_bands 1 = .ok (.getfield 10, 3) := by decide +kernel
theorem dX2_bands_4 : decode cX2_bands 4 = .ok (.iload_n 1, 1) := by decide +kernel
theorem dX2_bands_5 : decode cX2_bands 5 = .ok (.iload_n 2, 1) := by decide +kernel
theorem dX2_bands_6 : decode cX2_bands 6 = .ok (.invokevirtual 120, 3) := by decide +kernel
theorem dX2_bands_9 : decode cX2_bands 9 = .ok (.ifCond .eq 12, 3) := by decide +kernel
theorem dX2_bands_12 : decode cX2_bands 12 = .ok (.aload_n 0, 1) := by decide +kernel
theorem dX2_bands_13 : decode cX2_bands 13 = .ok (.iload_n 1, 1) := by decide +kernel
theorem dX2_bands_14 : decode cX2_bands 14 = .ok (.iload_n 2, 1) := by decide +kernel
theorem dX2_bands_15 : decode cX2_bands 15 = .ok (.invokevirtual 143, 3) := by decide +kernel
theorem dX2_bands_18 : decode cX2_bands 18 = .ok (.goto 4, 3) := by decide +kernel
theorem dX2_bands_21 : decode cX2_bands 21 = .ok (.iconst (-1), 1) := by decide +kernel
theorem dX2_bands_22 : decode cX2_bands 22 = .ok (.ireturn, 1) := by decide +kernel
theorem dX2_isCombination_0 : decode cX2_isCombination 0 = .ok (.aload_n 0, 1) := by decide +kernel
theorem dX2_isCombination_1 : decode cX2_isCombination 1 = .ok (.getfield 10, 3) := by decide +kernel
theorem dX2_isCombination_4 : decode cX2_isCombination 4 = .ok (.iload_n 1, 1) := by decide +kernel
theorem dX2_isCombination_5 : decode cX2_isCombination 5 = .ok (.iload_n 2, 1) := by decide +kernel
theorem dX2_isCombination_6 : decode cX2_isCombination 6 = .ok (.invokevirtual 120, 3) := by decide +kernel
theorem dX2_isCombination_9 : decode cX2_isCombination 9 = .ok (.ifCond .eq 34, 3) := by decide +kernel
theorem dX2_isCombination_12 : decode cX2_isCombination 12 = .ok (.aload_n 0, 1) := by decide +kernel
theorem dX2_isCombination_13 : decode cX2_isCombination 13 = .ok (.getfield 10, 3) := by decide +kernel
theorem dX2_isCombination_16 : decode cX2_isCombination 16 = .ok (.iload_n 3, 1) := by decide +kernel
theorem dX2_isCombination_17 : decode cX2_isCombination 17 = .ok (.iload 4, 2) := by decide +kernel
theorem dX2_isCombination_19 : decode cX2_isCombination 19 = .ok (.invokevirtual 147, 3) := by decide +kernel
theorem dX2_isCombination_22 : decode cX2_isCombination 22 = .ok (.ifCond .eq 21, 3) := by decide +kernel
theorem dX2_isCombination_25 : decode cX2_isCombination 25 = .ok (.aload_n 0, 1) := by decide +kernel
theorem dX2_isCombination_26 : decode cX2_isCombination 26 = .ok (.getfield 10, 3) := by decide +kernel
theorem dX2_isCombination_29 : decode cX2_isCombination 29 = .ok (.iload 5, 2) := by decide +kernel
theorem dX2_isCombination_31 : decode cX2_isCombination 31 = .ok (.iload 6, 2) := by decide +kernel
theorem dX2_isCombination_33 : decode cX2_isCombination 33 = .ok (.invokevirtual 147, 3) := by decide +kernel
theorem dX2_isCombination_36 : decode cX2_isCombination 36 = .ok (.ifCond .eq 7, 3) := by decide +kernel
theorem dX2_isCombination_39 : decode cX2_isCombination 39 = .ok (.iconst 1, 1) := by decide +kernel
theorem dX2_isCombination_40 : decode cX2_isCombination 40 = .ok (.goto 4, 3) := by decide +kernel
theorem dX2_isCombination_43 : decode cX2_isCombination 43 = .ok (.iconst 0, 1) := by decide +kernel
theorem dX2_isCombination_44 : decode cX2_isCombination 44 = .ok (.ireturn, 1) := by decide +kernel
theorem dX2_normOfRank_0 : decode cX2_normOfRank 0 = .ok (.aload_n 0, 1) := by decide +kernel
theorem dX2_normOfRank_1 : decode cX2_normOfRank 1 = .ok (.getfield 10, 3) := by decide +kernel
theorem dX2_normOfRank_4 : decode cX2_normOfRank 4 = .ok (.iload_n 1, 1) := by decide +kernel
theorem dX2_normOfRank_5 : decode cX2_normOfRank 5 = .ok (.iload_n 2, 1) := by decide +kernel
theorem dX2_normOfRank_6 : decode cX2_normOfRank 6 = .ok (.invokevirtual 120, 3) := by decide +kernel
theorem dX2_normOfRank_9 : decode cX2_normOfRank 9 = .ok (.ifCond .eq 7, 3) := by decide +kernel
theorem dX2_normOfRank_12 : decode cX2_normOfRank 12 = .ok (.iload_n 3, 1) := by decide +kernel
theorem dX2_normOfRank_13 : decode cX2_normOfRank 13 = .ok (.ifCond .ge 5, 3) := by decide +kernel
theorem dX2_normOfRank_16 : decode cX2_normOfRank 16 = .ok (.iconst (-1), 1) := by decide +kernel
theorem dX2_normOfRank_17 : decode cX2_normOfRank 17 = .ok (.ireturn, 1) := by decide +kernel
theorem dX2_normOfRank_18 : decode cX2_normOfRank 18 = .ok (.aload_n 0, 1) := by decide +kernel
theorem dX2_normOfRank_19 : decode cX2_normOfRank 19 = .ok (.getfield 33, 3) := by decide +kernel
theorem dX2_normOfRank_22 : decode cX2_normOfRank 22 = .ok (.aload_n 0, 1) := by decide +kernel
theorem dX2_normOfRank_23 : decode cX2_normOfRank 23 = .ok (.getfield 10, 3) := by decide +kernel
theorem dX2_normOfRank_26 : decode cX2_normOfRank 26 = .ok (.iload_n 1, 1) := by decide +kernel
theorem dX2_normOfRank_27 : decode cX2_normOfRank 27 = .ok (.iload_n 2, 1) := by decide +kernel
theorem dX2_normOfRank_28 : decode cX2_normOfRank 28 = .ok (.invokevirtual 123, 3) := by decide +kernel
theorem dX2_normOfRank_31 : decode cX2_normOfRank 31 = .ok (.aload_n 0, 1) := by decide +kernel
theorem dX2_normOfRank_32 : decode cX2_normOfRank 32 = .ok (.getfield 33, 3) := by decide +kernel
theorem dX2_normOfRank_35 : decode cX2_normOfRank 35 = .ok (.invokevirtual 126, 3) := by decide +kernel
theorem dX2_normOfRank_38 : decode cX2_normOfRank 38 = .ok (.aload_n 0, 1) := by decide +kernel
theorem dX2_normOfRank_39 : decode cX2_normOfRank 39 = .ok (.getfield 33, 3) := by decide +kernel
theorem dX2_normOfRank_42 : decode cX2_normOfRank 42 = .ok (.iload_n 3, 1) := by decide +kernel
theorem dX2_normOfRank_43 : decode cX2_normOfRank 43 = .ok (.invokevirtual 150, 3) := by decide +kernel
theorem dX2_normOfRank_46 : decode cX2_normOfRank 46 = .ok (.ireturn, 1) := by decide +kernel
theorem dX2_pairBands_0 : decode cX2_pairBands 0 = .ok (.aload_n 0, 1) := by decide +kernel
theorem dX2_pairBands_1 : decode cX2_pairBands 1 = .ok (.getfield 33, 3) := by decide +kernel
theorem dX2_pairBands_4 : decode cX2_pairBands 4 = .ok (.aload_n 0, 1) := by decide +kernel
theorem dX2_pairBands_5 : decode cX2_pairBands 5 = .ok (.getfield 10, 3) := by decide +kernel
theorem dX2_pairBands_8 : decode cX2_pairBands 8 = .ok (.iload_n 1, 1) := by decide +kernel
theorem dX2_pairBands_9 : decode cX2_pairBands 9 = .ok (.iload_n 2, 1) := by decide +kernel
theorem dX2_pairBands_10 : decode cX2_pairBands 10 = .ok (.invokevirtual 123, 3) := by decide +kernel
theorem dX2_pairBands_13 : decode cX2_pairBands 13 = .ok (.aload_n 0, 1) := by decide +kernel
theorem dX2_pairBands_14 : decode cX2_pairBands 14 = .ok (.getfield 33, 3) := by decide +kernel
theorem dX2_pairBands_17 : decode cX2_pairBands 17 = .ok (.invokevirtual 153, 3) := by decide +kernel
theorem dX2_pairBands_20 : decode cX2_pairBands 20 = .ok (.ireturn, 1) := by decide +kernel
theorem dX2_tripleBands_0 : decode cX2_tripleBands 0 = .ok (.aload_n 0, 1) := by decide +kernel
theorem dX2_tripleBands_1 : decode cX2_tripleBands 1 = .ok (.getfield 10, 3) := by decide +kernel
theorem dX2_tripleBands_4 : decode cX2_tripleBands 4 = .ok (.iload_n 1, 1) := by decide +kernel
theorem dX2_tripleBands_5 : decode cX2_tripleBands 5 = .ok (.iload_n 2, 1) := by decide +kernel
theorem dX2_tripleBands_6 : decode cX2_tripleBands 6 = .ok (.invokevirtual 120, 3) := by decide +kernel
theorem dX2_tripleBands_9 : decode cX2_tripleBands 9 = .ok (.ifCond .eq 15, 3) := by decide +kernel
theorem dX2_tripleBands_12 : decode cX2_tripleBands 12 = .ok (.aload_n 0, 1) := by decide +kernel
theorem dX2_tripleBands_13 : decode cX2_tripleBands 13 = .ok (.getfield 10, 3) := by decide +kernel
theorem dX2_tripleBands_16 : decode cX2_tripleBands 16 = .ok (.iload_n 2, 1) := by decide +kernel
theorem dX2_tripleBands_17 : decode cX2_tripleBands 17 = .ok (.iload_n 3, 1) := by decide +kernel
theorem dX2_tripleBands_18 : decode cX2_tripleBands 18 = .ok (.invokevirtual 120, 3) := by decide +kernel
theorem dX2_tripleBands_21 : decode cX2_tripleBands 21 = .ok (.ifCond .ne 5, 3) := by decide +kernel
theorem dX2_tripleBands_24 : decode cX2_tripleBands 24 = .ok (.iconst (-1), 1) := by decide +kernel
theorem dX2_tripleBands_25 : decode cX2_tripleBands 25 = .ok (.ireturn, 1) := by decide +kernel
theorem dX2_tripleBands_26 : decode cX2_tripleBands 26 = .ok (.aload_n 0, 1) := by decide +kernel
theorem dX2_tripleBands_27 : decode cX2_tripleBands 27 = .ok (.getfield 33, 3) := by decide +kernel
theorem dX2_tripleBands_30 : decode cX2_tripleBands 30 = .ok (.aload_n 0, 1) := by decide +kernel
theorem dX2_tripleBands_31 : decode cX2_tripleBands 31 = .ok (.getfield 10, 3) := by decide +kernel
theorem dX2_tripleBands_34 : decode cX2_tripleBands 34 = .ok (.iload_n 1, 1) := by decide +kernel
theorem dX2_tripleBands_35 : decode cX2_tripleBands 35 = .ok (.iload_n 2, 1) := by decide +kernel
theorem dX2_tripleBands_36 : decode cX2_tripleBands 36 = .ok (.iload_n 3, 1) := by decide +kernel
theorem dX2_tripleBands_37 : decode cX2_tripleBands 37 = .ok (.invokevirtual 156, 3) := by decide +kernel
theorem dX2_tripleBands_40 : decode cX2_tripleBands 40 = .ok (.aload_n 0, 1) := by decide +kernel
theorem dX2_tripleBands_41 : decode cX2_tripleBands 41 = .ok (.getfield 33, 3) := by decide +kernel
theorem dX2_tripleBands_44 : decode cX2_tripleBands 44 = .ok (.invokevirtual 153, 3) := by decide +kernel
theorem dX2_tripleBands_47 : decode cX2_tripleBands 47 = .ok (.ireturn, 1) := by decide +kernel
theorem dX2_allBands_0 : decode cX2_allBands 0 = .ok (.aload_n 0, 1) := by decide +kernel
theorem dX2_allBands_1 : decode cX2_allBands 1 = .ok (.aload_n 0, 1) := by decide +kernel
theorem dX2_allBands_2 : decode cX2_allBands 2 = .ok (.getfield 10, 3) := by decide +kernel
theorem dX2_allBands_5 : decode cX2_allBands 5 = .ok (.iconst 0, 1) := by decide +kernel
theorem dX2_allBands_6 : decode cX2_allBands 6 = .ok (.invokevirtual 160, 3) := by decide +kernel
theorem dX2_allBands_9 : decode cX2_allBands 9 = .ok (.ireturn, 1) := by decide +kernel
theorem dX2_worstPlates_0 : decode cX2_worstPlates 0 = .ok (.bipush (-4), 2) := by decide +kernel
theorem dX2_worstPlates_2 : decode cX2_worstPlates 2 = .ok (.istore_n 1, 1) := by decide +kernel
theorem dX2_worstPlates_3 : decode cX2_worstPlates 3 = .ok (.iconst 0, 1) := by decide +kernel
theorem dX2_worstPlates_4 : decode cX2_worstPlates 4 = .ok (.istore_n 2, 1) := by decide +kernel
theorem dX2_worstPlates_5 : decode cX2_worstPlates 5 = .ok (.iconst 0, 1) := by decide +kernel
theorem dX2_worstPlates_6 : decode cX2_worstPlates 6 = .ok (.istore_n 3, 1) := by decide +kernel
theorem dX2_worstPlates_7 : decode cX2_worstPlates 7 = .ok (.iload_n 3, 1) := by decide +kernel
theorem dX2_worstPlates_8 : decode cX2_worstPlates 8 = .ok (.getstatic 164, 3) := by decide +kernel
theorem dX2_worstPlates_11 : decode cX2_worstPlates 11 = .ok (.arraylength, 1) := by decide +kernel
theorem dX2_worstPlates_12 : decode cX2_worstPlates 12 = .ok (.if_icmp .ge 35, 3) := by decide +kernel
theorem dX2_worstPlates_15 : decode cX2_worstPlates 15 = .ok (.aload_n 0, 1) := by decide +kernel
theorem dX2_worstPlates_16 : decode cX2_worstPlates 16 = .ok (.getstatic 164, 3) := by decide +kernel
theorem dX2_worstPlates_19 : decode cX2_worstPlates 19 = .ok (.iload_n 3, 1) := by decide +kernel
theorem dX2_worstPlates_20 : decode cX2_worstPlates 20 = .ok (.iaload, 1) := by decide +kernel
theorem dX2_worstPlates_21 : decode cX2_worstPlates 21 = .ok (.invokevirtual 168, 3) := by decide +kernel
theorem dX2_worstPlates_24 : decode cX2_worstPlates 24 = .ok (.istore 4, 2) := by decide +kernel
theorem dX2_worstPlates_26 : decode cX2_worstPlates 26 = .ok (.iload 4, 2) := by decide +kernel
theorem dX2_worstPlates_28 : decode cX2_worstPlates 28 = .ok (.iload_n 2, 1) := by decide +kernel
theorem dX2_worstPlates_29 : decode cX2_worstPlates 29 = .ok (.if_icmp .le 12, 3) := by decide +kernel
theorem dX2_worstPlates_32 : decode cX2_worstPlates 32 = .ok (.iload 4, 2) := by decide +kernel
theorem dX2_worstPlates_34 : decode cX2_worstPlates 34 = .ok (.istore_n 2, 1) := by decide +kernel
theorem dX2_worstPlates_35 : decode cX2_worstPlates 35 = .ok (.getstatic 164, 3) := by decide +kernel
theorem dX2_worstPlates_38 : decode cX2_worstPlates 38 = .ok (.iload_n 3, 1) := by decide +kernel
theorem dX2_worstPlates_39 : decode cX2_worstPlates 39 = .ok (.iaload, 1) := by decide +kernel
theorem dX2_worstPlates_40 : decode cX2_worstPlates 40 = .ok (.istore_n 1, 1) := by decide +kernel
theorem dX2_worstPlates_41 : decode cX2_worstPlates 41 = .ok (.iinc 3 1, 3) := by decide +kernel
theorem dX2_worstPlates_44 : decode cX2_worstPlates 44 = .ok (.goto (-37), 3) := by decide +kernel
theorem dX2_worstPlates_47 : decode cX2_worstPlates 47 = .ok (.iload_n 1, 1) := by decide +kernel
theorem dX2_worstPlates_48 : decode cX2_worstPlates 48 = .ok (.ireturn, 1) := by decide +kernel
theorem dX2_worstPeriod_0 : decode cX2_worstPeriod 0 = .ok (.aload_n 0, 1) := by decide +kernel
theorem dX2_worstPeriod_1 : decode cX2_worstPeriod 1 = .ok (.invokevirtual 171, 3) := by decide +kernel
theorem dX2_worstPeriod_4 : decode cX2_worstPeriod 4 = .ok (.istore_n 1, 1) := by decide +kernel
theorem dX2_worstPeriod_5 : decode cX2_worstPeriod 5 = .ok (.iload_n 1, 1) := by decide +kernel
theorem dX2_worstPeriod_6 : decode cX2_worstPeriod 6 = .ok (.bipush (-4), 2) := by decide +kernel
theorem dX2_worstPeriod_8 : decode cX2_worstPeriod 8 = .ok (.if_icmp .ne 8, 3) := by decide +kernel
theorem dX2_worstPeriod_11 : decode cX2_worstPeriod 11 = .ok (.bipush (-4), 2) := by decide +kernel
theorem dX2_worstPeriod_13 : decode cX2_worstPeriod 13 = .ok (.goto 8, 3) := by decide +kernel
theorem dX2_worstPeriod_16 : decode cX2_worstPeriod 16 = .ok (.aload_n 0, 1) := by decide +kernel
theorem dX2_worstPeriod_17 : decode cX2_worstPeriod 17 = .ok (.iload_n 1, 1) := by decide +kernel
theorem dX2_worstPeriod_18 : decode cX2_worstPeriod 18 = .ok (.invokevirtual 168, 3) := by decide +kernel
theorem dX2_worstPeriod_21 : decode cX2_worstPeriod 21 = .ok (.ireturn, 1) := by decide +kernel
theorem dX2_worstPair_0 : decode cX2_worstPair 0 = .ok (.bipush (-4), 2) := by decide +kernel
theorem dX2_worstPair_2 : decode cX2_worstPair 2 = .ok (.istore_n 1, 1) := by decide +kernel
theorem dX2_worstPair_3 : decode cX2_worstPair 3 = .ok (.iconst (-1), 1) := by decide +kernel
theorem dX2_worstPair_4 : decode cX2_worstPair 4 = .ok (.istore_n 2, 1) := by decide +kernel
theorem dX2_worstPair_5 : decode cX2_worstPair 5 = .ok (.iconst 0, 1) := by decide +kernel
theorem dX2_worstPair_6 : decode cX2_worstPair 6 = .ok (.istore_n 3, 1) := by decide +kernel
theorem dX2_worstPair_7 : decode cX2_worstPair 7 = .ok (.iload_n 3, 1) := by decide +kernel
theorem dX2_worstPair_8 : decode cX2_worstPair 8 = .ok (.aload_n 0, 1) := by decide +kernel
theorem dX2_worstPair_9 : decode cX2_worstPair 9 = .ok (.getfield 10, 3) := by decide +kernel
theorem dX2_worstPair_12 : decode cX2_worstPair 12 = .ok (.getfield 41, 3) := by decide +kernel
theorem dX2_worstPair_15 : decode cX2_worstPair 15 = .ok (.if_icmp .ge 58, 3) := by decide +kernel
theorem dX2_worstPair_18 : decode cX2_worstPair 18 = .ok (.iload_n 3, 1) := by decide +kernel
theorem dX2_worstPair_19 : decode cX2_worstPair 19 = .ok (.iconst 1, 1) := by decide +kernel
theorem dX2_worstPair_20 : decode cX2_worstPair 20 = .ok (.iadd, 1) := by decide +kernel
theorem dX2_worstPair_21 : decode cX2_worstPair 21 = .ok (.istore 4, 2) := by decide +kernel
theorem dX2_worstPair_23 : decode cX2_worstPair 23 = .ok (.iload 4, 2) := by decide +kernel
theorem dX2_worstPair_25 : decode cX2_worstPair 25 = .ok (.aload_n 0, 1) := by decide +kernel
theorem dX2_worstPair_26 : decode cX2_worstPair 26 = .ok (.getfield 10, 3) := by decide +kernel
theorem dX2_worstPair_29 : decode cX2_worstPair 29 = .ok (.getfield 41, 3) := by decide +kernel
theorem dX2_worstPair_32 : decode cX2_worstPair 32 = .ok (.if_icmp .ge 35, 3) := by decide +kernel
theorem dX2_worstPair_35 : decode cX2_worstPair 35 = .ok (.aload_n 0, 1) := by decide +kernel
theorem dX2_worstPair_36 : decode cX2_worstPair 36 = .ok (.iload_n 3, 1) := by decide +kernel
theorem dX2_worstPair_37 : decode cX2_worstPair 37 = .ok (.iload 4, 2) := by decide +kernel
theorem dX2_worstPair_39 : decode cX2_worstPair 39 = .ok (.invokevirtual 143, 3) := by decide +kernel
theorem dX2_worstPair_42 : decode cX2_worstPair 42 = .ok (.istore 5, 2) := by decide +kernel
theorem dX2_worstPair_44 : decode cX2_worstPair 44 = .ok (.iload 5, 2) := by decide +kernel
theorem dX2_worstPair_46 : decode cX2_worstPair 46 = .ok (.iload_n 2, 1) := by decide +kernel
theorem dX2_worstPair_47 : decode cX2_worstPair 47 = .ok (.if_icmp .le 14, 3) := by decide +kernel
theorem dX2_worstPair_50 : decode cX2_worstPair 50 = .ok (.iload 5, 2) := by decide +kernel
theorem dX2_worstPair_52 : decode cX2_worstPair 52 = .ok (.istore_n 2, 1) := by decide +kernel
theorem dX2_worstPair_53 : decode cX2_worstPair 53 = .ok (.bipush 10, 2) := by decide +kernel
theorem dX2_worstPair_55 : decode cX2_worstPair 55 = .ok (.iload_n 3, 1) := by decide +kernel
theorem dX2_worstPair_56 : decode cX2_worstPair 56 = .ok (.imul, 1) := by decide +kernel
theorem dX2_worstPair_57 : decode cX2_worstPair 57 = .ok (.iload 4, 2) := by decide +kernel
theorem dX2_worstPair_59 : decode cX2_worstPair 59 = .ok (.iadd, 1) := by decide +kernel
theorem dX2_worstPair_60 : decode cX2_worstPair 60 = .ok (.istore_n 1, 1) := by decide +kernel
theorem dX2_worstPair_61 : decode cX2_worstPair 61 = .ok (.iinc 4 1, 3) := by decide +kernel
theorem dX2_worstPair_64 : decode cX2_worstPair 64 = .ok (.goto (-41), 3) := by decide +kernel
theorem dX2_worstPair_67 : decode cX2_worstPair 67 = .ok (.iinc 3 1, 3) := by decide +kernel
theorem dX2_worstPair_70 : decode cX2_worstPair 70 = .ok (.goto (-63), 3) := by decide +kernel
theorem dX2_worstPair_73 : decode cX2_worstPair 73 = .ok (.iload_n 1, 1) := by decide +kernel
theorem dX2_worstPair_74 : decode cX2_worstPair 74 = .ok (.ireturn, 1) := by decide +kernel
theorem dX2_worstPeriodOf_0 : decode cX2_worstPeriodOf 0 = .ok (.aload_n 0, 1) := by decide +kernel
theorem dX2_worstPeriodOf_1 : decode cX2_worstPeriodOf 1 = .ok (.getfield 10, 3) := by decide +kernel
theorem dX2_worstPeriodOf_4 : decode cX2_worstPeriodOf 4 = .ok (.iload_n 1, 1) := by decide +kernel
theorem dX2_worstPeriodOf_5 : decode cX2_worstPeriodOf 5 = .ok (.invokevirtual 174, 3) := by decide +kernel
theorem dX2_worstPeriodOf_8 : decode cX2_worstPeriodOf 8 = .ok (.ifCond .ne 5, 3) := by decide +kernel
theorem dX2_worstPeriodOf_11 : decode cX2_worstPeriodOf 11 = .ok (.iconst 0, 1) := by decide +kernel
theorem dX2_worstPeriodOf_12 : decode cX2_worstPeriodOf 12 = .ok (.ireturn, 1) := by decide +kernel
theorem dX2_worstPeriodOf_13 : decode cX2_worstPeriodOf 13 = .ok (.aload_n 0, 1) := by decide +kernel
theorem dX2_worstPeriodOf_14 : decode cX2_worstPeriodOf 14 = .ok (.getfield 33, 3) := by decide +kernel
theorem dX2_worstPeriodOf_17 : decode cX2_worstPeriodOf 17 = .ok (.aload_n 0, 1) := by decide +kernel
theorem dX2_worstPeriodOf_18 : decode cX2_worstPeriodOf 18 = .ok (.getfield 10, 3) := by decide +kernel
theorem dX2_worstPeriodOf_21 : decode cX2_worstPeriodOf 21 = .ok (.iload_n 1, 1) := by decide +kernel
theorem dX2_worstPeriodOf_22 : decode cX2_worstPeriodOf 22 = .ok (.invokevirtual 177, 3) := by decide +kernel
theorem dX2_worstPeriodOf_25 : decode cX2_worstPeriodOf 25 = .ok (.aload_n 0, 1) := by decide +kernel
theorem dX2_worstPeriodOf_26 : decode cX2_worstPeriodOf 26 = .ok (.getfield 33, 3) := by decide +kernel
theorem dX2_worstPeriodOf_29 : decode cX2_worstPeriodOf 29 = .ok (.invokevirtual 181, 3) := by decide +kernel
theorem dX2_worstPeriodOf_32 : decode cX2_worstPeriodOf 32 = .ok (.ireturn, 1) := by decide +kernel
theorem dX2_bandsOfGroups_0 : decode cX2_bandsOfGroups 0 = .ok (.iconst 0, 1) := by decide +kernel
theorem dX2_bandsOfGroups_1 : decode cX2_bandsOfGroups 1 = .ok (.istore_n 3, 1) := by decide +kernel
theorem dX2_bandsOfGroups_2 : decode cX2_bandsOfGroups 2 = .ok (.iconst 0, 1) := by decide +kernel
theorem dX2_bandsOfGroups_3 : decode cX2_bandsOfGroups 3 = .ok (.istore 4, 2) := by decide +kernel
theorem dX2_bandsOfGroups_5 : decode cX2_bandsOfGroups 5 = .ok (.iload 4, 2) := by decide +kernel
theorem dX2_bandsOfGroups_7 : decode cX2_bandsOfGroups 7 = .ok (.getstatic 164, 3) := by decide +kernel
theorem dX2_bandsOfGroups_10 : decode cX2_bandsOfGroups 10 = .ok (.arraylength, 1) := by decide +kernel
theorem dX2_bandsOfGroups_11 : decode cX2_bandsOfGroups 11 = .ok (.if_icmp .ge 54, 3) := by decide +kernel
theorem dX2_bandsOfGroups_14 : decode cX2_bandsOfGroups 14 = .ok (.getstatic 164, 3) := by decide +kernel
theorem dX2_bandsOfGroups_17 : decode cX2_bandsOfGroups 17 = .ok (.iload 4, 2) := by decide +kernel
theorem dX2_bandsOfGroups_19 : decode cX2_bandsOfGroups 19 = .ok (.iaload, 1) := by decide +kernel
theorem dX2_bandsOfGroups_20 : decode cX2_bandsOfGroups 20 = .ok (.istore 5, 2) := by decide +kernel
theorem dX2_bandsOfGroups_22 : decode cX2_bandsOfGroups 22 = .ok (.aload_n 1, 1) := by decide +kernel
theorem dX2_bandsOfGroups_23 : decode cX2_bandsOfGroups 23 = .ok (.iload 5, 2) := by decide +kernel
theorem dX2_bandsOfGroups_25 : decode cX2_bandsOfGroups 25 = .ok (.invokevirtual 174, 3) := by decide +kernel
theorem dX2_bandsOfGroups_28 : decode cX2_bandsOfGroups 28 = .ok (.ifCond .eq 31, 3) := by decide +kernel
theorem dX2_bandsOfGroups_31 : decode cX2_bandsOfGroups 31 = .ok (.iload 5, 2) := by decide +kernel
theorem dX2_bandsOfGroups_33 : decode cX2_bandsOfGroups 33 = .ok (.iload_n 2, 1) := by decide +kernel
theorem dX2_bandsOfGroups_34 : decode cX2_bandsOfGroups 34 = .ok (.iand, 1) := by decide +kernel
theorem dX2_bandsOfGroups_35 : decode cX2_bandsOfGroups 35 = .ok (.iload_n 2, 1) := by decide +kernel
theorem dX2_bandsOfGroups_36 : decode cX2_bandsOfGroups 36 = .ok (.if_icmp .ne 23, 3) := by decide +kernel
theorem dX2_bandsOfGroups_39 : decode cX2_bandsOfGroups 39 = .ok (.aload_n 0, 1) := by decide +kernel
theorem dX2_bandsOfGroups_40 : decode cX2_bandsOfGroups 40 = .ok (.getfield 33, 3) := by decide +kernel
theorem dX2_bandsOfGroups_43 : decode cX2_bandsOfGroups 43 = .ok (.aload_n 1, 1) := by decide +kernel
theorem dX2_bandsOfGroups_44 : decode cX2_bandsOfGroups 44 = .ok (.iload 5, 2) := by decide +kernel
theorem dX2_bandsOfGroups_46 : decode cX2_bandsOfGroups 46 = .ok (.invokevirtual 177, 3) := by decide +kernel
theorem dX2_bandsOfGroups_49 : decode cX2_bandsOfGroups 49 = .ok (.iload_n 3, 1) := by decide +kernel
theorem dX2_bandsOfGroups_50 : decode cX2_bandsOfGroups 50 = .ok (.aload_n 0, 1) := by decide +kernel
theorem dX2_bandsOfGroups_51 : decode cX2_bandsOfGroups 51 = .ok (.getfield 33, 3) := by decide +kernel
theorem dX2_bandsOfGroups_54 : decode cX2_bandsOfGroups 54 = .ok (.invokevirtual 153, 3) := by decide +kernel
theorem dX2_bandsOfGroups_57 : decode cX2_bandsOfGroups 57 = .ok (.iadd, 1) := by decide +kernel
theorem dX2_bandsOfGroups_58 : decode cX2_bandsOfGroups 58 = .ok (.istore_n 3, 1) := by decide +kernel
theorem dX2_bandsOfGroups_59 : decode cX2_bandsOfGroups 59 = .ok (.iinc 4 1, 3) := by decide +kernel
theorem dX2_bandsOfGroups_62 : decode cX2_bandsOfGroups 62 = .ok (.goto (-57), 3) := by decide +kernel
theorem dX2_bandsOfGroups_65 : decode cX2_bandsOfGroups 65 = .ok (.iload_n 3, 1) := by decide +kernel
theorem dX2_bandsOfGroups_66 : decode cX2_bandsOfGroups 66 = .ok (.ireturn, 1) := by decide +kernel
theorem dX2_bestScreen_0 : decode cX2_bestScreen 0 = .ok (.aload_n 0, 1) := by decide +kernel
theorem dX2_bestScreen_1 : decode cX2_bestScreen 1 = .ok (.getfield 10, 3) := by decide +kernel
theorem dX2_bestScreen_4 : decode cX2_bestScreen 4 = .ok (.iload_n 1, 1) := by decide +kernel
theorem dX2_bestScreen_5 : decode cX2_bestScreen 5 = .ok (.invokevirtual 52, 3) := by decide +kernel
theorem dX2_bestScreen_8 : decode cX2_bestScreen 8 = .ok (.ifCond .eq 21, 3) := by decide +kernel
theorem dX2_bestScreen_11 : decode cX2_bestScreen 11 = .ok (.iload_n 2, 1) := by decide +kernel
theorem dX2_bestScreen_12 : decode cX2_bestScreen 12 = .ok (.iload_n 3, 1) := by decide +kernel
theorem dX2_bestScreen_13 : decode cX2_bestScreen 13 = .ok (.invokestatic 184, 3) := by decide +kernel
theorem dX2_bestScreen_16 : decode cX2_bestScreen 16 = .ok (.ifCond .eq 13, 3) := by decide +kernel
theorem dX2_bestScreen_19 : decode cX2_bestScreen 19 = .ok (.aload_n 0, 1) := by decide +kernel
theorem dX2_bestScreen_20 : decode cX2_bestScreen 20 = .ok (.iload_n 1, 1) := by decide +kernel
theorem dX2_bestScreen_21 : decode cX2_bestScreen 21 = .ok (.iload_n 2, 1) := by decide +kernel
theorem dX2_bestScreen_22 : decode cX2_bestScreen 22 = .ok (.iload_n 3, 1) := by decide +kernel
theorem dX2_bestScreen_23 : decode cX2_bestScreen 23 = .ok (.invokevirtual 187, 3) := by decide +kernel
theorem dX2_bestScreen_26 : decode cX2_bestScreen 26 = .ok (.goto 4, 3) := by decide +kernel
theorem dX2_bestScreen_29 : decode cX2_bestScreen 29 = .ok (.iconst (-1), 1) := by decide +kernel
theorem dX2_bestScreen_30 : decode cX2_bestScreen 30 = .ok (.ireturn, 1) := by decide +kernel
theorem dX2_bandsWithBest_0 : decode cX2_bandsWithBest 0 = .ok (.aload_n 0, 1) := by decide +kernel
theorem dX2_bandsWithBest_1 : decode cX2_bandsWithBest 1 = .ok (.getfield 10, 3) := by decide +kernel
theorem dX2_bandsWithBest_4 : decode cX2_bandsWithBest 4 = .ok (.iload_n 1, 1) := by decide +kernel
theorem dX2_bandsWithBest_5 : decode cX2_bandsWithBest 5 = .ok (.invokevirtual 52, 3) := by decide +kernel
theorem dX2_bandsWithBest_8 : decode cX2_bandsWithBest 8 = .ok (.ifCond .eq 11, 3) := by decide +kernel
theorem dX2_bandsWithBest_11 : decode cX2_bandsWithBest 11 = .ok (.iload_n 2, 1) := by decide +kernel
theorem dX2_bandsWithBest_12 : decode cX2_bandsWithBest 12 = .ok (.iload_n 3, 1) := by decide +kernel
theorem dX2_bandsWithBest_13 : decode cX2_bandsWithBest 13 = .ok (.invokestatic 184, 3) := by decide +kernel
theorem dX2_bandsWithBest_16 : decode cX2_bandsWithBest 16 = .ok (.ifCond .ne 5, 3) := by decide +kernel
theorem dX2_bandsWithBest_19 : decode cX2_bandsWithBest 19 = .ok (.iconst (-1), 1) := by decide +kernel
theorem dX2_bandsWithBest_20 : decode cX2_bandsWithBest 20 = .ok (.ireturn, 1) := by decide +kernel
theorem dX2_bandsWithBest_21 : decode cX2_bandsWithBest 21 = .ok (.aload_n 0, 1) := by decide +kernel
theorem dX2_bandsWithBest_22 : decode cX2_bandsWithBest 22 = .ok (.iload_n 1, 1) := by decide +kernel
theorem dX2_bandsWithBest_23 : decode cX2_bandsWithBest 23 = .ok (.iload_n 2, 1) := by decide +kernel
theorem dX2_bandsWithBest_24 : decode cX2_bandsWithBest 24 = .ok (.iload_n 3, 1) := by decide +kernel
theorem dX2_bandsWithBest_25 : decode cX2_bandsWithBest 25 = .ok (.invokevirtual 187, 3) := by decide +kernel
theorem dX2_bandsWithBest_28 : decode cX2_bandsWithBest 28 = .ok (.istore 4, 2) := by decide +kernel
theorem dX2_bandsWithBest_30 : decode cX2_bandsWithBest 30 = .ok (.iload 4, 2) := by decide +kernel
theorem dX2_bandsWithBest_32 : decode cX2_bandsWithBest 32 = .ok (.bipush (-4), 2) := by decide +kernel
theorem dX2_bandsWithBest_34 : decode cX2_bandsWithBest 34 = .ok (.if_icmp .ne 6, 3) := by decide +kernel
theorem dX2_bandsWithBest_37 : decode cX2_bandsWithBest 37 = .ok (.bipush (-4), 2) := by decide +kernel
theorem dX2_bandsWithBest_39 : decode cX2_bandsWithBest 39 = .ok (.ireturn, 1) := by decide +kernel
theorem dX2_bandsWithBest_40 : decode cX2_bandsWithBest 40 = .ok (.aload_n 0, 1) := by decide +kernel
theorem dX2_bandsWithBest_41 : decode cX2_bandsWithBest 41 = .ok (.getfield 10, 3) := by decide +kernel
theorem dX2_bandsWithBest_44 : decode cX2_bandsWithBest 44 = .ok (.aload_n 0, 1) := by decide +kernel
theorem dX2_bandsWithBest_45 : decode cX2_bandsWithBest 45 = .ok (.getfield 16, 3) := by decide +kernel
theorem dX2_bandsWithBest_48 : decode cX2_bandsWithBest 48 = .ok (.invokestatic 190, 3) := by decide +kernel
theorem dX2_bandsWithBest_51 : decode cX2_bandsWithBest 51 = .ok (.aload_n 0, 1) := by decide +kernel
theorem dX2_bandsWithBest_52 : decode cX2_bandsWithBest 52 = .ok (.getfield 16, 3) := by decide +kernel
theorem dX2_bandsWithBest_55 : decode cX2_bandsWithBest 55 = .ok (.iload_n 1, 1) := by decide +kernel
theorem dX2_bandsWithBest_56 : decode cX2_bandsWithBest 56 = .ok (.iload 4, 2) := by decide +kernel
theorem dX2_bandsWithBest_58 : decode cX2_bandsWithBest 58 = .ok (.bipush 100, 2) := by decide +kernel
theorem dX2_bandsWithBest_60 : decode cX2_bandsWithBest 60 = .ok (.idiv, 1) := by decide +kernel
theorem dX2_bandsWithBest_61 : decode cX2_bandsWithBest 61 = .ok (.iload 4, 2) := by decide +kernel
theorem dX2_bandsWithBest_63 : decode cX2_bandsWithBest 63 = .ok (.bipush 100, 2) := by decide +kernel
theorem dX2_bandsWithBest_65 : decode cX2_bandsWithBest 65 = .ok (.irem, 1) := by decide +kernel
theorem dX2_bandsWithBest_66 : decode cX2_bandsWithBest 66 = .ok (.invokevirtual 60, 3) := by decide +kernel
theorem dX2_bandsWithBest_69 : decode cX2_bandsWithBest 69 = .ok (.aload_n 0, 1) := by decide +kernel
theorem dX2_bandsWithBest_70 : decode cX2_bandsWithBest 70 = .ok (.aload_n 0, 1) := by decide +kernel
theorem dX2_bandsWithBest_71 : decode cX2_bandsWithBest 71 = .ok (.getfield 16, 3) := by decide +kernel
theorem dX2_bandsWithBest_74 : decode cX2_bandsWithBest 74 = .ok (.iconst 0, 1) := by decide +kernel
theorem dX2_bandsWithBest_75 : decode cX2_bandsWithBest 75 = .ok (.invokevirtual 160, 3) := by decide +kernel
theorem dX2_bandsWithBest_78 : decode cX2_bandsWithBest 78 = .ok (.ireturn, 1) := by decide +kernel
theorem dX2_isRange_0 : decode cX2_isRange 0 = .ok (.iload_n 0, 1) := by decide +kernel
theorem dX2_isRange_1 : decode cX2_isRange 1 = .ok (.iconst 1, 1) := by decide +kernel
theorem dX2_isRange_2 : decode cX2_isRange 2 = .ok (.if_icmp .lt 19, 3) := by decide +kernel
theorem dX2_isRange_5 : decode cX2_isRange 5 = .ok (.iload_n 1, 1) := by decide +kernel
theorem dX2_isRange_6 : decode cX2_isRange 6 = .ok (.iload_n 0, 1) := by decide +kernel
theorem dX2_isRange_7 : decode cX2_isRange 7 = .ok (.if_icmp .lt 14, 3) := by decide +kernel
theorem dX2_isRange_10 : decode cX2_isRange 10 = .ok (.iload_n 1, 1) := by decide +kernel
theorem dX2_isRange_11 : decode cX2_isRange 11 = .ok (.sipush 800, 3) := by decide +kernel
theorem dX2_isRange_14 : decode cX2_isRange 14 = .ok (.if_icmp .gt 7, 3) := by decide +kernel
theorem dX2_isRange_17 : decode cX2_isRange 17 = .ok (.iconst 1, 1) := by decide +kernel
theorem dX2_isRange_18 : decode cX2_isRange 18 = .ok (.goto 4, 3) := by decide +kernel
theorem dX2_isRange_21 : decode cX2_isRange 21 = .ok (.iconst 0, 1) := by decide +kernel
theorem dX2_isRange_22 : decode cX2_isRange 22 = .ok (.ireturn, 1) := by decide +kernel
theorem dX2_search_0 : decode cX2_search 0 = .ok (.aload_n 0, 1) := by decide +kernel
theorem dX2_search_1 : decode cX2_search 1 = .ok (.getfield 10, 3) := by decide +kernel
theorem dX2_search_4 : decode cX2_search 4 = .ok (.aload_n 0, 1) := by decide +kernel
theorem dX2_search_5 : decode cX2_search 5 = .ok (.getfield 16, 3) := by decide +kernel
theorem dX2_search_8 : decode cX2_search 8 = .ok (.invokestatic 190, 3) := by decide +kernel
theorem dX2_search_11 : decode cX2_search 11 = .ok (.bipush (-4), 2) := by decide +kernel
theorem dX2_search_13 : decode cX2_search 13 = .ok (.istore 4, 2) := by decide +kernel
theorem dX2_search_15 : decode cX2_search 15 = .ok (.iconst 0, 1) := by decide +kernel
theorem dX2_search_16 : decode cX2_search 16 = .ok (.istore 5, 2) := by decide +kernel
theorem dX2_search_18 : decode cX2_search 18 = .ok (.iconst 0, 1) := by decide +kernel
theorem dX2_search_19 : decode cX2_search 19 = .ok (.istore 6, 2) := by decide +kernel
theorem dX2_search_21 : decode cX2_search 21 = .ok (.iconst 1, 1) := by decide +kernel
theorem dX2_search_22 : decode cX2_search 22 = .ok (.istore 7, 2) := by decide +kernel
theorem dX2_search_24 : decode cX2_search 24 = .ok (.iload 7, 2) := by decide +kernel
theorem dX2_search_26 : decode cX2_search 26 = .ok (.bipush 20, 2) := by decide +kernel
theorem dX2_search_28 : decode cX2_search 28 = .ok (.if_icmp .gt 140, 3) := by decide +kernel
theorem dX2_search_31 : decode cX2_search 31 = .ok (.iconst 0, 1) := by decide +kernel
theorem dX2_search_32 : decode cX2_search 32 = .ok (.istore 8, 2) := by decide +kernel
theorem dX2_search_34 : decode cX2_search 34 = .ok (.iload 8, 2) := by decide +kernel
theorem dX2_search_36 : decode cX2_search 36 = .ok (.bipush 20, 2) := by decide +kernel
theorem dX2_search_38 : decode cX2_search 38 = .ok (.if_icmp .gt 124, 3) := by decide +kernel
theorem dX2_search_41 : decode cX2_search 41 = .ok (.iload 7, 2) := by decide +kernel
theorem dX2_search_43 : decode cX2_search 43 = .ok (.iload 7, 2) := by decide +kernel
theorem dX2_search_45 : decode cX2_search 45 = .ok (.imul, 1) := by decide +kernel
theorem dX2_search_46 : decode cX2_search 46 = .ok (.iload 8, 2) := by decide +kernel
theorem dX2_search_48 : decode cX2_search 48 = .ok (.iload 8, 2) := by decide +kernel
theorem dX2_search_50 : decode cX2_search 50 = .ok (.imul, 1) := by decide +kernel
theorem dX2_search_51 : decode cX2_search 51 = .ok (.iadd, 1) := by decide +kernel
theorem dX2_search_52 : decode cX2_search 52 = .ok (.istore 9, 2) := by decide +kernel
theorem dX2_search_54 : decode cX2_search 54 = .ok (.iload 9, 2) := by decide +kernel
theorem dX2_search_56 : decode cX2_search 56 = .ok (.iload_n 2, 1) := by decide +kernel
theorem dX2_search_57 : decode cX2_search 57 = .ok (.if_icmp .lt 99, 3) := by decide +kernel
theorem dX2_search_60 : decode cX2_search 60 = .ok (.iload 9, 2) := by decide +kernel
theorem dX2_search_62 : decode cX2_search 62 = .ok (.iload_n 3, 1) := by decide +kernel
theorem dX2_search_63 : decode cX2_search 63 = .ok (.if_icmp .le 6, 3) := by decide +kernel
theorem dX2_search_66 : decode cX2_search 66 = .ok (.goto 90, 3) := by decide +kernel
theorem dX2_search_69 : decode cX2_search 69 = .ok (.aload_n 0, 1) := by decide +kernel
theorem dX2_search_70 : decode cX2_search 70 = .ok (.getfield 16, 3) := by decide +kernel
theorem dX2_search_73 : decode cX2_search 73 = .ok (.iload_n 1, 1) := by decide +kernel
theorem dX2_search_74 : decode cX2_search 74 = .ok (.iload 7, 2) := by decide +kernel
theorem dX2_search_76 : decode cX2_search 76 = .ok (.iload 8, 2) := by decide +kernel
theorem dX2_search_78 : decode cX2_search 78 = .ok (.invokevirtual 60, 3) := by decide +kernel
theorem dX2_search_81 : decode cX2_search 81 = .ok (.aload_n 0, 1) := by decide +kernel
theorem dX2_search_82 : decode cX2_search 82 = .ok (.aload_n 0, 1) := by decide +kernel
theorem dX2_search_83 : decode cX2_search 83 = .ok (.getfield 16, 3) := by decide +kernel
theorem dX2_search_86 : decode cX2_search 86 = .ok (.iconst 1, 1) := by decide +kernel
theorem dX2_search_87 : decode cX2_search 87 = .ok (.iload_n 1, 1) := by decide +kernel
theorem dX2_search_88 : decode cX2_search 88 = .ok (.ishl, 1) := by decide +kernel
theorem dX2_search_89 : decode cX2_search 89 = .ok (.invokevirtual 160, 3) := by decide +kernel
theorem dX2_search_92 : decode cX2_search 92 = .ok (.istore 10, 2) := by decide +kernel
theorem dX2_search_94 : decode cX2_search 94 = .ok (.iload 9, 2) := by decide +kernel
theorem dX2_search_96 : decode cX2_search 96 = .ok (.aload_n 0, 1) := by decide +kernel
theorem dX2_search_97 : decode cX2_search 97 = .ok (.getfield 10, 3) := by decide +kernel
theorem dX2_search_100 : decode cX2_search 100 = .ok (.iload_n 1, 1) := by decide +kernel
theorem dX2_search_101 : decode cX2_search 101 = .ok (.invokevirtual 56, 3) := by decide +kernel
theorem dX2_search_104 : decode cX2_search 104 = .ok (.isub, 1) := by decide +kernel
theorem dX2_search_105 : decode cX2_search 105 = .ok (.invokestatic 194, 3) := by decide +kernel
theorem dX2_search_108 : decode cX2_search 108 = .ok (.istore 11, 2) := by decide +kernel
theorem dX2_search_110 : decode cX2_search 110 = .ok (.iload 4, 2) := by decide +kernel
theorem dX2_search_112 : decode cX2_search 112 = .ok (.bipush (-4), 2) := by decide +kernel
theorem dX2_search_114 : decode cX2_search 114 = .ok (.if_icmp .eq 24, 3) := by decide +kernel
theorem dX2_search_117 : decode cX2_search 117 = .ok (.iload 10, 2) := by decide +kernel
theorem dX2_search_119 : decode cX2_search 119 = .ok (.iload 5, 2) := by decide +kernel
theorem dX2_search_121 : decode cX2_search 121 = .ok (.if_icmp .lt 17, 3) := by decide +kernel
theorem dX2_search_124 : decode cX2_search 124 = .ok (.iload 10, 2) := by decide +kernel
theorem dX2_search_126 : decode cX2_search 126 = .ok (.iload 5, 2) := by decide +kernel
theorem dX2_search_128 : decode cX2_search 128 = .ok (.if_icmp .ne 28, 3) := by decide +kernel
theorem dX2_search_131 : decode cX2_search 131 = .ok (.iload 11, 2) := by decide +kernel
theorem dX2_search_133 : decode cX2_search 133 = .ok (.iload 6, 2) := by decide +kernel
theorem dX2_search_135 : decode cX2_search 135 = .ok (.if_icmp .ge 21, 3) := by decide +kernel
theorem dX2_search_138 : decode cX2_search 138 = .ok (.bipush 100, 2) := by decide +kernel
theorem dX2_search_140 : decode cX2_search 140 = .ok (.iload 7, 2) := by decide +kernel
theorem dX2_search_142 : decode cX2_search 142 = .ok (.imul, 1) := by decide +kernel
theorem dX2_search_143 : decode cX2_search 143 = .ok (.iload 8, 2) := by decide +kernel
theorem dX2_search_145 : decode cX2_search 145 = .ok (.iadd, 1) := by decide +kernel
theorem dX2_search_146 : decode cX2_search 146 = .ok (.istore 4, 2) := by decide +kernel
theorem dX2_search_148 : decode cX2_search 148 = .ok (.iload 10, 2) := by decide +kernel
theorem dX2_search_150 : decode cX2_search 150 = .ok (.istore 5, 2) := by decide +kernel
theorem dX2_search_152 : decode cX2_search 152 = .ok (.iload 11, 2) := by decide +kernel
theorem dX2_search_154 : decode cX2_search 154 = .ok (.istore 6, 2) := by decide +kernel
theorem dX2_search_156 : decode cX2_search 156 = .ok (.iinc 8 1, 3) := by decide +kernel
theorem dX2_search_159 : decode cX2_search 159 = .ok (.goto (-125), 3) := by decide +kernel
theorem dX2_search_162 : decode cX2_search 162 = .ok (.iinc 7 1, 3) := by decide +kernel
theorem dX2_search_165 : decode cX2_search 165 = .ok (.goto (-141), 3) := by decide +kernel
theorem dX2_search_168 : decode cX2_search 168 = .ok (.iload 4, 2) := by decide +kernel
theorem dX2_search_170 : decode cX2_search 170 = .ok (.ireturn, 1) := by decide +kernel
theorem dX2_save_0 : decode cX2_save 0 = .ok (.iload_n 1, 1) := by decide +kernel
theorem dX2_save_1 : decode cX2_save 1 = .ok (.invokestatic 199, 3) := by decide +kernel
theorem dX2_save_4 : decode cX2_save 4 = .ok (.ifCond .ne 5, 3) := by decide +kernel
theorem dX2_save_7 : decode cX2_save 7 = .ok (.iconst (-1), 1) := by decide +kernel
theorem dX2_save_8 : decode cX2_save 8 = .ok (.ireturn, 1) := by decide +kernel
theorem dX2_save_9 : decode cX2_save 9 = .ok (.aload_n 0, 1) := by decide +kernel
theorem dX2_save_10 : decode cX2_save 10 = .ok (.getfield 10, 3) := by decide +kernel
theorem dX2_save_13 : decode cX2_save 13 = .ok (.aload_n 0, 1) := by decide +kernel
theorem dX2_save_14 : decode cX2_save 14 = .ok (.getfield 23, 3) := by decide +kernel
theorem dX2_save_17 : decode cX2_save 17 = .ok (.iload_n 1, 1) := by decide +kernel
theorem dX2_save_18 : decode cX2_save 18 = .ok (.aaload, 1) := by decide +kernel
theorem dX2_save_19 : decode cX2_save 19 = .ok (.invokestatic 190, 3) := by decide +kernel
theorem dX2_save_22 : decode cX2_save 22 = .ok (.aload_n 0, 1) := by decide +kernel
theorem dX2_save_23 : decode cX2_save 23 = .ok (.getfield 26, 3) := by decide +kernel
theorem dX2_save_26 : decode cX2_save 26 = .ok (.iload_n 1, 1) := by decide +kernel
theorem dX2_save_27 : decode cX2_save 27 = .ok (.iconst 1, 1) := by decide +kernel
theorem dX2_save_28 : decode cX2_save 28 = .ok (.bastore, 1) := by decide +kernel
theorem dX2_save_29 : decode cX2_save 29 = .ok (.aload_n 0, 1) := by decide +kernel
theorem dX2_save_30 : decode cX2_save 30 = .ok (.getfield 10, 3) := by decide +kernel
theorem dX2_save_33 : decode cX2_save 33 = .ok (.getfield 41, 3) := by decide +kernel
theorem dX2_save_36 : decode cX2_save 36 = .ok (.ireturn, 1) := by decide +kernel
theorem dX2_restore_0 : decode cX2_restore 0 = .ok (.iload_n 1, 1) := by decide +kernel
theorem dX2_restore_1 : decode cX2_restore 1 = .ok (.invokestatic 199, 3) := by decide +kernel
theorem dX2_restore_4 : decode cX2_restore 4 = .ok (.ifCond .ne 5, 3) := by decide +kernel
theorem dX2_restore_7 : decode cX2_restore 7 = .ok (.iconst (-1), 1) := by decide +kernel
theorem dX2_restore_8 : decode cX2_restore 8 = .ok (.ireturn, 1) := by decide +kernel
theorem dX2_restore_9 : decode cX2_restore 9 = .ok (.aload_n 0, 1) := by decide +kernel
theorem dX2_restore_10 : decode cX2_restore 10 = .ok (.getfield 26, 3) := by decide +kernel
theorem dX2_restore_13 : decode cX2_restore 13 = .ok (.iload_n 1, 1) := by decide +kernel
theorem dX2_restore_14 : decode cX2_restore 14 = .ok (.baload, 1) := by decide +kernel
theorem dX2_restore_15 : decode cX2_restore 15 = .ok (.ifCond .ne 6, 3) := by decide +kernel
theorem dX2_restore_18 : decode cX2_restore 18 = .ok (.bipush (-2), 2) := by decide +kernel
theorem dX2_restore_20 : decode cX2_restore 20 = .ok (.ireturn, 1) := by decide +kernel
theorem dX2_restore_21 : decode cX2_restore 21 = .ok (.aload_n 0, 1) := by decide +kernel
theorem dX2_restore_22 : decode cX2_restore 22 = .ok (.invokevirtual 45, 3) := by decide +kernel
theorem dX2_restore_25 : decode cX2_restore 25 = .ok (.aload_n 0, 1) := by decide +kernel
theorem dX2_restore_26 : decode cX2_restore 26 = .ok (.getfield 23, 3) := by decide +kernel
theorem dX2_restore_29 : decode cX2_restore 29 = .ok (.iload_n 1, 1) := by decide +kernel
theorem dX2_restore_30 : decode cX2_restore 30 = .ok (.aaload, 1) := by decide +kernel
theorem dX2_restore_31 : decode cX2_restore 31 = .ok (.aload_n 0, 1) := by decide +kernel
theorem dX2_restore_32 : decode cX2_restore 32 = .ok (.getfield 10, 3) := by decide +kernel
theorem dX2_restore_35 : decode cX2_restore 35 = .ok (.invokestatic 190, 3) := by decide +kernel
theorem dX2_restore_38 : decode cX2_restore 38 = .ok (.aload_n 0, 1) := by decide +kernel
theorem dX2_restore_39 : decode cX2_restore 39 = .ok (.getfield 10, 3) := by decide +kernel
theorem dX2_restore_42 : decode cX2_restore 42 = .ok (.getfield 41, 3) := by decide +kernel
theorem dX2_restore_45 : decode cX2_restore 45 = .ok (.ireturn, 1) := by decide +kernel
theorem dX2_historySize_0 : decode cX2_historySize 0 = .ok (.aload_n 0, 1) := by decide +kernel
theorem dX2_historySize_1 : decode cX2_historySize 1 = .ok (.getfield 202, 3) := by decide +kernel
theorem dX2_historySize_4 : decode cX2_historySize 4 = .ok (.ireturn, 1) := by decide +kernel
theorem dX2_undo_0 : decode cX2_undo 0 = .ok (.aload_n 0, 1) := by decide +kernel
theorem dX2_undo_1 : decode cX2_undo 1 = .ok (.getfield 202, 3) := by decide +kernel
theorem dX2_undo_4 : decode cX2_undo 4 = .ok (.ifCond .le 11, 3) := by decide +kernel
theorem dX2_undo_7 : decode cX2_undo 7 = .ok (.aload_n 0, 1) := by decide +kernel
theorem dX2_undo_8 : decode cX2_undo 8 = .ok (.getfield 202, 3) := by decide +kernel
theorem dX2_undo_11 : decode cX2_undo 11 = .ok (.iconst 5, 1) := by decide +kernel
theorem dX2_undo_12 : decode cX2_undo 12 = .ok (.if_icmp .le 6, 3) := by decide +kernel
theorem dX2_undo_15 : decode cX2_undo 15 = .ok (.bipush (-2), 2) := by decide +kernel
theorem dX2_undo_17 : decode cX2_undo 17 = .ok (.ireturn, 1) := by decide +kernel
theorem dX2_undo_18 : decode cX2_undo 18 = .ok (.aload_n 0, 1) := by decide +kernel
theorem dX2_undo_19 : decode cX2_undo 19 = .ok (.dup, 1) := by decide +kernel
theorem dX2_undo_20 : decode cX2_undo 20 = .ok (.getfield 202, 3) := by decide +kernel
theorem dX2_undo_23 : decode cX2_undo 23 = .ok (.iconst 1, 1) := by decide +kernel
theorem dX2_undo_24 : decode cX2_undo 24 = .ok (.isub, 1) := by decide +kernel
theorem dX2_undo_25 : decode cX2_undo 25 = .ok (.putfield 202, 3) := by decide +kernel
theorem dX2_undo_28 : decode cX2_undo 28 = .ok (.aload_n 0, 1) := by decide +kernel
theorem dX2_undo_29 : decode cX2_undo 29 = .ok (.getfield 19, 3) := by decide +kernel
theorem dX2_undo_32 : decode cX2_undo 32 = .ok (.aload_n 0, 1) := by decide +kernel
theorem dX2_undo_33 : decode cX2_undo 33 = .ok (.getfield 202, 3) := by decide +kernel
theorem dX2_undo_36 : decode cX2_undo 36 = .ok (.aaload, 1) := by decide +kernel
theorem dX2_undo_37 : decode cX2_undo 37 = .ok (.aload_n 0, 1) := by decide +kernel
theorem dX2_undo_38 : decode cX2_undo 38 = .ok (.getfield 10, 3) := by decide +kernel
theorem dX2_undo_41 : decode cX2_undo 41 = .ok (.invokestatic 190, 3) := by decide +kernel
theorem dX2_undo_44 : decode cX2_undo 44 = .ok (.aload_n 0, 1) := by decide +kernel
theorem dX2_undo_45 : decode cX2_undo 45 = .ok (.getfield 202, 3) := by decide +kernel
theorem dX2_undo_48 : decode cX2_undo 48 = .ok (.ireturn, 1) := by decide +kernel
theorem dX2_isSlot_0 : decode cX2_isSlot 0 = .ok (.iload_n 0, 1) := by decide +kernel
theorem dX2_isSlot_1 : decode cX2_isSlot 1 = .ok (.ifCond .lt 12, 3) := by decide +kernel
theorem dX2_isSlot_4 : decode cX2_isSlot 4 = .ok (.iload_n 0, 1) := by decide +kernel
theorem dX2_isSlot_5 : decode cX2_isSlot 5 = .ok (.iconst 2, 1) := by decide +kernel
theorem dX2_isSlot_6 : decode cX2_isSlot 6 = .ok (.if_icmp .ge 7, 3) := by decide +kernel
theorem dX2_isSlot_9 : decode cX2_isSlot 9 = .ok (.iconst 1, 1) := by decide +kernel
theorem dX2_isSlot_10 : decode cX2_isSlot 10 = .ok (.goto 4, 3) := by decide +kernel
theorem dX2_isSlot_13 : decode cX2_isSlot 13 = .ok (.iconst 0, 1) := by decide +kernel
theorem dX2_isSlot_14 : decode cX2_isSlot 14 = .ok (.ireturn, 1) := by decide +kernel
theorem dX2_record_0 : decode cX2_record 0 = .ok (.aload_n 0, 1) := by decide +kernel
theorem dX2_record_1 : decode cX2_record 1 = .ok (.getfield 202, 3) := by decide +kernel
theorem dX2_record_4 : decode cX2_record 4 = .ok (.iconst 5, 1) := by decide +kernel
theorem dX2_record_5 : decode cX2_record 5 = .ok (.if_icmp .lt 7, 3) := by decide +kernel
theorem dX2_record_8 : decode cX2_record 8 = .ok (.aload_n 0, 1) := by decide +kernel
theorem dX2_record_9 : decode cX2_record 9 = .ok (.invokevirtual 205, 3) := by decide +kernel
theorem dX2_record_12 : decode cX2_record 12 = .ok (.aload_n 0, 1) := by decide +kernel
theorem dX2_record_13 : decode cX2_record 13 = .ok (.getfield 202, 3) := by decide +kernel
theorem dX2_record_16 : decode cX2_record 16 = .ok (.ifCond .lt 37, 3) := by decide +kernel
theorem dX2_record_19 : decode cX2_record 19 = .ok (.aload_n 0, 1) := by decide +kernel
theorem dX2_record_20 : decode cX2_record 20 = .ok (.getfield 202, 3) := by decide +kernel
theorem dX2_record_23 : decode cX2_record 23 = .ok (.iconst 5, 1) := by decide +kernel
theorem dX2_record_24 : decode cX2_record 24 = .ok (.if_icmp .ge 29, 3) := by decide +kernel
theorem dX2_record_27 : decode cX2_record 27 = .ok (.aload_n 0, 1) := by decide +kernel
theorem dX2_record_28 : decode cX2_record 28 = .ok (.getfield 10, 3) := by decide +kernel
theorem dX2_record_31 : decode cX2_record 31 = .ok (.aload_n 0, 1) := by decide +kernel
theorem dX2_record_32 : decode cX2_record 32 = .ok (.getfield 19, 3) := by decide +kernel
theorem dX2_record_35 : decode cX2_record 35 = .ok (.aload_n 0, 1) := by decide +kernel
theorem dX2_record_36 : decode cX2_record 36 = .ok (.getfield 202, 3) := by decide +kernel
theorem dX2_record_39 : decode cX2_record 39 = .ok (.aaload, 1) := by decide +kernel
theorem dX2_record_40 : decode cX2_record 40 = .ok (.invokestatic 190, 3) := by decide +kernel
theorem dX2_record_43 : decode cX2_record 43 = .ok (.aload_n 0, 1) := by decide +kernel
theorem dX2_record_44 : decode cX2_record 44 = .ok (.dup, 1) := by decide +kernel
theorem dX2_record_45 : decode cX2_record 45 = .ok (.getfield 202, 3) := by decide +kernel
theorem dX2_record_48 : decode cX2_record 48 = .ok (.iconst 1, 1) := by decide +kernel
theorem dX2_record_49 : decode cX2_record 49 = .ok (.iadd, 1) := by decide +kernel
theorem dX2_record_50 : decode cX2_record 50 = .ok (.putfield 202, 3) := by decide +kernel
theorem dX2_record_53 : decode cX2_record 53 = .ok (.return_, 1) := by decide +kernel
theorem dX2_dropOldest_0 : decode cX2_dropOldest 0 = .ok (.aload_n 0, 1) := by decide +kernel
theorem dX2_dropOldest_1 : decode cX2_dropOldest 1 = .ok (.getfield 19, 3) := by decide +kernel
theorem dX2_dropOldest_4 : decode cX2_dropOldest 4 = .ok (.iconst 0, 1) := by decide +kernel
theorem dX2_dropOldest_5 : decode cX2_dropOldest 5 = .ok (.aaload, 1) := by decide +kernel
theorem dX2_dropOldest_6 : decode cX2_dropOldest 6 = .ok (.astore_n 1, 1) := by decide +kernel
theorem dX2_dropOldest_7 : decode cX2_dropOldest 7 = .ok (.iconst 1, 1) := by decide +kernel
theorem dX2_dropOldest_8 : decode cX2_dropOldest 8 = .ok (.istore_n 2, 1) := by decide +kernel
theorem dX2_dropOldest_9 : decode cX2_dropOldest 9 = .ok (.iload_n 2, 1) := by decide +kernel
theorem dX2_dropOldest_10 : decode cX2_dropOldest 10 = .ok (.iconst 5, 1) := by decide +kernel
theorem dX2_dropOldest_11 : decode cX2_dropOldest 11 = .ok (.if_icmp .ge 23, 3) := by decide +kernel
theorem dX2_dropOldest_14 : decode cX2_dropOldest 14 = .ok (.aload_n 0, 1) := by decide +kernel
theorem dX2_dropOldest_15 : decode cX2_dropOldest 15 = .ok (.getfield 19, 3) := by decide +kernel
theorem dX2_dropOldest_18 : decode cX2_dropOldest 18 = .ok (.iload_n 2, 1) := by decide +kernel
theorem dX2_dropOldest_19 : decode cX2_dropOldest 19 = .ok (.iconst 1, 1) := by decide +kernel
theorem dX2_dropOldest_20 : decode cX2_dropOldest 20 = .ok (.isub, 1) := by decide +kernel
theorem dX2_dropOldest_21 : decode cX2_dropOldest 21 = .ok (.aload_n 0, 1) := by decide +kernel
theorem dX2_dropOldest_22 : decode cX2_dropOldest 22 = .ok (.getfield 19, 3) := by decide +kernel
theorem dX2_dropOldest_25 : decode cX2_dropOldest 25 = .ok (.iload_n 2, 1) := by decide +kernel
theorem dX2_dropOldest_26 : decode cX2_dropOldest 26 = .ok (.aaload, 1) := by decide +kernel
theorem dX2_dropOldest_27 : decode cX2_dropOldest 27 = .ok (.aastore, 1) := by decide +kernel
theorem dX2_dropOldest_28 : decode cX2_dropOldest 28 = .ok (.iinc 2 1, 3) := by decide +kernel
theorem dX2_dropOldest_31 : decode cX2_dropOldest 31 = .ok (.goto (-22), 3) := by decide +kernel
theorem dX2_dropOldest_34 : decode cX2_dropOldest 34 = .ok (.aload_n 0, 1) := by decide +kernel
theorem dX2_dropOldest_35 : decode cX2_dropOldest 35 = .ok (.getfield 19, 3) := by decide +kernel
theorem dX2_dropOldest_38 : decode cX2_dropOldest 38 = .ok (.iconst 4, 1) := by decide +kernel
theorem dX2_dropOldest_39 : decode cX2_dropOldest 39 = .ok (.aload_n 1, 1) := by decide +kernel
theorem dX2_dropOldest_40 : decode cX2_dropOldest 40 = .ok (.aastore, 1) := by decide +kernel
theorem dX2_dropOldest_41 : decode cX2_dropOldest 41 = .ok (.aload_n 0, 1) := by decide +kernel
theorem dX2_dropOldest_42 : decode cX2_dropOldest 42 = .ok (.iconst 4, 1) := by decide +kernel
theorem dX2_dropOldest_43 : decode cX2_dropOldest 43 = .ok (.putfield 202, 3) := by decide +kernel
theorem dX2_dropOldest_46 : decode cX2_dropOldest 46 = .ok (.return_, 1) := by decide +kernel
theorem dX2_copy_0 : decode cX2_copy 0 = .ok (.aload_n 0, 1) := by decide +kernel
theorem dX2_copy_1 : decode cX2_copy 1 = .ok (.ifnull 7, 3) := by decide +kernel
theorem dX2_copy_4 : decode cX2_copy 4 = .ok (.aload_n 1, 1) := by decide +kernel
theorem dX2_copy_5 : decode cX2_copy 5 = .ok (.ifnonnull 4, 3) := by decide +kernel
theorem dX2_copy_8 : decode cX2_copy 8 = .ok (.return_, 1) := by decide +kernel
theorem dX2_copy_9 : decode cX2_copy 9 = .ok (.iconst 0, 1) := by decide +kernel
theorem dX2_copy_10 : decode cX2_copy 10 = .ok (.istore_n 2, 1) := by decide +kernel
theorem dX2_copy_11 : decode cX2_copy 11 = .ok (.iload_n 2, 1) := by decide +kernel
theorem dX2_copy_12 : decode cX2_copy 12 = .ok (.iconst 4, 1) := by decide +kernel
theorem dX2_copy_13 : decode cX2_copy 13 = .ok (.if_icmp .ge 33, 3) := by decide +kernel
theorem dX2_copy_16 : decode cX2_copy 16 = .ok (.aload_n 1, 1) := by decide +kernel
theorem dX2_copy_17 : decode cX2_copy 17 = .ok (.getfield 208, 3) := by decide +kernel
theorem dX2_copy_20 : decode cX2_copy 20 = .ok (.iload_n 2, 1) := by decide +kernel
theorem dX2_copy_21 : decode cX2_copy 21 = .ok (.aload_n 0, 1) := by decide +kernel
theorem dX2_copy_22 : decode cX2_copy 22 = .ok (.getfield 208, 3) := by decide +kernel
theorem dX2_copy_25 : decode cX2_copy 25 = .ok (.iload_n 2, 1) := by decide +kernel
theorem dX2_copy_26 : decode cX2_copy 26 = .ok (.iaload, 1) := by decide +kernel
theorem dX2_copy_27 : decode cX2_copy 27 = .ok (.iastore, 1) := by decide +kernel
theorem dX2_copy_28 : decode cX2_copy 28 = .ok (.aload_n 1, 1) := by decide +kernel
theorem dX2_copy_29 : decode cX2_copy 29 = .ok (.getfield 211, 3) := by decide +kernel
theorem dX2_copy_32 : decode cX2_copy 32 = .ok (.iload_n 2, 1) := by decide +kernel
theorem dX2_copy_33 : decode cX2_copy 33 = .ok (.aload_n 0, 1) := by decide +kernel
theorem dX2_copy_34 : decode cX2_copy 34 = .ok (.getfield 211, 3) := by decide +kernel
theorem dX2_copy_37 : decode cX2_copy 37 = .ok (.iload_n 2, 1) := by decide +kernel
theorem dX2_copy_38 : decode cX2_copy 38 = .ok (.iaload, 1) := by decide +kernel
theorem dX2_copy_39 : decode cX2_copy 39 = .ok (.iastore, 1) := by decide +kernel
theorem dX2_copy_40 : decode cX2_copy 40 = .ok (.iinc 2 1, 3) := by decide +kernel
theorem dX2_copy_43 : decode cX2_copy 43 = .ok (.goto (-32), 3) := by decide +kernel
theorem dX2_copy_46 : decode cX2_copy 46 = .ok (.aload_n 1, 1) := by decide +kernel
theorem dX2_copy_47 : decode cX2_copy 47 = .ok (.aload_n 0, 1) := by decide +kernel
theorem dX2_copy_48 : decode cX2_copy 48 = .ok (.getfield 41, 3) := by decide +kernel
theorem dX2_copy_51 : decode cX2_copy 51 = .ok (.putfield 41, 3) := by decide +kernel
theorem dX2_copy_54 : decode cX2_copy 54 = .ok (.aload_n 1, 1) := by decide +kernel
theorem dX2_copy_55 : decode cX2_copy 55 = .ok (.aload_n 0, 1) := by decide +kernel
theorem dX2_copy_56 : decode cX2_copy 56 = .ok (.getfield 88, 3) := by decide +kernel
theorem dX2_copy_59 : decode cX2_copy 59 = .ok (.putfield 88, 3) := by decide +kernel
theorem dX2_copy_62 : decode cX2_copy 62 = .ok (.aload_n 1, 1) := by decide +kernel
theorem dX2_copy_63 : decode cX2_copy 63 = .ok (.aload_n 0, 1) := by decide +kernel
theorem dX2_copy_64 : decode cX2_copy 64 = .ok (.getfield 91, 3) := by decide +kernel
theorem dX2_copy_67 : decode cX2_copy 67 = .ok (.putfield 91, 3) := by decide +kernel
theorem dX2_copy_70 : decode cX2_copy 70 = .ok (.aload_n 1, 1) := by decide +kernel
theorem dX2_copy_71 : decode cX2_copy 71 = .ok (.aload_n 0, 1) := by decide +kernel
theorem dX2_copy_72 : decode cX2_copy 72 = .ok (.getfield 94, 3) := by decide +kernel
theorem dX2_copy_75 : decode cX2_copy 75 = .ok (.putfield 94, 3) := by decide +kernel
theorem dX2_copy_78 : decode cX2_copy 78 = .ok (.return_, 1) := by decide +kernel
theorem dX2_realPart_0 : decode cX2_realPart 0 = .ok (.iload_n 2, 1) := by decide +kernel
theorem dX2_realPart_1 : decode cX2_realPart 1 = .ok (.iload_n 0, 1) := by decide +kernel
theorem dX2_realPart_2 : decode cX2_realPart 2 = .ok (.imul, 1) := by decide +kernel
theorem dX2_realPart_3 : decode cX2_realPart 3 = .ok (.iload_n 3, 1) := by decide +kernel
theorem dX2_realPart_4 : decode cX2_realPart 4 = .ok (.iload_n 1, 1) := by decide +kernel
theorem dX2_realPart_5 : decode cX2_realPart 5 = .ok (.imul, 1) := by decide +kernel
theorem dX2_realPart_6 : decode cX2_realPart 6 = .ok (.iadd, 1) := by decide +kernel
theorem dX2_realPart_7 : decode cX2_realPart 7 = .ok (.ireturn, 1) := by decide +kernel
theorem dX2_imaginaryPart_0 : decode cX2_imaginaryPart 0 = .ok (.iload_n 3, 1) := by decide +kernel
theorem dX2_imaginaryPart_1 : decode cX2_imaginaryPart 1 = .ok (.iload_n 0, 1) := by decide +kernel
theorem dX2_imaginaryPart_2 : decode cX2_imaginaryPart 2 = .ok (.imul, 1) := by decide +kernel
theorem dX2_imaginaryPart_3 : decode cX2_imaginaryPart 3 = .ok (.iload_n 2, 1) := by decide +kernel
theorem dX2_imaginaryPart_4 : decode cX2_imaginaryPart 4 = .ok (.iload_n 1, 1) := by decide +kernel
theorem dX2_imaginaryPart_5 : decode cX2_imaginaryPart 5 = .ok (.imul, 1) := by decide +kernel
theorem dX2_imaginaryPart_6 : decode cX2_imaginaryPart 6 = .ok (.isub, 1) := by decide +kernel
theorem dX2_imaginaryPart_7 : decode cX2_imaginaryPart 7 = .ok (.ireturn, 1) := by decide +kernel
theorem dX2_gcd_0 : decode cX2_gcd 0 = .ok (.lload_n 0, 1) := by decide +kernel
theorem dX2_gcd_1 : decode cX2_gcd 1 = .ok (.lstore 4, 2) := by decide +kernel
theorem dX2_gcd_3 : decode cX2_gcd 3 = .ok (.lload_n 2, 1) := by decide +kernel
theorem dX2_gcd_4 : decode cX2_gcd 4 = .ok (.lstore 6, 2) := by decide +kernel
theorem dX2_gcd_6 : decode cX2_gcd 6 = .ok (.iconst 0, 1) := by decide +kernel
theorem dX2_gcd_7 : decode cX2_gcd 7 = .ok (.istore 8, 2) := by decide +kernel
theorem dX2_gcd_9 : decode cX2_gcd 9 = .ok (.iload 8, 2) := by decide +kernel
theorem dX2_gcd_11 : decode cX2_gcd 11 = .ok (.bipush 100, 2) := by decide +kernel
theorem dX2_gcd_13 : decode cX2_gcd 13 = .ok (.if_icmp .ge 31, 3) := by decide +kernel
theorem dX2_gcd_16 : decode cX2_gcd 16 = .ok (.lload 6, 2) := by decide +kernel
theorem dX2_gcd_18 : decode cX2_gcd 18 = .ok (.lconst 0, 1) := by decide +kernel
theorem dX2_gcd_19 : decode cX2_gcd 19 = .ok (.lcmp, 1) := by decide +kernel
theorem dX2_gcd_20 : decode cX2_gcd 20 = .ok (.ifCond .eq 24, 3) := by decide +kernel
theorem dX2_gcd_23 : decode cX2_gcd 23 = .ok (.lload 4, 2) := by decide +kernel
theorem dX2_gcd_25 : decode cX2_gcd 25 = .ok (.lload 6, 2) := by decide +kernel
theorem dX2_gcd_27 : decode cX2_gcd 27 = .ok (.lrem, 1) := by decide +kernel
theorem dX2_gcd_28 : decode cX2_gcd 28 = .ok (.lstore 9, 2) := by decide +kernel
theorem dX2_gcd_30 : decode cX2_gcd 30 = .ok (.lload 6, 2) := by decide +kernel
theorem dX2_gcd_32 : decode cX2_gcd 32 = .ok (.lstore 4, 2) := by decide +kernel
theorem dX2_gcd_34 : decode cX2_gcd 34 = .ok (.lload 9, 2) := by decide +kernel
theorem dX2_gcd_36 : decode cX2_gcd 36 = .ok (.lstore 6, 2) := by decide +kernel
theorem dX2_gcd_38 : decode cX2_gcd 38 = .ok (.iinc 8 1, 3) := by decide +kernel
theorem dX2_gcd_41 : decode cX2_gcd 41 = .ok (.goto (-32), 3) := by decide +kernel
theorem dX2_gcd_44 : decode cX2_gcd 44 = .ok (.lload 4, 2) := by decide +kernel
theorem dX2_gcd_46 : decode cX2_gcd 46 = .ok (.lreturn, 1) := by decide +kernel
theorem dX2_divided_0 : decode cX2_divided 0 = .ok (.lload_n 2, 1) := by decide +kernel
theorem dX2_divided_1 : decode cX2_divided 1 = .ok (.lconst 0, 1) := by decide +kernel
theorem dX2_divided_2 : decode cX2_divided 2 = .ok (.lcmp, 1) := by decide +kernel
theorem dX2_divided_3 : decode cX2_divided 3 = .ok (.ifCond .le 9, 3) := by decide +kernel
theorem dX2_divided_6 : decode cX2_divided 6 = .ok (.lload_n 0, 1) := by decide +kernel
theorem dX2_divided_7 : decode cX2_divided 7 = .ok (.lload_n 2, 1) := by decide +kernel
theorem dX2_divided_8 : decode cX2_divided 8 = .ok (.ldiv, 1) := by decide +kernel
theorem dX2_divided_9 : decode cX2_divided 9 = .ok (.goto 4, 3) := by decide +kernel
theorem dX2_divided_12 : decode cX2_divided 12 = .ok (.lconst 0, 1) := by decide +kernel
theorem dX2_divided_13 : decode cX2_divided 13 = .ok (.lreturn, 1) := by decide +kernel
theorem dX2_root_0 : decode cX2_root 0 = .ok (.iconst 0, 1) := by decide +kernel
theorem dX2_root_1 : decode cX2_root 1 = .ok (.istore_n 2, 1) := by decide +kernel
theorem dX2_root_2 : decode cX2_root 2 = .ok (.sipush 16384, 3) := by decide +kernel
theorem dX2_root_5 : decode cX2_root 5 = .ok (.istore_n 3, 1) := by decide +kernel
theorem dX2_root_6 : decode cX2_root 6 = .ok (.iload_n 3, 1) := by decide +kernel
theorem dX2_root_7 : decode cX2_root 7 = .ok (.ifCond .le 30, 3) := by decide +kernel
theorem dX2_root_10 : decode cX2_root 10 = .ok (.iload_n 2, 1) := by decide +kernel
theorem dX2_root_11 : decode cX2_root 11 = .ok (.iload_n 3, 1) := by decide +kernel
theorem dX2_root_12 : decode cX2_root 12 = .ok (.iadd, 1) := by decide +kernel
theorem dX2_root_13 : decode cX2_root 13 = .ok (.i2l, 1) := by decide +kernel
theorem dX2_root_14 : decode cX2_root 14 = .ok (.lstore 4, 2) := by decide +kernel
theorem dX2_root_16 : decode cX2_root 16 = .ok (.lload 4, 2) := by decide +kernel
theorem dX2_root_18 : decode cX2_root 18 = .ok (.lload 4, 2) := by decide +kernel
theorem dX2_root_20 : decode cX2_root 20 = .ok (.lmul, 1) := by decide +kernel
theorem dX2_root_21 : decode cX2_root 21 = .ok (.lload_n 0, 1) := by decide +kernel
theorem dX2_root_22 : decode cX2_root 22 = .ok (.lcmp, 1) := by decide +kernel
theorem dX2_root_23 : decode cX2_root 23 = .ok (.ifCond .gt 7, 3) := by decide +kernel
theorem dX2_root_26 : decode cX2_root 26 = .ok (.iload_n 2, 1) := by decide +kernel
theorem dX2_root_27 : decode cX2_root 27 = .ok (.iload_n 3, 1) := by decide +kernel
theorem dX2_root_28 : decode cX2_root 28 = .ok (.iadd, 1) := by decide +kernel
theorem dX2_root_29 : decode cX2_root 29 = .ok (.istore_n 2, 1) := by decide +kernel
theorem dX2_root_30 : decode cX2_root 30 = .ok (.iload_n 3, 1) := by decide +kernel
theorem dX2_root_31 : decode cX2_root 31 = .ok (.iconst 1, 1) := by decide +kernel
theorem dX2_root_32 : decode cX2_root 32 = .ok (.ishr, 1) := by decide +kernel
theorem dX2_root_33 : decode cX2_root 33 = .ok (.istore_n 3, 1) := by decide +kernel
theorem dX2_root_34 : decode cX2_root 34 = .ok (.goto (-28), 3) := by decide +kernel
theorem dX2_root_37 : decode cX2_root 37 = .ok (.iload_n 2, 1) := by decide +kernel
theorem dX2_root_38 : decode cX2_root 38 = .ok (.ireturn, 1) := by decide +kernel

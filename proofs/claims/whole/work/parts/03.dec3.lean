theorem dX3_init_0 : decode cX3_init 0 = .ok (.aload_n 0, 1) := by decide +kernel
theorem dX3_init_1 : decode cX3_init 1 = .ok (.invokespecial 1, 3) := by decide +kernel
theorem dX3_init_4 : decode cX3_init 4 = .ok (.aload_n 0, 1) := by decide +kernel
theorem dX3_init_5 : decode cX3_init 5 = .ok (.bipush 12, 2) := by decide +kernel
theorem dX3_init_7 : decode cX3_init 7 = .ok (.newarray .int, 2) := by decide +kernel
theorem dX3_init_9 : decode cX3_init 9 = .ok (.putfield 7, 3) := by decide +kernel
theorem dX3_init_12 : decode cX3_init 12 = .ok (.aload_n 0, 1) := by decide +kernel
theorem dX3_init_13 : decode cX3_init 13 = .ok (.bipush 60, 2) := by decide +kernel
theorem dX3_init_15 : decode cX3_init 15 = .ok (.newarray .int, 2) := by decide +kernel
theorem dX3_init_17 : decode cX3_init 17 = .ok (.putfield 13, 3) := by decide +kernel
theorem dX3_init_20 : decode cX3_init 20 = .ok (.aload_n 0, 1) := by decide +kernel
theorem dX3_init_21 : decode cX3_init 21 = .ok (.bipush 26, 2) := by decide +kernel
theorem dX3_init_23 : decode cX3_init 23 = .ok (.newarray .int, 2) := by decide +kernel
theorem dX3_init_25 : decode cX3_init 25 = .ok (.putfield 16, 3) := by decide +kernel
theorem dX3_init_28 : decode cX3_init 28 = .ok (.aload_n 0, 1) := by decide +kernel
theorem dX3_init_29 : decode cX3_init 29 = .ok (.sipush 576, 3) := by decide +kernel
theorem dX3_init_32 : decode cX3_init 32 = .ok (.newarray .long, 2) := by decide +kernel
theorem dX3_init_34 : decode cX3_init 34 = .ok (.putfield 19, 3) := by decide +kernel
theorem dX3_init_37 : decode cX3_init 37 = .ok (.aload_n 0, 1) := by decide +kernel
theorem dX3_init_38 : decode cX3_init 38 = .ok (.getfield 7, 3) := by decide +kernel
theorem dX3_init_41 : decode cX3_init 41 = .ok (.iconst 1, 1) := by decide +kernel
theorem dX3_init_42 : decode cX3_init 42 = .ok (.iconst 1, 1) := by decide +kernel
theorem dX3_init_43 : decode cX3_init 43 = .ok (.iastore, 1) := by decide +kernel
theorem dX3_init_44 : decode cX3_init 44 = .ok (.aload_n 0, 1) := by decide +kernel
theorem dX3_init_45 : decode cX3_init 45 = .ok (.getfield 7, 3) := by decide +kernel
theorem dX3_init_48 : decode cX3_init 48 = .ok (.iconst 2, 1) := by decide +kernel
theorem dX3_init_49 : decode cX3_init 49 = .ok (.bipush 10, 2) := by decide +kernel
theorem dX3_init_51 : decode cX3_init 51 = .ok (.iastore, 1) := by decide +kernel
theorem dX3_init_52 : decode cX3_init 52 = .ok (.aload_n 0, 1) := by decide +kernel
theorem dX3_init_53 : decode cX3_init 53 = .ok (.getfield 7, 3) := by decide +kernel
theorem dX3_init_56 : decode cX3_init 56 = .ok (.iconst 3, 1) := by decide +kernel
theorem dX3_init_57 : decode cX3_init 57 = .ok (.sipush 500, 3) := by decide +kernel
theorem dX3_init_60 : decode cX3_init 60 = .ok (.iastore, 1) := by decide +kernel
theorem dX3_init_61 : decode cX3_init 61 = .ok (.return_, 1) := by decide +kernel
theorem dX3_in_0 : decode cX3_in 0 = .ok (.iload_n 0, 1) := by decide +kernel
theorem dX3_in_1 : decode cX3_in 1 = .ok (.iload_n 1, 1) := by decide +kernel
theorem dX3_in_2 : decode cX3_in 2 = .ok (.if_icmp .lt 12, 3) := by decide +kernel
theorem dX3_in_5 : decode cX3_in 5 = .ok (.iload_n 0, 1) := by decide +kernel
theorem dX3_in_6 : decode cX3_in 6 = .ok (.iload_n 2, 1) := by decide +kernel
theorem dX3_in_7 : decode cX3_in 7 = .ok (.if_icmp .gt 7, 3) := by decide +kernel
theorem dX3_in_10 : decode cX3_in 10 = .ok (.iconst 1, 1) := by decide +kernel
theorem dX3_in_11 : decode cX3_in 11 = .ok (.goto 4, 3) := by decide +kernel
theorem dX3_in_14 : decode cX3_in 14 = .ok (.iconst 0, 1) := by decide +kernel
theorem dX3_in_15 : decode cX3_in 15 = .ok (.ireturn, 1) := by decide +kernel
theorem dX3_records_0 : decode cX3_records 0 = .ok (.aload_n 0, 1) := by decide +kernel
theorem dX3_records_1 : decode cX3_records 1 = .ok (.getfield 23, 3) := by decide +kernel
theorem dX3_records_4 : decode cX3_records 4 = .ok (.iconst 5, 1) := by decide +kernel
theorem dX3_records_5 : decode cX3_records 5 = .ok (.if_icmp .ne 42, 3) := by decide +kernel
theorem dX3_records_8 : decode cX3_records 8 = .ok (.iconst 0, 1) := by decide +kernel
theorem dX3_records_9 : decode cX3_records 9 = .ok (.istore_n 1, 1) := by decide +kernel
theorem dX3_records_10 : decode cX3_records 10 = .ok (.iload_n 1, 1) := by decide +kernel
theorem dX3_records_11 : decode cX3_records 11 = .ok (.bipush 48, 2) := by decide +kernel
theorem dX3_records_13 : decode cX3_records 13 = .ok (.if_icmp .ge 24, 3) := by decide +kernel
theorem dX3_records_16 : decode cX3_records 16 = .ok (.aload_n 0, 1) := by decide +kernel
theorem dX3_records_17 : decode cX3_records 17 = .ok (.getfield 13, 3) := by decide +kernel
theorem dX3_records_20 : decode cX3_records 20 = .ok (.iload_n 1, 1) := by decide +kernel
theorem dX3_records_21 : decode cX3_records 21 = .ok (.aload_n 0, 1) := by decide +kernel
theorem dX3_records_22 : decode cX3_records 22 = .ok (.getfield 13, 3) := by decide +kernel
theorem dX3_records_25 : decode cX3_records 25 = .ok (.iload_n 1, 1) := by decide +kernel
theorem dX3_records_26 : decode cX3_records 26 = .ok (.bipush 12, 2) := by decide +kernel
theorem dX3_records_28 : decode cX3_records 28 = .ok (.iadd, 1) := by decide +kernel
theorem dX3_records_29 : decode cX3_records 29 = .ok (.iaload, 1) := by decide +kernel
theorem dX3_records_30 : decode cX3_records 30 = .ok (.iastore, 1) := by decide +kernel
theorem dX3_records_31 : decode cX3_records 31 = .ok (.iinc 1 1, 3) := by decide +kernel
theorem dX3_records_34 : decode cX3_records 34 = .ok (.goto (-24), 3) := by decide +kernel
theorem dX3_records_37 : decode cX3_records 37 = .ok (.aload_n 0, 1) := by decide +kernel
theorem dX3_records_38 : decode cX3_records 38 = .ok (.dup, 1) := by decide +kernel
theorem dX3_records_39 : decode cX3_records 39 = .ok (.getfield 23, 3) := by decide +kernel
theorem dX3_records_42 : decode cX3_records 42 = .ok (.iconst 1, 1) := by decide +kernel
theorem dX3_records_43 : decode cX3_records 43 = .ok (.isub, 1) := by decide +kernel
theorem dX3_records_44 : decode cX3_records 44 = .ok (.putfield 23, 3) := by decide +kernel
theorem dX3_records_47 : decode cX3_records 47 = .ok (.iconst 0, 1) := by decide +kernel
theorem dX3_records_48 : decode cX3_records 48 = .ok (.istore_n 1, 1) := by decide +kernel
theorem dX3_records_49 : decode cX3_records 49 = .ok (.iload_n 1, 1) := by decide +kernel
theorem dX3_records_50 : decode cX3_records 50 = .ok (.bipush 12, 2) := by decide +kernel
theorem dX3_records_52 : decode cX3_records 52 = .ok (.if_icmp .ge 29, 3) := by decide +kernel
theorem dX3_records_55 : decode cX3_records 55 = .ok (.aload_n 0, 1) := by decide +kernel
theorem dX3_records_56 : decode cX3_records 56 = .ok (.getfield 13, 3) := by decide +kernel
theorem dX3_records_59 : decode cX3_records 59 = .ok (.bipush 12, 2) := by decide +kernel
theorem dX3_records_61 : decode cX3_records 61 = .ok (.aload_n 0, 1) := by decide +kernel
theorem dX3_records_62 : decode cX3_records 62 = .ok (.getfield 23, 3) := by decide +kernel
theorem dX3_records_65 : decode cX3_records 65 = .ok (.imul, 1) := by decide +kernel
theorem dX3_records_66 : decode cX3_records 66 = .ok (.iload_n 1, 1) := by decide +kernel
theorem dX3_records_67 : decode cX3_records 67 = .ok (.iadd, 1) := by decide +kernel
theorem dX3_records_68 : decode cX3_records 68 = .ok (.aload_n 0, 1) := by decide +kernel
theorem dX3_records_69 : decode cX3_records 69 = .ok (.getfield 7, 3) := by decide +kernel
theorem dX3_records_72 : decode cX3_records 72 = .ok (.iload_n 1, 1) := by decide +kernel
theorem dX3_records_73 : decode cX3_records 73 = .ok (.iaload, 1) := by decide +kernel
theorem dX3_records_74 : decode cX3_records 74 = .ok (.iastore, 1) := by decide +kernel
theorem dX3_records_75 : decode cX3_records 75 = .ok (.iinc 1 1, 3) := by decide +kernel
theorem dX3_records_78 : decode cX3_records 78 = .ok (.goto (-29), 3) := by decide +kernel
theorem dX3_records_81 : decode cX3_records 81 = .ok (.aload_n 0, 1) := by decide +kernel
theorem dX3_records_82 : decode cX3_records 82 = .ok (.dup, 1) := by decide +kernel
theorem dX3_records_83 : decode cX3_records 83 = .ok (.getfield 23, 3) := by decide +kernel
theorem dX3_records_86 : decode cX3_records 86 = .ok (.iconst 1, 1) := by decide +kernel
theorem dX3_records_87 : decode cX3_records 87 = .ok (.iadd, 1) := by decide +kernel
theorem dX3_records_88 : decode cX3_records 88 = .ok (.putfield 23, 3) := by decide +kernel
theorem dX3_records_91 : decode cX3_records 91 = .ok (.return_, 1) := by decide +kernel
theorem dX3_isPlate_0 : decode cX3_isPlate 0 = .ok (.iload_n 1, 1) := by decide +kernel
theorem dX3_isPlate_1 : decode cX3_isPlate 1 = .ok (.iconst 0, 1) := by decide +kernel
theorem dX3_isPlate_2 : decode cX3_isPlate 2 = .ok (.aload_n 0, 1) := by decide +kernel
theorem dX3_isPlate_3 : decode cX3_isPlate 3 = .ok (.getfield 7, 3) := by decide +kernel
theorem dX3_isPlate_6 : decode cX3_isPlate 6 = .ok (.iconst 0, 1) := by decide +kernel
theorem dX3_isPlate_7 : decode cX3_isPlate 7 = .ok (.iaload, 1) := by decide +kernel
theorem dX3_isPlate_8 : decode cX3_isPlate 8 = .ok (.iconst 1, 1) := by decide +kernel
theorem dX3_isPlate_9 : decode cX3_isPlate 9 = .ok (.isub, 1) := by decide +kernel
theorem dX3_isPlate_10 : decode cX3_isPlate 10 = .ok (.invokestatic 27, 3) := by decide +kernel
theorem dX3_isPlate_13 : decode cX3_isPlate 13 = .ok (.ireturn, 1) := by decide +kernel
theorem dX3_isPair_0 : decode cX3_isPair 0 = .ok (.aload_n 0, 1) := by decide +kernel
theorem dX3_isPair_1 : decode cX3_isPair 1 = .ok (.iload_n 1, 1) := by decide +kernel
theorem dX3_isPair_2 : decode cX3_isPair 2 = .ok (.invokevirtual 31, 3) := by decide +kernel
theorem dX3_isPair_5 : decode cX3_isPair 5 = .ok (.ifCond .eq 20, 3) := by decide +kernel
theorem dX3_isPair_8 : decode cX3_isPair 8 = .ok (.aload_n 0, 1) := by decide +kernel
theorem dX3_isPair_9 : decode cX3_isPair 9 = .ok (.iload_n 2, 1) := by decide +kernel
theorem dX3_isPair_10 : decode cX3_isPair 10 = .ok (.invokevirtual 31, 3) := by decide +kernel
theorem dX3_isPair_13 : decode cX3_isPair 13 = .ok (.ifCond .eq 12, 3) := by decide +kernel
theorem dX3_isPair_16 : decode cX3_isPair 16 = .ok (.iload_n 1, 1) := by decide +kernel
theorem dX3_isPair_17 : decode cX3_isPair 17 = .ok (.iload_n 2, 1) := by decide +kernel
theorem dX3_isPair_18 : decode cX3_isPair 18 = .ok (.if_icmp .ge 7, 3) := by decide +kernel
theorem dX3_isPair_21 : decode cX3_isPair 21 = .ok (.iconst 1, 1) := by decide +kernel
theorem dX3_isPair_22 : decode cX3_isPair 22 = .ok (.goto 4, 3) := by decide +kernel
theorem dX3_isPair_25 : decode cX3_isPair 25 = .ok (.iconst 0, 1) := by decide +kernel
theorem dX3_isPair_26 : decode cX3_isPair 26 = .ok (.ireturn, 1) := by decide +kernel
theorem dX3_isVector_0 : decode cX3_isVector 0 = .ok (.iload_n 0, 1) := by decide +kernel
theorem dX3_isVector_1 : decode cX3_isVector 1 = .ok (.iconst 1, 1) := by decide +kernel
theorem dX3_isVector_2 : decode cX3_isVector 2 = .ok (.bipush 20, 2) := by decide +kernel
theorem dX3_isVector_4 : decode cX3_isVector 4 = .ok (.invokestatic 27, 3) := by decide +kernel
theorem dX3_isVector_7 : decode cX3_isVector 7 = .ok (.ifCond .eq 17, 3) := by decide +kernel
theorem dX3_isVector_10 : decode cX3_isVector 10 = .ok (.iload_n 1, 1) := by decide +kernel
theorem dX3_isVector_11 : decode cX3_isVector 11 = .ok (.iconst 0, 1) := by decide +kernel
theorem dX3_isVector_12 : decode cX3_isVector 12 = .ok (.bipush 20, 2) := by decide +kernel
theorem dX3_isVector_14 : decode cX3_isVector 14 = .ok (.invokestatic 27, 3) := by decide +kernel
theorem dX3_isVector_17 : decode cX3_isVector 17 = .ok (.ifCond .eq 7, 3) := by decide +kernel
theorem dX3_isVector_20 : decode cX3_isVector 20 = .ok (.iconst 1, 1) := by decide +kernel
theorem dX3_isVector_21 : decode cX3_isVector 21 = .ok (.goto 4, 3) := by decide +kernel
theorem dX3_isVector_24 : decode cX3_isVector 24 = .ok (.iconst 0, 1) := by decide +kernel
theorem dX3_isVector_25 : decode cX3_isVector 25 = .ok (.ireturn, 1) := by decide +kernel
theorem dX3_firstOf_0 : decode cX3_firstOf 0 = .ok (.aload_n 0, 1) := by decide +kernel
theorem dX3_firstOf_1 : decode cX3_firstOf 1 = .ok (.getfield 7, 3) := by decide +kernel
theorem dX3_firstOf_4 : decode cX3_firstOf 4 = .ok (.iconst 4, 1) := by decide +kernel
theorem dX3_firstOf_5 : decode cX3_firstOf 5 = .ok (.iconst 2, 1) := by decide +kernel
theorem dX3_firstOf_6 : decode cX3_firstOf 6 = .ok (.iload_n 1, 1) := by decide +kernel
theorem dX3_firstOf_7 : decode cX3_firstOf 7 = .ok (.imul, 1) := by decide +kernel
theorem dX3_firstOf_8 : decode cX3_firstOf 8 = .ok (.iadd, 1) := by decide +kernel
theorem dX3_firstOf_9 : decode cX3_firstOf 9 = .ok (.iaload, 1) := by decide +kernel
theorem dX3_firstOf_10 : decode cX3_firstOf 10 = .ok (.ireturn, 1) := by decide +kernel
theorem dX3_secondOf_0 : decode cX3_secondOf 0 = .ok (.aload_n 0, 1) := by decide +kernel
theorem dX3_secondOf_1 : decode cX3_secondOf 1 = .ok (.getfield 7, 3) := by decide +kernel
theorem dX3_secondOf_4 : decode cX3_secondOf 4 = .ok (.iconst 4, 1) := by decide +kernel
theorem dX3_secondOf_5 : decode cX3_secondOf 5 = .ok (.iconst 2, 1) := by decide +kernel
theorem dX3_secondOf_6 : decode cX3_secondOf 6 = .ok (.iload_n 1, 1) := by decide +kernel
theorem dX3_secondOf_7 : decode cX3_secondOf 7 = .ok (.imul, 1) := by decide +kernel
theorem dX3_secondOf_8 : decode cX3_secondOf 8 = .ok (.iadd, 1) := by decide +kernel
theorem dX3_secondOf_9 : decode cX3_secondOf 9 = .ok (.iconst 1, 1) := by decide +kernel
theorem dX3_secondOf_10 : decode cX3_secondOf 10 = .ok (.iadd, 1) := by decide +kernel
theorem dX3_secondOf_11 : decode cX3_secondOf 11 = .ok (.iaload, 1) := by decide +kernel
theorem dX3_secondOf_12 : decode cX3_secondOf 12 = .ok (.ireturn, 1) := by decide +kernel
theorem dX3_areaOf_0 : decode cX3_areaOf 0 = .ok (.aload_n 0, 1) := by decide +kernel
theorem dX3_areaOf_1 : decode cX3_areaOf 1 = .ok (.iload_n 1, 1) := by decide +kernel
theorem dX3_areaOf_2 : decode cX3_areaOf 2 = .ok (.invokevirtual 35, 3) := by decide +kernel
theorem dX3_areaOf_5 : decode cX3_areaOf 5 = .ok (.aload_n 0, 1) := by decide +kernel
theorem dX3_areaOf_6 : decode cX3_areaOf 6 = .ok (.iload_n 1, 1) := by decide +kernel
theorem dX3_areaOf_7 : decode cX3_areaOf 7 = .ok (.invokevirtual 35, 3) := by decide +kernel
theorem dX3_areaOf_10 : decode cX3_areaOf 10 = .ok (.imul, 1) := by decide +kernel
theorem dX3_areaOf_11 : decode cX3_areaOf 11 = .ok (.aload_n 0, 1) := by decide +kernel
theorem dX3_areaOf_12 : decode cX3_areaOf 12 = .ok (.iload_n 1, 1) := by decide +kernel
theorem dX3_areaOf_13 : decode cX3_areaOf 13 = .ok (.invokevirtual 39, 3) := by decide +kernel
theorem dX3_areaOf_16 : decode cX3_areaOf 16 = .ok (.aload_n 0, 1) := by decide +kernel
theorem dX3_areaOf_17 : decode cX3_areaOf 17 = .ok (.iload_n 1, 1) := by decide +kernel
theorem dX3_areaOf_18 : decode cX3_areaOf 18 = .ok (.invokevirtual 39, 3) := by decide +kernel
theorem dX3_areaOf_21 : decode cX3_areaOf 21 = .ok (.imul, 1) := by decide +kernel
theorem dX3_areaOf_22 : decode cX3_areaOf 22 = .ok (.iadd, 1) := by decide +kernel
theorem dX3_areaOf_23 : decode cX3_areaOf 23 = .ok (.ireturn, 1) := by decide +kernel
theorem dX3_common_0 : decode cX3_common 0 = .ok (.lload_n 0, 1) := by decide +kernel
theorem dX3_common_1 : decode cX3_common 1 = .ok (.lstore 4, 2) := by decide +kernel
theorem dX3_common_3 : decode cX3_common 3 = .ok (.lload_n 2, 1) := by decide +kernel
theorem dX3_common_4 : decode cX3_common 4 = .ok (.lstore 6, 2) := by decide +kernel
theorem dX3_common_6 : decode cX3_common 6 = .ok (.lload 6, 2) := by decide +kernel
theorem dX3_common_8 : decode cX3_common 8 = .ok (.lconst 0, 1) := by decide +kernel
theorem dX3_common_9 : decode cX3_common 9 = .ok (.lcmp, 1) := by decide +kernel
theorem dX3_common_10 : decode cX3_common 10 = .ok (.ifCond .eq 21, 3) := by decide +kernel
theorem dX3_common_13 : decode cX3_common 13 = .ok (.lload 4, 2) := by decide +kernel
theorem dX3_common_15 : decode cX3_common 15 = .ok (.lload 6, 2) := by decide +kernel
theorem dX3_common_17 : decode cX3_common 17 = .ok (.lrem, 1) := by decide +kernel
theorem dX3_common_18 : decode cX3_common 18 = .ok (.lstore 8, 2) := by decide +kernel
theorem dX3_common_20 : decode cX3_common 20 = .ok (.lload 6, 2) := by decide +kernel
theorem dX3_common_22 : decode cX3_common 22 = .ok (.lstore 4, 2) := by decide +kernel
theorem dX3_common_24 : decode cX3_common 24 = .ok (.lload 8, 2) := by decide +kernel
theorem dX3_common_26 : decode cX3_common 26 = .ok (.lstore 6, 2) := by decide +kernel
theorem dX3_common_28 : decode cX3_common 28 = .ok (.goto (-22), 3) := by decide +kernel
theorem dX3_common_31 : decode cX3_common 31 = .ok (.lload 4, 2) := by decide +kernel
theorem dX3_common_33 : decode cX3_common 33 = .ok (.lreturn, 1) := by decide +kernel
theorem dX3_addPlate_0 : decode cX3_addPlate 0 = .ok (.iload_n 1, 1) := by decide +kernel
theorem dX3_addPlate_1 : decode cX3_addPlate 1 = .ok (.iload_n 2, 1) := by decide +kernel
theorem dX3_addPlate_2 : decode cX3_addPlate 2 = .ok (.invokestatic 42, 3) := by decide +kernel
theorem dX3_addPlate_5 : decode cX3_addPlate 5 = .ok (.ifCond .ne 5, 3) := by decide +kernel
theorem dX3_addPlate_8 : decode cX3_addPlate 8 = .ok (.iconst (-1), 1) := by decide +kernel
theorem dX3_addPlate_9 : decode cX3_addPlate 9 = .ok (.ireturn, 1) := by decide +kernel
theorem dX3_addPlate_10 : decode cX3_addPlate 10 = .ok (.aload_n 0, 1) := by decide +kernel
theorem dX3_addPlate_11 : decode cX3_addPlate 11 = .ok (.getfield 7, 3) := by decide +kernel
theorem dX3_addPlate_14 : decode cX3_addPlate 14 = .ok (.iconst 0, 1) := by decide +kernel
theorem dX3_addPlate_15 : decode cX3_addPlate 15 = .ok (.iaload, 1) := by decide +kernel
theorem dX3_addPlate_16 : decode cX3_addPlate 16 = .ok (.iconst 4, 1) := by decide +kernel
theorem dX3_addPlate_17 : decode cX3_addPlate 17 = .ok (.if_icmp .ne 6, 3) := by decide +kernel
theorem dX3_addPlate_20 : decode cX3_addPlate 20 = .ok (.bipush (-3), 2) := by decide +kernel
theorem dX3_addPlate_22 : decode cX3_addPlate 22 = .ok (.ireturn, 1) := by decide +kernel
theorem dX3_addPlate_23 : decode cX3_addPlate 23 = .ok (.aload_n 0, 1) := by decide +kernel
theorem dX3_addPlate_24 : decode cX3_addPlate 24 = .ok (.invokevirtual 46, 3) := by decide +kernel
theorem dX3_addPlate_27 : decode cX3_addPlate 27 = .ok (.aload_n 0, 1) := by decide +kernel
theorem dX3_addPlate_28 : decode cX3_addPlate 28 = .ok (.getfield 7, 3) := by decide +kernel
theorem dX3_addPlate_31 : decode cX3_addPlate 31 = .ok (.iconst 0, 1) := by decide +kernel
theorem dX3_addPlate_32 : decode cX3_addPlate 32 = .ok (.iaload, 1) := by decide +kernel
theorem dX3_addPlate_33 : decode cX3_addPlate 33 = .ok (.istore_n 3, 1) := by decide +kernel
theorem dX3_addPlate_34 : decode cX3_addPlate 34 = .ok (.aload_n 0, 1) := by decide +kernel
theorem dX3_addPlate_35 : decode cX3_addPlate 35 = .ok (.getfield 7, 3) := by decide +kernel
theorem dX3_addPlate_38 : decode cX3_addPlate 38 = .ok (.iconst 4, 1) := by decide +kernel
theorem dX3_addPlate_39 : decode cX3_addPlate 39 = .ok (.iconst 2, 1) := by decide +kernel
theorem dX3_addPlate_40 : decode cX3_addPlate 40 = .ok (.iload_n 3, 1) := by decide +kernel
theorem dX3_addPlate_41 : decode cX3_addPlate 41 = .ok (.imul, 1) := by decide +kernel
theorem dX3_addPlate_42 : decode cX3_addPlate 42 = .ok (.iadd, 1) := by decide +kernel
theorem dX3_addPlate_43 : decode cX3_addPlate 43 = .ok (.iload_n 1, 1) := by decide +kernel
theorem dX3_addPlate_44 : decode cX3_addPlate 44 = .ok (.iastore, 1) := by decide +kernel
theorem dX3_addPlate_45 : decode cX3_addPlate 45 = .ok (.aload_n 0, 1) := by decide +kernel
theorem dX3_addPlate_46 : decode cX3_addPlate 46 = .ok (.getfield 7, 3) := by decide +kernel
theorem dX3_addPlate_49 : decode cX3_addPlate 49 = .ok (.iconst 4, 1) := by decide +kernel
theorem dX3_addPlate_50 : decode cX3_addPlate 50 = .ok (.iconst 2, 1) := by decide +kernel
theorem dX3_addPlate_51 : decode cX3_addPlate 51 = .ok (.iload_n 3, 1) := by decide +kernel
theorem dX3_addPlate_52 : decode cX3_addPlate 52 = .ok (.imul, 1) := by decide +kernel
theorem dX3_addPlate_53 : decode cX3_addPlate 53 = .ok (.iadd, 1) := by decide +kernel
theorem dX3_addPlate_54 : decode cX3_addPlate 54 = .ok (.iconst 1, 1) := by decide +kernel
theorem dX3_addPlate_55 : decode cX3_addPlate 55 = .ok (.iadd, 1) := by decide +kernel
theorem dX3_addPlate_56 : decode cX3_addPlate 56 = .ok (.iload_n 2, 1) := by decide +kernel
theorem dX3_addPlate_57 : decode cX3_addPlate 57 = .ok (.iastore, 1) := by decide +kernel
theorem dX3_addPlate_58 : decode cX3_addPlate 58 = .ok (.aload_n 0, 1) := by decide +kernel
theorem dX3_addPlate_59 : decode cX3_addPlate 59 = .ok (.getfield 7, 3) := by decide +kernel
theorem dX3_addPlate_62 : decode cX3_addPlate 62 = .ok (.iconst 0, 1) := by decide +kernel
theorem dX3_addPlate_63 : decode cX3_addPlate 63 = .ok (.dup2, 1) := by decide +kernel
theorem dX3_addPlate_64 : decode cX3_addPlate 64 = .ok (.iaload, 1) := by decide +kernel
theorem dX3_addPlate_65 : decode cX3_addPlate 65 = .ok (.iconst 1, 1) := by decide +kernel
theorem dX3_addPlate_66 : decode cX3_addPlate 66 = .ok (.iadd, 1) := by decide +kernel
theorem dX3_addPlate_67 : decode cX3_addPlate 67 = .ok (.iastore, 1) := by decide +kernel
theorem dX3_addPlate_68 : decode cX3_addPlate 68 = .ok (.iload_n 3, 1) := by decide +kernel
theorem dX3_addPlate_69 : decode cX3_addPlate 69 = .ok (.ireturn, 1) := by decide +kernel
theorem dX3_setScreen_0 : decode cX3_setScreen 0 = .ok (.aload_n 0, 1) := by decide +kernel
theorem dX3_setScreen_1 : decode cX3_setScreen 1 = .ok (.iload_n 1, 1) := by decide +kernel
theorem dX3_setScreen_2 : decode cX3_setScreen 2 = .ok (.invokevirtual 31, 3) := by decide +kernel
theorem dX3_setScreen_5 : decode cX3_setScreen 5 = .ok (.ifCond .eq 11, 3) := by decide +kernel
theorem dX3_setScreen_8 : decode cX3_setScreen 8 = .ok (.iload_n 2, 1) := by decide +kernel
theorem dX3_setScreen_9 : decode cX3_setScreen 9 = .ok (.iload_n 3, 1) := by decide +kernel
theorem dX3_setScreen_10 : decode cX3_setScreen 10 = .ok (.invokestatic 42, 3) := by decide +kernel
theorem dX3_setScreen_13 : decode cX3_setScreen 13 = .ok (.ifCond .ne 5, 3) := by decide +kernel
theorem dX3_setScreen_16 : decode cX3_setScreen 16 = .ok (.iconst (-1), 1) := by decide +kernel
theorem dX3_setScreen_17 : decode cX3_setScreen 17 = .ok (.ireturn, 1) := by decide +kernel
theorem dX3_setScreen_18 : decode cX3_setScreen 18 = .ok (.aload_n 0, 1) := by decide +kernel
theorem dX3_setScreen_19 : decode cX3_setScreen 19 = .ok (.invokevirtual 46, 3) := by decide +kernel
theorem dX3_setScreen_22 : decode cX3_setScreen 22 = .ok (.aload_n 0, 1) := by decide +kernel
theorem dX3_setScreen_23 : decode cX3_setScreen 23 = .ok (.iload_n 1, 1) := by decide +kernel
theorem dX3_setScreen_24 : decode cX3_setScreen 24 = .ok (.invokevirtual 49, 3) := by decide +kernel
theorem dX3_setScreen_27 : decode cX3_setScreen 27 = .ok (.istore 4, 2) := by decide +kernel
theorem dX3_setScreen_29 : decode cX3_setScreen 29 = .ok (.aload_n 0, 1) := by decide +kernel
theorem dX3_setScreen_30 : decode cX3_setScreen 30 = .ok (.getfield 7, 3) := by decide +kernel
theorem dX3_setScreen_33 : decode cX3_setScreen 33 = .ok (.iconst 4, 1) := by decide +kernel
theorem dX3_setScreen_34 : decode cX3_setScreen 34 = .ok (.iconst 2, 1) := by decide +kernel
theorem dX3_setScreen_35 : decode cX3_setScreen 35 = .ok (.iload_n 1, 1) := by decide +kernel
theorem dX3_setScreen_36 : decode cX3_setScreen 36 = .ok (.imul, 1) := by decide +kernel
theorem dX3_setScreen_37 : decode cX3_setScreen 37 = .ok (.iadd, 1) := by decide +kernel
theorem dX3_setScreen_38 : decode cX3_setScreen 38 = .ok (.iload_n 2, 1) := by decide +kernel
theorem dX3_setScreen_39 : decode cX3_setScreen 39 = .ok (.iastore, 1) := by decide +kernel
theorem dX3_setScreen_40 : decode cX3_setScreen 40 = .ok (.aload_n 0, 1) := by decide +kernel
theorem dX3_setScreen_41 : decode cX3_setScreen 41 = .ok (.getfield 7, 3) := by decide +kernel
theorem dX3_setScreen_44 : decode cX3_setScreen 44 = .ok (.iconst 4, 1) := by decide +kernel
theorem dX3_setScreen_45 : decode cX3_setScreen 45 = .ok (.iconst 2, 1) := by decide +kernel
theorem dX3_setScreen_46 : decode cX3_setScreen 46 = .ok (.iload_n 1, 1) := by decide +kernel
theorem dX3_setScreen_47 : decode cX3_setScreen 47 = .ok (.imul, 1) := by decide +kernel
theorem dX3_setScreen_48 : decode cX3_setScreen 48 = .ok (.iadd, 1) := by decide +kernel
theorem dX3_setScreen_49 : decode cX3_setScreen 49 = .ok (.iconst 1, 1) := by decide +kernel
theorem dX3_setScreen_50 : decode cX3_setScreen 50 = .ok (.iadd, 1) := by decide +kernel
theorem dX3_setScreen_51 : decode cX3_setScreen 51 = .ok (.iload_n 3, 1) := by decide +kernel
theorem dX3_setScreen_52 : decode cX3_setScreen 52 = .ok (.iastore, 1) := by decide +kernel
theorem dX3_setScreen_53 : decode cX3_setScreen 53 = .ok (.iload 4, 2) := by decide +kernel
theorem dX3_setScreen_55 : decode cX3_setScreen 55 = .ok (.ireturn, 1) := by decide +kernel
theorem dX3_removePlate_0 : decode cX3_removePlate 0 = .ok (.aload_n 0, 1) := by decide +kernel
theorem dX3_removePlate_1 : decode cX3_removePlate 1 = .ok (.iload_n 1, 1) := by decide +kernel
theorem dX3_removePlate_2 : decode cX3_removePlate 2 = .ok (.invokevirtual 31, 3) := by decide +kernel
theorem dX3_removePlate_5 : decode cX3_removePlate 5 = .ok (.ifCond .ne 5, 3) := by decide +kernel
theorem dX3_removePlate_8 : decode cX3_removePlate 8 = .ok (.iconst (-1), 1) := by decide +kernel
theorem dX3_removePlate_9 : decode cX3_removePlate 9 = .ok (.ireturn, 1) := by decide +kernel
theorem dX3_removePlate_10 : decode cX3_removePlate 10 = .ok (.aload_n 0, 1) := by decide +kernel
theorem dX3_removePlate_11 : decode cX3_removePlate 11 = .ok (.invokevirtual 46, 3) := by decide +kernel
theorem dX3_removePlate_14 : decode cX3_removePlate 14 = .ok (.iconst 4, 1) := by decide +kernel
theorem dX3_removePlate_15 : decode cX3_removePlate 15 = .ok (.iconst 2, 1) := by decide +kernel
theorem dX3_removePlate_16 : decode cX3_removePlate 16 = .ok (.iload_n 1, 1) := by decide +kernel
theorem dX3_removePlate_17 : decode cX3_removePlate 17 = .ok (.imul, 1) := by decide +kernel
theorem dX3_removePlate_18 : decode cX3_removePlate 18 = .ok (.iadd, 1) := by decide +kernel
theorem dX3_removePlate_19 : decode cX3_removePlate 19 = .ok (.istore_n 2, 1) := by decide +kernel
theorem dX3_removePlate_20 : decode cX3_removePlate 20 = .ok (.iload_n 2, 1) := by decide +kernel
theorem dX3_removePlate_21 : decode cX3_removePlate 21 = .ok (.bipush 10, 2) := by decide +kernel
theorem dX3_removePlate_23 : decode cX3_removePlate 23 = .ok (.if_icmp .ge 23, 3) := by decide +kernel
theorem dX3_removePlate_26 : decode cX3_removePlate 26 = .ok (.aload_n 0, 1) := by decide +kernel
theorem dX3_removePlate_27 : decode cX3_removePlate 27 = .ok (.getfield 7, 3) := by decide +kernel
theorem dX3_removePlate_30 : decode cX3_removePlate 30 = .ok (.iload_n 2, 1) := by decide +kernel
theorem dX3_removePlate_31 : decode cX3_removePlate 31 = .ok (.aload_n 0, 1) := by decide +kernel
theorem dX3_removePlate_32 : decode cX3_removePlate 32 = .ok (.getfield 7, 3) := by decide +kernel
theorem dX3_removePlate_35 : decode cX3_removePlate 35 = .ok (.iload_n 2, 1) := by decide +kernel
theorem dX3_removePlate_36 : decode cX3_removePlate 36 = .ok (.iconst 2, 1) := by decide +kernel
theorem dX3_removePlate_37 : decode cX3_removePlate 37 = .ok (.iadd, 1) := by decide +kernel
theorem dX3_removePlate_38 : decode cX3_removePlate 38 = .ok (.iaload, 1) := by decide +kernel
theorem dX3_removePlate_39 : decode cX3_removePlate 39 = .ok (.iastore, 1) := by decide +kernel
theorem dX3_removePlate_40 : decode cX3_removePlate 40 = .ok (.iinc 2 1, 3) := by decide +kernel
theorem dX3_removePlate_43 : decode cX3_removePlate 43 = .ok (.goto (-23), 3) := by decide +kernel
theorem dX3_removePlate_46 : decode cX3_removePlate 46 = .ok (.aload_n 0, 1) := by decide +kernel
theorem dX3_removePlate_47 : decode cX3_removePlate 47 = .ok (.getfield 7, 3) := by decide +kernel
theorem dX3_removePlate_50 : decode cX3_removePlate 50 = .ok (.iconst 0, 1) := by decide +kernel
theorem dX3_removePlate_51 : decode cX3_removePlate 51 = .ok (.dup2, 1) := by decide +kernel
theorem dX3_removePlate_52 : decode cX3_removePlate 52 = .ok (.iaload, 1) := by decide +kernel
theorem dX3_removePlate_53 : decode cX3_removePlate 53 = .ok (.iconst 1, 1) := by decide +kernel
theorem dX3_removePlate_54 : decode cX3_removePlate 54 = .ok (.isub, 1) := by decide +kernel
theorem dX3_removePlate_55 : decode cX3_removePlate 55 = .ok (.iastore, 1) := by decide +kernel
theorem dX3_removePlate_56 : decode cX3_removePlate 56 = .ok (.aload_n 0, 1) := by decide +kernel
theorem dX3_removePlate_57 : decode cX3_removePlate 57 = .ok (.getfield 7, 3) := by decide +kernel
theorem dX3_removePlate_60 : decode cX3_removePlate 60 = .ok (.iconst 0, 1) := by decide +kernel
theorem dX3_removePlate_61 : decode cX3_removePlate 61 = .ok (.iaload, 1) := by decide +kernel
theorem dX3_removePlate_62 : decode cX3_removePlate 62 = .ok (.ireturn, 1) := by decide +kernel
theorem dX3_plateCount_0 : decode cX3_plateCount 0 = .ok (.aload_n 0, 1) := by decide +kernel
theorem dX3_plateCount_1 : decode cX3_plateCount 1 = .ok (.getfield 7, 3) := by decide +kernel
theorem dX3_plateCount_4 : decode cX3_plateCount 4 = .ok (.iconst 0, 1) := by decide +kernel
theorem dX3_plateCount_5 : decode cX3_plateCount 5 = .ok (.iaload, 1) := by decide +kernel
theorem dX3_plateCount_6 : decode cX3_plateCount 6 = .ok (.ireturn, 1) := by decide +kernel
theorem dX3_cellP_0 : decode cX3_cellP 0 = .ok (.aload_n 0, 1) := by decide +kernel
theorem dX3_cellP_1 : decode cX3_cellP 1 = .ok (.iload_n 1, 1) := by decide +kernel
theorem dX3_cellP_2 : decode cX3_cellP 2 = .ok (.invokevirtual 31, 3) := by decide +kernel
theorem dX3_cellP_5 : decode cX3_cellP 5 = .ok (.ifCond .eq 11, 3) := by decide +kernel
theorem dX3_cellP_8 : decode cX3_cellP 8 = .ok (.aload_n 0, 1) := by decide +kernel
theorem dX3_cellP_9 : decode cX3_cellP 9 = .ok (.iload_n 1, 1) := by decide +kernel
theorem dX3_cellP_10 : decode cX3_cellP 10 = .ok (.invokevirtual 35, 3) := by decide +kernel
theorem dX3_cellP_13 : decode cX3_cellP 13 = .ok (.goto 4, 3) := by decide +kernel
theorem dX3_cellP_16 : decode cX3_cellP 16 = .ok (.iconst (-1), 1) := by decide +kernel
theorem dX3_cellP_17 : decode cX3_cellP 17 = .ok (.ireturn, 1) := by decide +kernel
theorem dX3_cellQ_0 : decode cX3_cellQ 0 = .ok (.aload_n 0, 1) := by decide +kernel
theorem dX3_cellQ_1 : decode cX3_cellQ 1 = .ok (.iload_n 1, 1) := by decide +kernel
theorem dX3_cellQ_2 : decode cX3_cellQ 2 = .ok (.invokevirtual 31, 3) := by decide +kernel
theorem dX3_cellQ_5 : decode cX3_cellQ 5 = .ok (.ifCond .eq 11, 3) := by decide +kernel
theorem dX3_cellQ_8 : decode cX3_cellQ 8 = .ok (.aload_n 0, 1) := by decide +kernel
theorem dX3_cellQ_9 : decode cX3_cellQ 9 = .ok (.iload_n 1, 1) := by decide +kernel
theorem dX3_cellQ_10 : decode cX3_cellQ 10 = .ok (.invokevirtual 39, 3) := by decide +kernel
theorem dX3_cellQ_13 : decode cX3_cellQ 13 = .ok (.goto 4, 3) := by decide +kernel
theorem dX3_cellQ_16 : decode cX3_cellQ 16 = .ok (.iconst (-1), 1) := by decide +kernel
theorem dX3_cellQ_17 : decode cX3_cellQ 17 = .ok (.ireturn, 1) := by decide +kernel
theorem dX3_cellArea_0 : decode cX3_cellArea 0 = .ok (.aload_n 0, 1) := by decide +kernel
theorem dX3_cellArea_1 : decode cX3_cellArea 1 = .ok (.iload_n 1, 1) := by decide +kernel
theorem dX3_cellArea_2 : decode cX3_cellArea 2 = .ok (.invokevirtual 31, 3) := by decide +kernel
theorem dX3_cellArea_5 : decode cX3_cellArea 5 = .ok (.ifCond .eq 11, 3) := by decide +kernel
theorem dX3_cellArea_8 : decode cX3_cellArea 8 = .ok (.aload_n 0, 1) := by decide +kernel
theorem dX3_cellArea_9 : decode cX3_cellArea 9 = .ok (.iload_n 1, 1) := by decide +kernel
theorem dX3_cellArea_10 : decode cX3_cellArea 10 = .ok (.invokevirtual 49, 3) := by decide +kernel
theorem dX3_cellArea_13 : decode cX3_cellArea 13 = .ok (.goto 4, 3) := by decide +kernel
theorem dX3_cellArea_16 : decode cX3_cellArea 16 = .ok (.iconst (-1), 1) := by decide +kernel
theorem dX3_cellArea_17 : decode cX3_cellArea 17 = .ok (.ireturn, 1) := by decide +kernel
theorem dX3_tileOf_0 : decode cX3_tileOf 0 = .ok (.aload_n 0, 1) := by decide +kernel
theorem dX3_tileOf_1 : decode cX3_tileOf 1 = .ok (.iload_n 1, 1) := by decide +kernel
theorem dX3_tileOf_2 : decode cX3_tileOf 2 = .ok (.invokevirtual 49, 3) := by decide +kernel
theorem dX3_tileOf_5 : decode cX3_tileOf 5 = .ok (.aload_n 0, 1) := by decide +kernel
theorem dX3_tileOf_6 : decode cX3_tileOf 6 = .ok (.iload_n 1, 1) := by decide +kernel
theorem dX3_tileOf_7 : decode cX3_tileOf 7 = .ok (.invokevirtual 35, 3) := by decide +kernel
theorem dX3_tileOf_10 : decode cX3_tileOf 10 = .ok (.i2l, 1) := by decide +kernel
theorem dX3_tileOf_11 : decode cX3_tileOf 11 = .ok (.aload_n 0, 1) := by decide +kernel
theorem dX3_tileOf_12 : decode cX3_tileOf 12 = .ok (.iload_n 1, 1) := by decide +kernel
theorem dX3_tileOf_13 : decode cX3_tileOf 13 = .ok (.invokevirtual 39, 3) := by decide +kernel
theorem dX3_tileOf_16 : decode cX3_tileOf 16 = .ok (.i2l, 1) := by decide +kernel
theorem dX3_tileOf_17 : decode cX3_tileOf 17 = .ok (.invokestatic 52, 3) := by decide +kernel
theorem dX3_tileOf_20 : decode cX3_tileOf 20 = .ok (.l2i, 1) := by decide +kernel
theorem dX3_tileOf_21 : decode cX3_tileOf 21 = .ok (.idiv, 1) := by decide +kernel
theorem dX3_tileOf_22 : decode cX3_tileOf 22 = .ok (.ireturn, 1) := by decide +kernel
theorem dX3_tile_0 : decode cX3_tile 0 = .ok (.aload_n 0, 1) := by decide +kernel
theorem dX3_tile_1 : decode cX3_tile 1 = .ok (.iload_n 1, 1) := by decide +kernel
theorem dX3_tile_2 : decode cX3_tile 2 = .ok (.invokevirtual 31, 3) := by decide +kernel
theorem dX3_tile_5 : decode cX3_tile 5 = .ok (.ifCond .eq 11, 3) := by decide +kernel
theorem dX3_tile_8 : decode cX3_tile 8 = .ok (.aload_n 0, 1) := by decide +kernel
theorem dX3_tile_9 : decode cX3_tile 9 = .ok (.iload_n 1, 1) := by decide +kernel
theorem dX3_tile_10 : decode cX3_tile 10 = .ok (.invokevirtual 56, 3) := by decide +kernel
theorem dX3_tile_13 : decode cX3_tile 13 = .ok (.goto 4, 3) := by decide +kernel
theorem dX3_tile_16 : decode cX3_tile 16 = .ok (.iconst (-1), 1) := by decide +kernel
theorem dX3_tile_17 : decode cX3_tile 17 = .ok (.ireturn, 1) := by decide +kernel
theorem dX3_commonTile_0 : decode cX3_commonTile 0 = .ok (.lconst 1, 1) := by decide +kernel
theorem dX3_commonTile_1 : decode cX3_commonTile 1 = .ok (.lstore_n 1, 1) := by decide +kernel
theorem dX3_commonTile_2 : decode cX3_commonTile 2 = .ok (.iconst 0, 1) := by decide +kernel
theorem dX3_commonTile_3 : decode cX3_commonTile 3 = .ok (.istore_n 3, 1) := by decide +kernel
theorem dX3_commonTile_4 : decode cX3_commonTile 4 = .ok (.iload_n 3, 1) := by decide +kernel
theorem dX3_commonTile_5 : decode cX3_commonTile 5 = .ok (.aload_n 0, 1) := by decide +kernel
theorem dX3_commonTile_6 : decode cX3_commonTile 6 = .ok (.getfield 7, 3) := by decide +kernel
theorem dX3_commonTile_9 : decode cX3_commonTile 9 = .ok (.iconst 0, 1) := by decide +kernel
theorem dX3_commonTile_10 : decode cX3_commonTile 10 = .ok (.iaload, 1) := by decide +kernel
theorem dX3_commonTile_11 : decode cX3_commonTile 11 = .ok (.if_icmp .ge 29, 3) := by decide +kernel
theorem dX3_commonTile_14 : decode cX3_commonTile 14 = .ok (.lload_n 1, 1) := by decide +kernel
theorem dX3_commonTile_15 : decode cX3_commonTile 15 = .ok (.lload_n 1, 1) := by decide +kernel
theorem dX3_commonTile_16 : decode cX3_commonTile 16 = .ok (.aload_n 0, 1) := by decide +kernel
theorem dX3_commonTile_17 : decode cX3_commonTile 17 = .ok (.iload_n 3, 1) := by decide +kernel
theorem dX3_commonTile_18 : decode cX3_commonTile 18 = .ok (.invokevirtual 56, 3) := by decide +kernel
theorem dX3_commonTile_21 : decode cX3_commonTile 21 = .ok (.i2l, 1) := by decide +kernel
theorem dX3_commonTile_22 : decode cX3_commonTile 22 = .ok (.invokestatic 52, 3) := by decide +kernel
theorem dX3_commonTile_25 : decode cX3_commonTile 25 = .ok (.ldiv, 1) := by decide +kernel
theorem dX3_commonTile_26 : decode cX3_commonTile 26 = .ok (.aload_n 0, 1) := by decide +kernel
theorem dX3_commonTile_27 : decode cX3_commonTile 27 = .ok (.iload_n 3, 1) := by decide +kernel
theorem dX3_commonTile_28 : decode cX3_commonTile 28 = .ok (.invokevirtual 56, 3) := by decide +kernel
theorem dX3_commonTile_31 : decode cX3_commonTile 31 = .ok (.i2l, 1) := by decide +kernel
theorem dX3_commonTile_32 : decode cX3_commonTile 32 = .ok (.lmul, 1) := by decide +kernel
theorem dX3_commonTile_33 : decode cX3_commonTile 33 = .ok (.lstore_n 1, 1) := by decide +kernel
theorem dX3_commonTile_34 : decode cX3_commonTile 34 = .ok (.iinc 3 1, 3) := by decide +kernel
theorem dX3_commonTile_37 : decode cX3_commonTile 37 = .ok (.goto (-33), 3) := by decide +kernel
theorem dX3_commonTile_40 : decode cX3_commonTile 40 = .ok (.lload_n 1, 1) := by decide +kernel
theorem dX3_commonTile_41 : decode cX3_commonTile 41 = .ok (.lreturn, 1) := by decide +kernel
theorem dX3_isAhead_0 : decode cX3_isAhead 0 = .ok (.aload_n 0, 1) := by decide +kernel
theorem dX3_isAhead_1 : decode cX3_isAhead 1 = .ok (.iload_n 1, 1) := by decide +kernel
theorem dX3_isAhead_2 : decode cX3_isAhead 2 = .ok (.invokevirtual 39, 3) := by decide +kernel
theorem dX3_isAhead_5 : decode cX3_isAhead 5 = .ok (.aload_n 0, 1) := by decide +kernel
theorem dX3_isAhead_6 : decode cX3_isAhead 6 = .ok (.iload_n 2, 1) := by decide +kernel
theorem dX3_isAhead_7 : decode cX3_isAhead 7 = .ok (.invokevirtual 35, 3) := by decide +kernel
theorem dX3_isAhead_10 : decode cX3_isAhead 10 = .ok (.imul, 1) := by decide +kernel
theorem dX3_isAhead_11 : decode cX3_isAhead 11 = .ok (.istore_n 3, 1) := by decide +kernel
theorem dX3_isAhead_12 : decode cX3_isAhead 12 = .ok (.aload_n 0, 1) := by decide +kernel
theorem dX3_isAhead_13 : decode cX3_isAhead 13 = .ok (.iload_n 2, 1) := by decide +kernel
theorem dX3_isAhead_14 : decode cX3_isAhead 14 = .ok (.invokevirtual 39, 3) := by decide +kernel
theorem dX3_isAhead_17 : decode cX3_isAhead 17 = .ok (.aload_n 0, 1) := by decide +kernel
theorem dX3_isAhead_18 : decode cX3_isAhead 18 = .ok (.iload_n 1, 1) := by decide +kernel
theorem dX3_isAhead_19 : decode cX3_isAhead 19 = .ok (.invokevirtual 35, 3) := by decide +kernel
theorem dX3_isAhead_22 : decode cX3_isAhead 22 = .ok (.imul, 1) := by decide +kernel
theorem dX3_isAhead_23 : decode cX3_isAhead 23 = .ok (.istore 4, 2) := by decide +kernel
theorem dX3_isAhead_25 : decode cX3_isAhead 25 = .ok (.iload_n 3, 1) := by decide +kernel
theorem dX3_isAhead_26 : decode cX3_isAhead 26 = .ok (.iload 4, 2) := by decide +kernel
theorem dX3_isAhead_28 : decode cX3_isAhead 28 = .ok (.if_icmp .lt 14, 3) := by decide +kernel
theorem dX3_isAhead_31 : decode cX3_isAhead 31 = .ok (.iload_n 3, 1) := by decide +kernel
theorem dX3_isAhead_32 : decode cX3_isAhead 32 = .ok (.iload 4, 2) := by decide +kernel
theorem dX3_isAhead_34 : decode cX3_isAhead 34 = .ok (.if_icmp .ne 12, 3) := by decide +kernel
theorem dX3_isAhead_37 : decode cX3_isAhead 37 = .ok (.iload_n 1, 1) := by decide +kernel
theorem dX3_isAhead_38 : decode cX3_isAhead 38 = .ok (.iload_n 2, 1) := by decide +kernel
theorem dX3_isAhead_39 : decode cX3_isAhead 39 = .ok (.if_icmp .ge 7, 3) := by decide +kernel
theorem dX3_isAhead_42 : decode cX3_isAhead 42 = .ok (.iconst 1, 1) := by decide +kernel
theorem dX3_isAhead_43 : decode cX3_isAhead 43 = .ok (.goto 4, 3) := by decide +kernel
theorem dX3_isAhead_46 : decode cX3_isAhead 46 = .ok (.iconst 0, 1) := by decide +kernel
theorem dX3_isAhead_47 : decode cX3_isAhead 47 = .ok (.ireturn, 1) := by decide +kernel
theorem dX3_byAngle_0 : decode cX3_byAngle 0 = .ok (.iload_n 1, 1) := by decide +kernel
theorem dX3_byAngle_1 : decode cX3_byAngle 1 = .ok (.ifCond .ge 5, 3) := by decide +kernel
theorem dX3_byAngle_4 : decode cX3_byAngle 4 = .ok (.iconst (-1), 1) := by decide +kernel
theorem dX3_byAngle_5 : decode cX3_byAngle 5 = .ok (.ireturn, 1) := by decide +kernel
theorem dX3_byAngle_6 : decode cX3_byAngle 6 = .ok (.iconst 0, 1) := by decide +kernel
theorem dX3_byAngle_7 : decode cX3_byAngle 7 = .ok (.istore_n 2, 1) := by decide +kernel
theorem dX3_byAngle_8 : decode cX3_byAngle 8 = .ok (.iload_n 2, 1) := by decide +kernel
theorem dX3_byAngle_9 : decode cX3_byAngle 9 = .ok (.aload_n 0, 1) := by decide +kernel
theorem dX3_byAngle_10 : decode cX3_byAngle 10 = .ok (.getfield 7, 3) := by decide +kernel
theorem dX3_byAngle_13 : decode cX3_byAngle 13 = .ok (.iconst 0, 1) := by decide +kernel
theorem dX3_byAngle_14 : decode cX3_byAngle 14 = .ok (.iaload, 1) := by decide +kernel
theorem dX3_byAngle_15 : decode cX3_byAngle 15 = .ok (.if_icmp .ge 56, 3) := by decide +kernel
theorem dX3_byAngle_18 : decode cX3_byAngle 18 = .ok (.iconst 0, 1) := by decide +kernel
theorem dX3_byAngle_19 : decode cX3_byAngle 19 = .ok (.istore_n 3, 1) := by decide +kernel
theorem dX3_byAngle_20 : decode cX3_byAngle 20 = .ok (.iconst 0, 1) := by decide +kernel
theorem dX3_byAngle_21 : decode cX3_byAngle 21 = .ok (.istore 4, 2) := by decide +kernel
theorem dX3_byAngle_23 : decode cX3_byAngle 23 = .ok (.iload 4, 2) := by decide +kernel
theorem dX3_byAngle_25 : decode cX3_byAngle 25 = .ok (.aload_n 0, 1) := by decide +kernel
theorem dX3_byAngle_26 : decode cX3_byAngle 26 = .ok (.getfield 7, 3) := by decide +kernel
theorem dX3_byAngle_29 : decode cX3_byAngle 29 = .ok (.iconst 0, 1) := by decide +kernel
theorem dX3_byAngle_30 : decode cX3_byAngle 30 = .ok (.iaload, 1) := by decide +kernel
theorem dX3_byAngle_31 : decode cX3_byAngle 31 = .ok (.if_icmp .ge 27, 3) := by decide +kernel
theorem dX3_byAngle_34 : decode cX3_byAngle 34 = .ok (.iload_n 3, 1) := by decide +kernel
theorem dX3_byAngle_35 : decode cX3_byAngle 35 = .ok (.aload_n 0, 1) := by decide +kernel
theorem dX3_byAngle_36 : decode cX3_byAngle 36 = .ok (.iload 4, 2) := by decide +kernel
theorem dX3_byAngle_38 : decode cX3_byAngle 38 = .ok (.iload_n 2, 1) := by decide +kernel
theorem dX3_byAngle_39 : decode cX3_byAngle 39 = .ok (.invokevirtual 59, 3) := by decide +kernel
theorem dX3_byAngle_42 : decode cX3_byAngle 42 = .ok (.ifCond .eq 7, 3) := by decide +kernel
theorem dX3_byAngle_45 : decode cX3_byAngle 45 = .ok (.iconst 1, 1) := by decide +kernel
theorem dX3_byAngle_46 : decode cX3_byAngle 46 = .ok (.goto 4, 3) := by decide +kernel
theorem dX3_byAngle_49 : decode cX3_byAngle 49 = .ok (.iconst 0, 1) := by decide +kernel
theorem dX3_byAngle_50 : decode cX3_byAngle 50 = .ok (.iadd, 1) := by decide +kernel
theorem dX3_byAngle_51 : decode cX3_byAngle 51 = .ok (.istore_n 3, 1) := by decide +kernel
theorem dX3_byAngle_52 : decode cX3_byAngle 52 = .ok (.iinc 4 1, 3) := by decide +kernel
theorem dX3_byAngle_55 : decode cX3_byAngle 55 = .ok (.goto (-32), 3) := by decide +kernel
theorem dX3_byAngle_58 : decode cX3_byAngle 58 = .ok (.iload_n 3, 1) := by decide +kernel
theorem dX3_byAngle_59 : decode cX3_byAngle 59 = .ok (.iload_n 1, 1) := by decide +kernel
theorem dX3_byAngle_60 : decode cX3_byAngle 60 = .ok (.if_icmp .ne 5, 3) := by decide +kernel
theorem dX3_byAngle_63 : decode cX3_byAngle 63 = .ok (.iload_n 2, 1) := by decide +kernel
theorem dX3_byAngle_64 : decode cX3_byAngle 64 = .ok (.ireturn, 1) := by decide +kernel
theorem dX3_byAngle_65 : decode cX3_byAngle 65 = .ok (.iinc 2 1, 3) := by decide +kernel
theorem dX3_byAngle_68 : decode cX3_byAngle 68 = .ok (.goto (-60), 3) := by decide +kernel
theorem dX3_byAngle_71 : decode cX3_byAngle 71 = .ok (.bipush (-4), 2) := by decide +kernel
theorem dX3_byAngle_73 : decode cX3_byAngle 73 = .ok (.ireturn, 1) := by decide +kernel
theorem dX3_setOrder_0 : decode cX3_setOrder 0 = .ok (.iload_n 1, 1) := by decide +kernel
theorem dX3_setOrder_1 : decode cX3_setOrder 1 = .ok (.iconst 1, 1) := by decide +kernel
theorem dX3_setOrder_2 : decode cX3_setOrder 2 = .ok (.iconst 2, 1) := by decide +kernel
theorem dX3_setOrder_3 : decode cX3_setOrder 3 = .ok (.invokestatic 27, 3) := by decide +kernel
theorem dX3_setOrder_6 : decode cX3_setOrder 6 = .ok (.ifCond .ne 5, 3) := by decide +kernel
theorem dX3_setOrder_9 : decode cX3_setOrder 9 = .ok (.iconst (-1), 1) := by decide +kernel
theorem dX3_setOrder_10 : decode cX3_setOrder 10 = .ok (.ireturn, 1) := by decide +kernel
theorem dX3_setOrder_11 : decode cX3_setOrder 11 = .ok (.aload_n 0, 1) := by decide +kernel
theorem dX3_setOrder_12 : decode cX3_setOrder 12 = .ok (.invokevirtual 46, 3) := by decide +kernel
theorem dX3_setOrder_15 : decode cX3_setOrder 15 = .ok (.aload_n 0, 1) := by decide +kernel
theorem dX3_setOrder_16 : decode cX3_setOrder 16 = .ok (.getfield 7, 3) := by decide +kernel
theorem dX3_setOrder_19 : decode cX3_setOrder 19 = .ok (.iconst 1, 1) := by decide +kernel
theorem dX3_setOrder_20 : decode cX3_setOrder 20 = .ok (.iaload, 1) := by decide +kernel
theorem dX3_setOrder_21 : decode cX3_setOrder 21 = .ok (.istore_n 2, 1) := by decide +kernel
theorem dX3_setOrder_22 : decode cX3_setOrder 22 = .ok (.aload_n 0, 1) := by decide +kernel
theorem dX3_setOrder_23 : decode cX3_setOrder 23 = .ok (.getfield 7, 3) := by decide +kernel
theorem dX3_setOrder_26 : decode cX3_setOrder 26 = .ok (.iconst 1, 1) := by decide +kernel
theorem dX3_setOrder_27 : decode cX3_setOrder 27 = .ok (.iload_n 1, 1) := by decide +kernel
theorem dX3_setOrder_28 : decode cX3_setOrder 28 = .ok (.iastore, 1) := by decide +kernel
theorem dX3_setOrder_29 : decode cX3_setOrder 29 = .ok (.iload_n 2, 1) := by decide +kernel
theorem dX3_setOrder_30 : decode cX3_setOrder 30 = .ok (.ireturn, 1) := by decide +kernel
theorem dX3_setLimits_0 : decode cX3_setLimits 0 = .ok (.iload_n 1, 1) := by decide +kernel
theorem dX3_setLimits_1 : decode cX3_setLimits 1 = .ok (.iconst 1, 1) := by decide +kernel
theorem dX3_setLimits_2 : decode cX3_setLimits 2 = .ok (.sipush 1000, 3) := by decide +kernel
theorem dX3_setLimits_5 : decode cX3_setLimits 5 = .ok (.invokestatic 27, 3) := by decide +kernel
theorem dX3_setLimits_8 : decode cX3_setLimits 8 = .ok (.ifCond .eq 19, 3) := by decide +kernel
theorem dX3_setLimits_11 : decode cX3_setLimits 11 = .ok (.iload_n 2, 1) := by decide +kernel
theorem dX3_setLimits_12 : decode cX3_setLimits 12 = .ok (.iconst 2, 1) := by decide +kernel
theorem dX3_setLimits_13 : decode cX3_setLimits 13 = .ok (.sipush 10000, 3) := by decide +kernel
theorem dX3_setLimits_16 : decode cX3_setLimits 16 = .ok (.invokestatic 27, 3) := by decide +kernel
theorem dX3_setLimits_19 : decode cX3_setLimits 19 = .ok (.ifCond .eq 8, 3) := by decide +kernel
theorem dX3_setLimits_22 : decode cX3_setLimits 22 = .ok (.iload_n 2, 1) := by decide +kernel
theorem dX3_setLimits_23 : decode cX3_setLimits 23 = .ok (.iload_n 1, 1) := by decide +kernel
theorem dX3_setLimits_24 : decode cX3_setLimits 24 = .ok (.if_icmp .gt 5, 3) := by decide +kernel
theorem dX3_setLimits_27 : decode cX3_setLimits 27 = .ok (.iconst (-1), 1) := by decide +kernel
theorem dX3_setLimits_28 : decode cX3_setLimits 28 = .ok (.ireturn, 1) := by decide +kernel
theorem dX3_setLimits_29 : decode cX3_setLimits 29 = .ok (.aload_n 0, 1) := by decide +kernel
theorem dX3_setLimits_30 : decode cX3_setLimits 30 = .ok (.invokevirtual 46, 3) := by decide +kernel
theorem dX3_setLimits_33 : decode cX3_setLimits 33 = .ok (.aload_n 0, 1) := by decide +kernel
theorem dX3_setLimits_34 : decode cX3_setLimits 34 = .ok (.getfield 7, 3) := by decide +kernel
theorem dX3_setLimits_37 : decode cX3_setLimits 37 = .ok (.iconst 2, 1) := by decide +kernel
theorem dX3_setLimits_38 : decode cX3_setLimits 38 = .ok (.iaload, 1) := by decide +kernel
theorem dX3_setLimits_39 : decode cX3_setLimits 39 = .ok (.istore_n 3, 1) := by decide +kernel
theorem dX3_setLimits_40 : decode cX3_setLimits 40 = .ok (.aload_n 0, 1) := by decide +kernel
theorem dX3_setLimits_41 : decode cX3_setLimits 41 = .ok (.getfield 7, 3) := by decide +kernel
theorem dX3_setLimits_44 : decode cX3_setLimits 44 = .ok (.iconst 2, 1) := by decide +kernel
theorem dX3_setLimits_45 : decode cX3_setLimits 45 = .ok (.iload_n 1, 1) := by decide +kernel
theorem dX3_setLimits_46 : decode cX3_setLimits 46 = .ok (.iastore, 1) := by decide +kernel
theorem dX3_setLimits_47 : decode cX3_setLimits 47 = .ok (.aload_n 0, 1) := by decide +kernel
theorem dX3_setLimits_48 : decode cX3_setLimits 48 = .ok (.getfield 7, 3) := by decide +kernel
theorem dX3_setLimits_51 : decode cX3_setLimits 51 = .ok (.iconst 3, 1) := by decide +kernel
theorem dX3_setLimits_52 : decode cX3_setLimits 52 = .ok (.iload_n 2, 1) := by decide +kernel
theorem dX3_setLimits_53 : decode cX3_setLimits 53 = .ok (.iastore, 1) := by decide +kernel
theorem dX3_setLimits_54 : decode cX3_setLimits 54 = .ok (.iload_n 3, 1) := by decide +kernel
theorem dX3_setLimits_55 : decode cX3_setLimits 55 = .ok (.ireturn, 1) := by decide +kernel
theorem dX3_longLimit_0 : decode cX3_longLimit 0 = .ok (.aload_n 0, 1) := by decide +kernel
theorem dX3_longLimit_1 : decode cX3_longLimit 1 = .ok (.getfield 7, 3) := by decide +kernel
theorem dX3_longLimit_4 : decode cX3_longLimit 4 = .ok (.iconst 3, 1) := by decide +kernel
theorem dX3_longLimit_5 : decode cX3_longLimit 5 = .ok (.iaload, 1) := by decide +kernel
theorem dX3_longLimit_6 : decode cX3_longLimit 6 = .ok (.ireturn, 1) := by decide +kernel
theorem dX3_pairSquare_0 : decode cX3_pairSquare 0 = .ok (.aload_n 0, 1) := by decide +kernel
theorem dX3_pairSquare_1 : decode cX3_pairSquare 1 = .ok (.iload_n 1, 1) := by decide +kernel
theorem dX3_pairSquare_2 : decode cX3_pairSquare 2 = .ok (.invokevirtual 49, 3) := by decide +kernel
theorem dX3_pairSquare_5 : decode cX3_pairSquare 5 = .ok (.i2l, 1) := by decide +kernel
theorem dX3_pairSquare_6 : decode cX3_pairSquare 6 = .ok (.lstore 7, 2) := by decide +kernel
theorem dX3_pairSquare_8 : decode cX3_pairSquare 8 = .ok (.aload_n 0, 1) := by decide +kernel
theorem dX3_pairSquare_9 : decode cX3_pairSquare 9 = .ok (.iload_n 2, 1) := by decide +kernel
theorem dX3_pairSquare_10 : decode cX3_pairSquare 10 = .ok (.invokevirtual 49, 3) := by decide +kernel
theorem dX3_pairSquare_13 : decode cX3_pairSquare 13 = .ok (.i2l, 1) := by decide +kernel
theorem dX3_pairSquare_14 : decode cX3_pairSquare 14 = .ok (.lstore 9, 2) := by decide +kernel
theorem dX3_pairSquare_16 : decode cX3_pairSquare 16 = .ok (.iload_n 3, 1) := by decide +kernel
theorem dX3_pairSquare_17 : decode cX3_pairSquare 17 = .ok (.aload_n 0, 1) := by decide +kernel
theorem dX3_pairSquare_18 : decode cX3_pairSquare 18 = .ok (.iload_n 1, 1) := by decide +kernel
theorem dX3_pairSquare_19 : decode cX3_pairSquare 19 = .ok (.invokevirtual 35, 3) := by decide +kernel
theorem dX3_pairSquare_22 : decode cX3_pairSquare 22 = .ok (.imul, 1) := by decide +kernel
theorem dX3_pairSquare_23 : decode cX3_pairSquare 23 = .ok (.iload 4, 2) := by decide +kernel
theorem dX3_pairSquare_25 : decode cX3_pairSquare 25 = .ok (.aload_n 0, 1) := by decide +kernel
theorem dX3_pairSquare_26 : decode cX3_pairSquare 26 = .ok (.iload_n 1, 1) := by decide +kernel
theorem dX3_pairSquare_27 : decode cX3_pairSquare 27 = .ok (.invokevirtual 39, 3) := by decide +kernel
theorem dX3_pairSquare_30 : decode cX3_pairSquare 30 = .ok (.imul, 1) := by decide +kernel
theorem dX3_pairSquare_31 : decode cX3_pairSquare 31 = .ok (.isub, 1) := by decide +kernel
theorem dX3_pairSquare_32 : decode cX3_pairSquare 32 = .ok (.i2l, 1) := by decide +kernel
theorem dX3_pairSquare_33 : decode cX3_pairSquare 33 = .ok (.lload 9, 2) := by decide +kernel
theorem dX3_pairSquare_35 : decode cX3_pairSquare 35 = .ok (.lmul, 1) := by decide +kernel
theorem dX3_pairSquare_36 : decode cX3_pairSquare 36 = .ok (.iload 5, 2) := by decide +kernel
theorem dX3_pairSquare_38 : decode cX3_pairSquare 38 = .ok (.aload_n 0, 1) := by decide +kernel
theorem dX3_pairSquare_39 : decode cX3_pairSquare 39 = .ok (.iload_n 2, 1) := by decide +kernel
theorem dX3_pairSquare_40 : decode cX3_pairSquare 40 = .ok (.invokevirtual 35, 3) := by decide +kernel
theorem dX3_pairSquare_43 : decode cX3_pairSquare 43 = .ok (.imul, 1) := by decide +kernel
theorem dX3_pairSquare_44 : decode cX3_pairSquare 44 = .ok (.iload 6, 2) := by decide +kernel
theorem dX3_pairSquare_46 : decode cX3_pairSquare 46 = .ok (.aload_n 0, 1) := by decide +kernel
theorem dX3_pairSquare_47 : decode cX3_pairSquare 47 = .ok (.iload_n 2, 1) := by decide +kernel
theorem dX3_pairSquare_48 : decode cX3_pairSquare 48 = .ok (.invokevirtual 39, 3) := by decide +kernel
theorem dX3_pairSquare_51 : decode cX3_pairSquare 51 = .ok (.imul, 1) := by decide +kernel
theorem dX3_pairSquare_52 : decode cX3_pairSquare 52 = .ok (.isub, 1) := by decide +kernel
theorem dX3_pairSquare_53 : decode cX3_pairSquare 53 = .ok (.i2l, 1) := by decide +kernel
theorem dX3_pairSquare_54 : decode cX3_pairSquare 54 = .ok (.lload 7, 2) := by decide +kernel
theorem dX3_pairSquare_56 : decode cX3_pairSquare 56 = .ok (.lmul, 1) := by decide +kernel
theorem dX3_pairSquare_57 : decode cX3_pairSquare 57 = .ok (.lsub, 1) := by decide +kernel
theorem dX3_pairSquare_58 : decode cX3_pairSquare 58 = .ok (.lstore 11, 2) := by decide +kernel
theorem dX3_pairSquare_60 : decode cX3_pairSquare 60 = .ok (.iload_n 3, 1) := by decide +kernel
theorem dX3_pairSquare_61 : decode cX3_pairSquare 61 = .ok (.aload_n 0, 1) := by decide +kernel
theorem dX3_pairSquare_62 : decode cX3_pairSquare 62 = .ok (.iload_n 1, 1) := by decide +kernel
theorem dX3_pairSquare_63 : decode cX3_pairSquare 63 = .ok (.invokevirtual 39, 3) := by decide +kernel
theorem dX3_pairSquare_66 : decode cX3_pairSquare 66 = .ok (.imul, 1) := by decide +kernel
theorem dX3_pairSquare_67 : decode cX3_pairSquare 67 = .ok (.iload 4, 2) := by decide +kernel
theorem dX3_pairSquare_69 : decode cX3_pairSquare 69 = .ok (.aload_n 0, 1) := by decide +kernel
theorem dX3_pairSquare_70 : decode cX3_pairSquare 70 = .ok (.iload_n 1, 1) := by decide +kernel
theorem dX3_pairSquare_71 : decode cX3_pairSquare 71 = .ok (.invokevirtual 35, 3) := by decide +kernel
theorem dX3_pairSquare_74 : decode cX3_pairSquare 74 = .ok (.imul, 1) := by decide +kernel
theorem dX3_pairSquare_75 : decode cX3_pairSquare 75 = .ok (.iadd, 1) := by decide +kernel
theorem dX3_pairSquare_76 : decode cX3_pairSquare 76 = .ok (.i2l, 1) := by decide +kernel
theorem dX3_pairSquare_77 : decode cX3_pairSquare 77 = .ok (.lload 9, 2) := by decide +kernel
theorem dX3_pairSquare_79 : decode cX3_pairSquare 79 = .ok (.lmul, 1) := by decide +kernel
theorem dX3_pairSquare_80 : decode cX3_pairSquare 80 = .ok (.iload 5, 2) := by decide +kernel
theorem dX3_pairSquare_82 : decode cX3_pairSquare 82 = .ok (.aload_n 0, 1) := by decide +kernel
theorem dX3_pairSquare_83 : decode cX3_pairSquare 83 = .ok (.iload_n 2, 1) := by decide +kernel
theorem dX3_pairSquare_84 : decode cX3_pairSquare 84 = .ok (.invokevirtual 39, 3) := by decide +kernel
theorem dX3_pairSquare_87 : decode cX3_pairSquare 87 = .ok (.imul, 1) := by decide +kernel
theorem dX3_pairSquare_88 : decode cX3_pairSquare 88 = .ok (.iload 6, 2) := by decide +kernel
theorem dX3_pairSquare_90 : decode cX3_pairSquare 90 = .ok (.aload_n 0, 1) := by decide +kernel
theorem dX3_pairSquare_91 : decode cX3_pairSquare 91 = .ok (.iload_n 2, 1) := by decide +kernel
theorem dX3_pairSquare_92 : decode cX3_pairSquare 92 = .ok (.invokevirtual 35, 3) := by decide +kernel
theorem dX3_pairSquare_95 : decode cX3_pairSquare 95 = .ok (.imul, 1) := by decide +kernel
theorem dX3_pairSquare_96 : decode cX3_pairSquare 96 = .ok (.iadd, 1) := by decide +kernel
theorem dX3_pairSquare_97 : decode cX3_pairSquare 97 = .ok (.i2l, 1) := by decide +kernel
theorem dX3_pairSquare_98 : decode cX3_pairSquare 98 = .ok (.lload 7, 2) := by decide +kernel
theorem dX3_pairSquare_100 : decode cX3_pairSquare 100 = .ok (.lmul, 1) := by decide +kernel
theorem dX3_pairSquare_101 : decode cX3_pairSquare 101 = .ok (.lsub, 1) := by decide +kernel
theorem dX3_pairSquare_102 : decode cX3_pairSquare 102 = .ok (.lstore 13, 2) := by decide +kernel
theorem dX3_pairSquare_104 : decode cX3_pairSquare 104 = .ok (.lload 11, 2) := by decide +kernel
theorem dX3_pairSquare_106 : decode cX3_pairSquare 106 = .ok (.lload 11, 2) := by decide +kernel
theorem dX3_pairSquare_108 : decode cX3_pairSquare 108 = .ok (.lmul, 1) := by decide +kernel
theorem dX3_pairSquare_109 : decode cX3_pairSquare 109 = .ok (.lload 13, 2) := by decide +kernel
theorem dX3_pairSquare_111 : decode cX3_pairSquare 111 = .ok (.lload 13, 2) := by decide +kernel
theorem dX3_pairSquare_113 : decode cX3_pairSquare 113 = .ok (.lmul, 1) := by decide +kernel
theorem dX3_pairSquare_114 : decode cX3_pairSquare 114 = .ok (.ladd, 1) := by decide +kernel
theorem dX3_pairSquare_115 : decode cX3_pairSquare 115 = .ok (.lreturn, 1) := by decide +kernel
theorem dX3_pairBase_0 : decode cX3_pairBase 0 = .ok (.aload_n 0, 1) := by decide +kernel
theorem dX3_pairBase_1 : decode cX3_pairBase 1 = .ok (.iload_n 1, 1) := by decide +kernel
theorem dX3_pairBase_2 : decode cX3_pairBase 2 = .ok (.invokevirtual 49, 3) := by decide +kernel
theorem dX3_pairBase_5 : decode cX3_pairBase 5 = .ok (.i2l, 1) := by decide +kernel
theorem dX3_pairBase_6 : decode cX3_pairBase 6 = .ok (.aload_n 0, 1) := by decide +kernel
theorem dX3_pairBase_7 : decode cX3_pairBase 7 = .ok (.iload_n 2, 1) := by decide +kernel
theorem dX3_pairBase_8 : decode cX3_pairBase 8 = .ok (.invokevirtual 49, 3) := by decide +kernel
theorem dX3_pairBase_11 : decode cX3_pairBase 11 = .ok (.i2l, 1) := by decide +kernel
theorem dX3_pairBase_12 : decode cX3_pairBase 12 = .ok (.lmul, 1) := by decide +kernel
theorem dX3_pairBase_13 : decode cX3_pairBase 13 = .ok (.lstore_n 3, 1) := by decide +kernel
theorem dX3_pairBase_14 : decode cX3_pairBase 14 = .ok (.lload_n 3, 1) := by decide +kernel
theorem dX3_pairBase_15 : decode cX3_pairBase 15 = .ok (.lload_n 3, 1) := by decide +kernel
theorem dX3_pairBase_16 : decode cX3_pairBase 16 = .ok (.lmul, 1) := by decide +kernel
theorem dX3_pairBase_17 : decode cX3_pairBase 17 = .ok (.lreturn, 1) := by decide +kernel
theorem dX3_part_0 : decode cX3_part 0 = .ok (.iload_n 2, 1) := by decide +kernel
theorem dX3_part_1 : decode cX3_part 1 = .ok (.iconst 2, 1) := by decide +kernel
theorem dX3_part_2 : decode cX3_part 2 = .ok (.irem, 1) := by decide +kernel
theorem dX3_part_3 : decode cX3_part 3 = .ok (.ifCond .ne 23, 3) := by decide +kernel
theorem dX3_part_6 : decode cX3_part 6 = .ok (.iload_n 3, 1) := by decide +kernel
theorem dX3_part_7 : decode cX3_part 7 = .ok (.ifCond .eq 11, 3) := by decide +kernel
theorem dX3_part_10 : decode cX3_part 10 = .ok (.aload_n 0, 1) := by decide +kernel
theorem dX3_part_11 : decode cX3_part 11 = .ok (.iload_n 1, 1) := by decide +kernel
theorem dX3_part_12 : decode cX3_part 12 = .ok (.invokevirtual 39, 3) := by decide +kernel
theorem dX3_part_15 : decode cX3_part 15 = .ok (.goto 29, 3) := by decide +kernel
theorem dX3_part_18 : decode cX3_part 18 = .ok (.aload_n 0, 1) := by decide +kernel
theorem dX3_part_19 : decode cX3_part 19 = .ok (.iload_n 1, 1) := by decide +kernel
theorem dX3_part_20 : decode cX3_part 20 = .ok (.invokevirtual 35, 3) := by decide +kernel
theorem dX3_part_23 : decode cX3_part 23 = .ok (.goto 21, 3) := by decide +kernel
theorem dX3_part_26 : decode cX3_part 26 = .ok (.iload_n 3, 1) := by decide +kernel
theorem dX3_part_27 : decode cX3_part 27 = .ok (.ifCond .eq 11, 3) := by decide +kernel
theorem dX3_part_30 : decode cX3_part 30 = .ok (.aload_n 0, 1) := by decide +kernel
theorem dX3_part_31 : decode cX3_part 31 = .ok (.iload_n 1, 1) := by decide +kernel
theorem dX3_part_32 : decode cX3_part 32 = .ok (.invokevirtual 35, 3) := by decide +kernel
theorem dX3_part_35 : decode cX3_part 35 = .ok (.goto 9, 3) := by decide +kernel
theorem dX3_part_38 : decode cX3_part 38 = .ok (.aload_n 0, 1) := by decide +kernel
theorem dX3_part_39 : decode cX3_part 39 = .ok (.iload_n 1, 1) := by decide +kernel
theorem dX3_part_40 : decode cX3_part 40 = .ok (.invokevirtual 39, 3) := by decide +kernel
theorem dX3_part_43 : decode cX3_part 43 = .ok (.ineg, 1) := by decide +kernel
theorem dX3_part_44 : decode cX3_part 44 = .ok (.istore 4, 2) := by decide +kernel
theorem dX3_part_46 : decode cX3_part 46 = .ok (.iload_n 2, 1) := by decide +kernel
theorem dX3_part_47 : decode cX3_part 47 = .ok (.iconst 2, 1) := by decide +kernel
theorem dX3_part_48 : decode cX3_part 48 = .ok (.if_icmp .ge 8, 3) := by decide +kernel
theorem dX3_part_51 : decode cX3_part 51 = .ok (.iload 4, 2) := by decide +kernel
theorem dX3_part_53 : decode cX3_part 53 = .ok (.goto 6, 3) := by decide +kernel
theorem dX3_part_56 : decode cX3_part 56 = .ok (.iload 4, 2) := by decide +kernel
theorem dX3_part_58 : decode cX3_part 58 = .ok (.ineg, 1) := by decide +kernel
theorem dX3_part_59 : decode cX3_part 59 = .ok (.ireturn, 1) := by decide +kernel
theorem dX3_tripleSquare_0 : decode cX3_tripleSquare 0 = .ok (.aload_n 0, 1) := by decide +kernel
theorem dX3_tripleSquare_1 : decode cX3_tripleSquare 1 = .ok (.iload_n 2, 1) := by decide +kernel
theorem dX3_tripleSquare_2 : decode cX3_tripleSquare 2 = .ok (.invokevirtual 49, 3) := by decide +kernel
theorem dX3_tripleSquare_5 : decode cX3_tripleSquare 5 = .ok (.i2l, 1) := by decide +kernel
theorem dX3_tripleSquare_6 : decode cX3_tripleSquare 6 = .ok (.aload_n 0, 1) := by decide +kernel
theorem dX3_tripleSquare_7 : decode cX3_tripleSquare 7 = .ok (.iload_n 3, 1) := by decide +kernel
theorem dX3_tripleSquare_8 : decode cX3_tripleSquare 8 = .ok (.invokevirtual 49, 3) := by decide +kernel
theorem dX3_tripleSquare_11 : decode cX3_tripleSquare 11 = .ok (.i2l, 1) := by decide +kernel
theorem dX3_tripleSquare_12 : decode cX3_tripleSquare 12 = .ok (.lmul, 1) := by decide +kernel
theorem dX3_tripleSquare_13 : decode cX3_tripleSquare 13 = .ok (.lstore 5, 2) := by decide +kernel
theorem dX3_tripleSquare_15 : decode cX3_tripleSquare 15 = .ok (.aload_n 0, 1) := by decide +kernel
theorem dX3_tripleSquare_16 : decode cX3_tripleSquare 16 = .ok (.iload_n 1, 1) := by decide +kernel
theorem dX3_tripleSquare_17 : decode cX3_tripleSquare 17 = .ok (.invokevirtual 49, 3) := by decide +kernel
theorem dX3_tripleSquare_20 : decode cX3_tripleSquare 20 = .ok (.i2l, 1) := by decide +kernel
theorem dX3_tripleSquare_21 : decode cX3_tripleSquare 21 = .ok (.aload_n 0, 1) := by decide +kernel
theorem dX3_tripleSquare_22 : decode cX3_tripleSquare 22 = .ok (.iload_n 3, 1) := by decide +kernel
theorem dX3_tripleSquare_23 : decode cX3_tripleSquare 23 = .ok (.invokevirtual 49, 3) := by decide +kernel
theorem dX3_tripleSquare_26 : decode cX3_tripleSquare 26 = .ok (.i2l, 1) := by decide +kernel
theorem dX3_tripleSquare_27 : decode cX3_tripleSquare 27 = .ok (.lmul, 1) := by decide +kernel
theorem dX3_tripleSquare_28 : decode cX3_tripleSquare 28 = .ok (.lstore 7, 2) := by decide +kernel
theorem dX3_tripleSquare_30 : decode cX3_tripleSquare 30 = .ok (.aload_n 0, 1) := by decide +kernel
theorem dX3_tripleSquare_31 : decode cX3_tripleSquare 31 = .ok (.iload_n 1, 1) := by decide +kernel
theorem dX3_tripleSquare_32 : decode cX3_tripleSquare 32 = .ok (.invokevirtual 49, 3) := by decide +kernel
theorem dX3_tripleSquare_35 : decode cX3_tripleSquare 35 = .ok (.i2l, 1) := by decide +kernel
theorem dX3_tripleSquare_36 : decode cX3_tripleSquare 36 = .ok (.aload_n 0, 1) := by decide +kernel
theorem dX3_tripleSquare_37 : decode cX3_tripleSquare 37 = .ok (.iload_n 2, 1) := by decide +kernel
theorem dX3_tripleSquare_38 : decode cX3_tripleSquare 38 = .ok (.invokevirtual 49, 3) := by decide +kernel
theorem dX3_tripleSquare_41 : decode cX3_tripleSquare 41 = .ok (.i2l, 1) := by decide +kernel
theorem dX3_tripleSquare_42 : decode cX3_tripleSquare 42 = .ok (.lmul, 1) := by decide +kernel
theorem dX3_tripleSquare_43 : decode cX3_tripleSquare 43 = .ok (.lstore 9, 2) := by decide +kernel
theorem dX3_tripleSquare_45 : decode cX3_tripleSquare 45 = .ok (.aload_n 0, 1) := by decide +kernel
theorem dX3_tripleSquare_46 : decode cX3_tripleSquare 46 = .ok (.iload_n 1, 1) := by decide +kernel
theorem dX3_tripleSquare_47 : decode cX3_tripleSquare 47 = .ok (.iload 4, 2) := by decide +kernel
theorem dX3_tripleSquare_49 : decode cX3_tripleSquare 49 = .ok (.bipush 16, 2) := by decide +kernel
theorem dX3_tripleSquare_51 : decode cX3_tripleSquare 51 = .ok (.idiv, 1) := by decide +kernel
theorem dX3_tripleSquare_52 : decode cX3_tripleSquare 52 = .ok (.iconst 0, 1) := by decide +kernel
theorem dX3_tripleSquare_53 : decode cX3_tripleSquare 53 = .ok (.invokevirtual 62, 3) := by decide +kernel
theorem dX3_tripleSquare_56 : decode cX3_tripleSquare 56 = .ok (.i2l, 1) := by decide +kernel
theorem dX3_tripleSquare_57 : decode cX3_tripleSquare 57 = .ok (.lload 5, 2) := by decide +kernel
theorem dX3_tripleSquare_59 : decode cX3_tripleSquare 59 = .ok (.lmul, 1) := by decide +kernel
theorem dX3_tripleSquare_60 : decode cX3_tripleSquare 60 = .ok (.aload_n 0, 1) := by decide +kernel
theorem dX3_tripleSquare_61 : decode cX3_tripleSquare 61 = .ok (.iload_n 2, 1) := by decide +kernel
theorem dX3_tripleSquare_62 : decode cX3_tripleSquare 62 = .ok (.iload 4, 2) := by decide +kernel
theorem dX3_tripleSquare_64 : decode cX3_tripleSquare 64 = .ok (.iconst 4, 1) := by decide +kernel
theorem dX3_tripleSquare_65 : decode cX3_tripleSquare 65 = .ok (.idiv, 1) := by decide +kernel
theorem dX3_tripleSquare_66 : decode cX3_tripleSquare 66 = .ok (.iconst 4, 1) := by decide +kernel
theorem dX3_tripleSquare_67 : decode cX3_tripleSquare 67 = .ok (.irem, 1) := by decide +kernel
theorem dX3_tripleSquare_68 : decode cX3_tripleSquare 68 = .ok (.iconst 0, 1) := by decide +kernel
theorem dX3_tripleSquare_69 : decode cX3_tripleSquare 69 = .ok (.invokevirtual 62, 3) := by decide +kernel
theorem dX3_tripleSquare_72 : decode cX3_tripleSquare 72 = .ok (.i2l, 1) := by decide +kernel
theorem dX3_tripleSquare_73 : decode cX3_tripleSquare 73 = .ok (.lload 7, 2) := by decide +kernel
theorem dX3_tripleSquare_75 : decode cX3_tripleSquare 75 = .ok (.lmul, 1) := by decide +kernel
theorem dX3_tripleSquare_76 : decode cX3_tripleSquare 76 = .ok (.ladd, 1) := by decide +kernel
theorem dX3_tripleSquare_77 : decode cX3_tripleSquare 77 = .ok (.aload_n 0, 1) := by decide +kernel
theorem dX3_tripleSquare_78 : decode cX3_tripleSquare 78 = .ok (.iload_n 3, 1) := by decide +kernel
theorem dX3_tripleSquare_79 : decode cX3_tripleSquare 79 = .ok (.iload 4, 2) := by decide +kernel
theorem dX3_tripleSquare_81 : decode cX3_tripleSquare 81 = .ok (.iconst 4, 1) := by decide +kernel
theorem dX3_tripleSquare_82 : decode cX3_tripleSquare 82 = .ok (.irem, 1) := by decide +kernel
theorem dX3_tripleSquare_83 : decode cX3_tripleSquare 83 = .ok (.iconst 0, 1) := by decide +kernel
theorem dX3_tripleSquare_84 : decode cX3_tripleSquare 84 = .ok (.invokevirtual 62, 3) := by decide +kernel
theorem dX3_tripleSquare_87 : decode cX3_tripleSquare 87 = .ok (.i2l, 1) := by decide +kernel
theorem dX3_tripleSquare_88 : decode cX3_tripleSquare 88 = .ok (.lload 9, 2) := by decide +kernel
theorem dX3_tripleSquare_90 : decode cX3_tripleSquare 90 = .ok (.lmul, 1) := by decide +kernel
theorem dX3_tripleSquare_91 : decode cX3_tripleSquare 91 = .ok (.ladd, 1) := by decide +kernel
theorem dX3_tripleSquare_92 : decode cX3_tripleSquare 92 = .ok (.lstore 11, 2) := by decide +kernel
theorem dX3_tripleSquare_94 : decode cX3_tripleSquare 94 = .ok (.aload_n 0, 1) := by decide +kernel
theorem dX3_tripleSquare_95 : decode cX3_tripleSquare 95 = .ok (.iload_n 1, 1) := by decide +kernel
theorem dX3_tripleSquare_96 : decode cX3_tripleSquare 96 = .ok (.iload 4, 2) := by decide +kernel
theorem dX3_tripleSquare_98 : decode cX3_tripleSquare 98 = .ok (.bipush 16, 2) := by decide +kernel
theorem dX3_tripleSquare_100 : decode cX3_tripleSquare 100 = .ok (.idiv, 1) := by decide +kernel
theorem dX3_tripleSquare_101 : decode cX3_tripleSquare 101 = .ok (.iconst 1, 1) := by decide +kernel
theorem dX3_tripleSquare_102 : decode cX3_tripleSquare 102 = .ok (.invokevirtual 62, 3) := by decide +kernel
theorem dX3_tripleSquare_105 : decode cX3_tripleSquare 105 = .ok (.i2l, 1) := by decide +kernel
theorem dX3_tripleSquare_106 : decode cX3_tripleSquare 106 = .ok (.lload 5, 2) := by decide +kernel
theorem dX3_tripleSquare_108 : decode cX3_tripleSquare 108 = .ok (.lmul, 1) := by decide +kernel
theorem dX3_tripleSquare_109 : decode cX3_tripleSquare 109 = .ok (.aload_n 0, 1) := by decide +kernel
theorem dX3_tripleSquare_110 : decode cX3_tripleSquare 110 = .ok (.iload_n 2, 1) := by decide +kernel
theorem dX3_tripleSquare_111 : decode cX3_tripleSquare 111 = .ok (.iload 4, 2) := by decide +kernel
theorem dX3_tripleSquare_113 : decode cX3_tripleSquare 113 = .ok (.iconst 4, 1) := by decide +kernel
theorem dX3_tripleSquare_114 : decode cX3_tripleSquare 114 = .ok (.idiv, 1) := by decide +kernel
theorem dX3_tripleSquare_115 : decode cX3_tripleSquare 115 = .ok (.iconst 4, 1) := by decide +kernel
theorem dX3_tripleSquare_116 : decode cX3_tripleSquare 116 = .ok (.irem, 1) := by decide +kernel
theorem dX3_tripleSquare_117 : decode cX3_tripleSquare 117 = .ok (.iconst 1, 1) := by decide +kernel
theorem dX3_tripleSquare_118 : decode cX3_tripleSquare 118 = .ok (.invokevirtual 62, 3) := by decide +kernel
theorem dX3_tripleSquare_121 : decode cX3_tripleSquare 121 = .ok (.i2l, 1) := by decide +kernel
theorem dX3_tripleSquare_122 : decode cX3_tripleSquare 122 = .ok (.lload 7, 2) := by decide +kernel
theorem dX3_tripleSquare_124 : decode cX3_tripleSquare 124 = .ok (.lmul, 1) := by decide +kernel
theorem dX3_tripleSquare_125 : decode cX3_tripleSquare 125 = .ok (.ladd, 1) := by decide +kernel
theorem dX3_tripleSquare_126 : decode cX3_tripleSquare 126 = .ok (.aload_n 0, 1) := by decide +kernel
theorem dX3_tripleSquare_127 : decode cX3_tripleSquare 127 = .ok (.iload_n 3, 1) := by decide +kernel
theorem dX3_tripleSquare_128 : decode cX3_tripleSquare 128 = .ok (.iload 4, 2) := by decide +kernel
theorem dX3_tripleSquare_130 : decode cX3_tripleSquare 130 = .ok (.iconst 4, 1) := by decide +kernel
theorem dX3_tripleSquare_131 : decode cX3_tripleSquare 131 = .ok (.irem, 1) := by decide +kernel
theorem dX3_tripleSquare_132 : decode cX3_tripleSquare 132 = .ok (.iconst 1, 1) := by decide +kernel
theorem dX3_tripleSquare_133 : decode cX3_tripleSquare 133 = .ok (.invokevirtual 62, 3) := by decide +kernel
theorem dX3_tripleSquare_136 : decode cX3_tripleSquare 136 = .ok (.i2l, 1) := by decide +kernel
theorem dX3_tripleSquare_137 : decode cX3_tripleSquare 137 = .ok (.lload 9, 2) := by decide +kernel
theorem dX3_tripleSquare_139 : decode cX3_tripleSquare 139 = .ok (.lmul, 1) := by decide +kernel
theorem dX3_tripleSquare_140 : decode cX3_tripleSquare 140 = .ok (.ladd, 1) := by decide +kernel
theorem dX3_tripleSquare_141 : decode cX3_tripleSquare 141 = .ok (.lstore 13, 2) := by decide +kernel
theorem dX3_tripleSquare_143 : decode cX3_tripleSquare 143 = .ok (.lload 11, 2) := by decide +kernel
theorem dX3_tripleSquare_145 : decode cX3_tripleSquare 145 = .ok (.lload 11, 2) := by decide +kernel
theorem dX3_tripleSquare_147 : decode cX3_tripleSquare 147 = .ok (.lmul, 1) := by decide +kernel
theorem dX3_tripleSquare_148 : decode cX3_tripleSquare 148 = .ok (.lload 13, 2) := by decide +kernel
theorem dX3_tripleSquare_150 : decode cX3_tripleSquare 150 = .ok (.lload 13, 2) := by decide +kernel
theorem dX3_tripleSquare_152 : decode cX3_tripleSquare 152 = .ok (.lmul, 1) := by decide +kernel
theorem dX3_tripleSquare_153 : decode cX3_tripleSquare 153 = .ok (.ladd, 1) := by decide +kernel
theorem dX3_tripleSquare_154 : decode cX3_tripleSquare 154 = .ok (.lreturn, 1) := by decide +kernel
theorem dX3_tripleBase_0 : decode cX3_tripleBase 0 = .ok (.aload_n 0, 1) := by decide +kernel
theorem dX3_tripleBase_1 : decode cX3_tripleBase 1 = .ok (.iload_n 1, 1) := by decide +kernel
theorem dX3_tripleBase_2 : decode cX3_tripleBase 2 = .ok (.invokevirtual 49, 3) := by decide +kernel
theorem dX3_tripleBase_5 : decode cX3_tripleBase 5 = .ok (.i2l, 1) := by decide +kernel
theorem dX3_tripleBase_6 : decode cX3_tripleBase 6 = .ok (.aload_n 0, 1) := by decide +kernel
theorem dX3_tripleBase_7 : decode cX3_tripleBase 7 = .ok (.iload_n 2, 1) := by decide +kernel
theorem dX3_tripleBase_8 : decode cX3_tripleBase 8 = .ok (.invokevirtual 49, 3) := by decide +kernel
theorem dX3_tripleBase_11 : decode cX3_tripleBase 11 = .ok (.i2l, 1) := by decide +kernel
theorem dX3_tripleBase_12 : decode cX3_tripleBase 12 = .ok (.lmul, 1) := by decide +kernel
theorem dX3_tripleBase_13 : decode cX3_tripleBase 13 = .ok (.aload_n 0, 1) := by decide +kernel
theorem dX3_tripleBase_14 : decode cX3_tripleBase 14 = .ok (.iload_n 3, 1) := by decide +kernel
theorem dX3_tripleBase_15 : decode cX3_tripleBase 15 = .ok (.invokevirtual 49, 3) := by decide +kernel
theorem dX3_tripleBase_18 : decode cX3_tripleBase 18 = .ok (.i2l, 1) := by decide +kernel
theorem dX3_tripleBase_19 : decode cX3_tripleBase 19 = .ok (.lmul, 1) := by decide +kernel
theorem dX3_tripleBase_20 : decode cX3_tripleBase 20 = .ok (.lstore 4, 2) := by decide +kernel
theorem dX3_tripleBase_22 : decode cX3_tripleBase 22 = .ok (.lload 4, 2) := by decide +kernel
theorem dX3_tripleBase_24 : decode cX3_tripleBase 24 = .ok (.lload 4, 2) := by decide +kernel
theorem dX3_tripleBase_26 : decode cX3_tripleBase 26 = .ok (.lmul, 1) := by decide +kernel
theorem dX3_tripleBase_27 : decode cX3_tripleBase 27 = .ok (.lreturn, 1) := by decide +kernel
theorem dX3_kindOf_0 : decode cX3_kindOf 0 = .ok (.lload_n 1, 1) := by decide +kernel
theorem dX3_kindOf_1 : decode cX3_kindOf 1 = .ok (.lconst 0, 1) := by decide +kernel
theorem dX3_kindOf_2 : decode cX3_kindOf 2 = .ok (.lcmp, 1) := by decide +kernel
theorem dX3_kindOf_3 : decode cX3_kindOf 3 = .ok (.ifCond .ne 5, 3) := by decide +kernel
theorem dX3_kindOf_6 : decode cX3_kindOf 6 = .ok (.iconst 0, 1) := by decide +kernel
theorem dX3_kindOf_7 : decode cX3_kindOf 7 = .ok (.ireturn, 1) := by decide +kernel
theorem dX3_kindOf_8 : decode cX3_kindOf 8 = .ok (.aload_n 0, 1) := by decide +kernel
theorem dX3_kindOf_9 : decode cX3_kindOf 9 = .ok (.getfield 7, 3) := by decide +kernel
theorem dX3_kindOf_12 : decode cX3_kindOf 12 = .ok (.iconst 2, 1) := by decide +kernel
theorem dX3_kindOf_13 : decode cX3_kindOf 13 = .ok (.iaload, 1) := by decide +kernel
theorem dX3_kindOf_14 : decode cX3_kindOf 14 = .ok (.i2l, 1) := by decide +kernel
theorem dX3_kindOf_15 : decode cX3_kindOf 15 = .ok (.aload_n 0, 1) := by decide +kernel
theorem dX3_kindOf_16 : decode cX3_kindOf 16 = .ok (.getfield 7, 3) := by decide +kernel
theorem dX3_kindOf_19 : decode cX3_kindOf 19 = .ok (.iconst 2, 1) := by decide +kernel
theorem dX3_kindOf_20 : decode cX3_kindOf 20 = .ok (.iaload, 1) := by decide +kernel
theorem dX3_kindOf_21 : decode cX3_kindOf 21 = .ok (.i2l, 1) := by decide +kernel
theorem dX3_kindOf_22 : decode cX3_kindOf 22 = .ok (.lmul, 1) := by decide +kernel
theorem dX3_kindOf_23 : decode cX3_kindOf 23 = .ok (.lstore 5, 2) := by decide +kernel
theorem dX3_kindOf_25 : decode cX3_kindOf 25 = .ok (.aload_n 0, 1) := by decide +kernel
theorem dX3_kindOf_26 : decode cX3_kindOf 26 = .ok (.getfield 7, 3) := by decide +kernel
theorem dX3_kindOf_29 : decode cX3_kindOf 29 = .ok (.iconst 3, 1) := by decide +kernel
theorem dX3_kindOf_30 : decode cX3_kindOf 30 = .ok (.iaload, 1) := by decide +kernel
theorem dX3_kindOf_31 : decode cX3_kindOf 31 = .ok (.i2l, 1) := by decide +kernel
theorem dX3_kindOf_32 : decode cX3_kindOf 32 = .ok (.aload_n 0, 1) := by decide +kernel
theorem dX3_kindOf_33 : decode cX3_kindOf 33 = .ok (.getfield 7, 3) := by decide +kernel
theorem dX3_kindOf_36 : decode cX3_kindOf 36 = .ok (.iconst 3, 1) := by decide +kernel
theorem dX3_kindOf_37 : decode cX3_kindOf 37 = .ok (.iaload, 1) := by decide +kernel
theorem dX3_kindOf_38 : decode cX3_kindOf 38 = .ok (.i2l, 1) := by decide +kernel
theorem dX3_kindOf_39 : decode cX3_kindOf 39 = .ok (.lmul, 1) := by decide +kernel
theorem dX3_kindOf_40 : decode cX3_kindOf 40 = .ok (.lstore 7, 2) := by decide +kernel
theorem dX3_kindOf_42 : decode cX3_kindOf 42 = .ok (.lload 5, 2) := by decide +kernel
theorem dX3_kindOf_44 : decode cX3_kindOf 44 = .ok (.lload_n 3, 1) := by decide +kernel
theorem dX3_kindOf_45 : decode cX3_kindOf 45 = .ok (.lload_n 1, 1) := by decide +kernel
theorem dX3_kindOf_46 : decode cX3_kindOf 46 = .ok (.ldiv, 1) := by decide +kernel
theorem dX3_kindOf_47 : decode cX3_kindOf 47 = .ok (.lload_n 3, 1) := by decide +kernel
theorem dX3_kindOf_48 : decode cX3_kindOf 48 = .ok (.lload_n 1, 1) := by decide +kernel
theorem dX3_kindOf_49 : decode cX3_kindOf 49 = .ok (.lrem, 1) := by decide +kernel
theorem dX3_kindOf_50 : decode cX3_kindOf 50 = .ok (.lconst 0, 1) := by decide +kernel
theorem dX3_kindOf_51 : decode cX3_kindOf 51 = .ok (.lcmp, 1) := by decide +kernel
theorem dX3_kindOf_52 : decode cX3_kindOf 52 = .ok (.ifCond .le 7, 3) := by decide +kernel
theorem dX3_kindOf_55 : decode cX3_kindOf 55 = .ok (.lconst 1, 1) := by decide +kernel
theorem dX3_kindOf_56 : decode cX3_kindOf 56 = .ok (.goto 4, 3) := by decide +kernel
theorem dX3_kindOf_59 : decode cX3_kindOf 59 = .ok (.lconst 0, 1) := by decide +kernel
theorem dX3_kindOf_60 : decode cX3_kindOf 60 = .ok (.ladd, 1) := by decide +kernel
theorem dX3_kindOf_61 : decode cX3_kindOf 61 = .ok (.lcmp, 1) := by decide +kernel
theorem dX3_kindOf_62 : decode cX3_kindOf 62 = .ok (.ifCond .lt 5, 3) := by decide +kernel
theorem dX3_kindOf_65 : decode cX3_kindOf 65 = .ok (.iconst 1, 1) := by decide +kernel
theorem dX3_kindOf_66 : decode cX3_kindOf 66 = .ok (.ireturn, 1) := by decide +kernel
theorem dX3_kindOf_67 : decode cX3_kindOf 67 = .ok (.lload 7, 2) := by decide +kernel
theorem dX3_kindOf_69 : decode cX3_kindOf 69 = .ok (.lload_n 3, 1) := by decide +kernel
theorem dX3_kindOf_70 : decode cX3_kindOf 70 = .ok (.lload_n 1, 1) := by decide +kernel
theorem dX3_kindOf_71 : decode cX3_kindOf 71 = .ok (.ldiv, 1) := by decide +kernel
theorem dX3_kindOf_72 : decode cX3_kindOf 72 = .ok (.lcmp, 1) := by decide +kernel
theorem dX3_kindOf_73 : decode cX3_kindOf 73 = .ok (.ifCond .gt 7, 3) := by decide +kernel
theorem dX3_kindOf_76 : decode cX3_kindOf 76 = .ok (.iconst 2, 1) := by decide +kernel
theorem dX3_kindOf_77 : decode cX3_kindOf 77 = .ok (.goto 4, 3) := by decide +kernel
theorem dX3_kindOf_80 : decode cX3_kindOf 80 = .ok (.iconst 3, 1) := by decide +kernel
theorem dX3_kindOf_81 : decode cX3_kindOf 81 = .ok (.ireturn, 1) := by decide +kernel
theorem dX3_periodOf_0 : decode cX3_periodOf 0 = .ok (.lload_n 2, 1) := by decide +kernel
theorem dX3_periodOf_1 : decode cX3_periodOf 1 = .ok (.lload_n 0, 1) := by decide +kernel
theorem dX3_periodOf_2 : decode cX3_periodOf 2 = .ok (.ldiv, 1) := by decide +kernel
theorem dX3_periodOf_3 : decode cX3_periodOf 3 = .ok (.lstore 4, 2) := by decide +kernel
theorem dX3_periodOf_5 : decode cX3_periodOf 5 = .ok (.lconst 0, 1) := by decide +kernel
theorem dX3_periodOf_6 : decode cX3_periodOf 6 = .ok (.lstore 6, 2) := by decide +kernel
theorem dX3_periodOf_8 : decode cX3_periodOf 8 = .ok (.ldc2_w 66, 3) := by decide +kernel
theorem dX3_periodOf_11 : decode cX3_periodOf 11 = .ok (.lstore 8, 2) := by decide +kernel
theorem dX3_periodOf_13 : decode cX3_periodOf 13 = .ok (.lload 6, 2) := by decide +kernel
theorem dX3_periodOf_15 : decode cX3_periodOf 15 = .ok (.lload 8, 2) := by decide +kernel
theorem dX3_periodOf_17 : decode cX3_periodOf 17 = .ok (.lcmp, 1) := by decide +kernel
theorem dX3_periodOf_18 : decode cX3_periodOf 18 = .ok (.ifCond .ge 67, 3) := by decide +kernel
theorem dX3_periodOf_21 : decode cX3_periodOf 21 = .ok (.lload 6, 2) := by decide +kernel
theorem dX3_periodOf_23 : decode cX3_periodOf 23 = .ok (.lload 8, 2) := by decide +kernel
theorem dX3_periodOf_25 : decode cX3_periodOf 25 = .ok (.ladd, 1) := by decide +kernel
theorem dX3_periodOf_26 : decode cX3_periodOf 26 = .ok (.lconst 1, 1) := by decide +kernel
theorem dX3_periodOf_27 : decode cX3_periodOf 27 = .ok (.ladd, 1) := by decide +kernel
theorem dX3_periodOf_28 : decode cX3_periodOf 28 = .ok (.ldc2_w 68, 3) := by decide +kernel
theorem dX3_periodOf_31 : decode cX3_periodOf 31 = .ok (.ldiv, 1) := by decide +kernel
theorem dX3_periodOf_32 : decode cX3_periodOf 32 = .ok (.lstore 10, 2) := by decide +kernel
theorem dX3_periodOf_34 : decode cX3_periodOf 34 = .ok (.lload 10, 2) := by decide +kernel
theorem dX3_periodOf_36 : decode cX3_periodOf 36 = .ok (.lload 10, 2) := by decide +kernel
theorem dX3_periodOf_38 : decode cX3_periodOf 38 = .ok (.lmul, 1) := by decide +kernel
theorem dX3_periodOf_39 : decode cX3_periodOf 39 = .ok (.lload 4, 2) := by decide +kernel
theorem dX3_periodOf_41 : decode cX3_periodOf 41 = .ok (.lcmp, 1) := by decide +kernel
theorem dX3_periodOf_42 : decode cX3_periodOf 42 = .ok (.ifCond .gt 7, 3) := by decide +kernel
theorem dX3_periodOf_45 : decode cX3_periodOf 45 = .ok (.iconst 1, 1) := by decide +kernel
theorem dX3_periodOf_46 : decode cX3_periodOf 46 = .ok (.goto 4, 3) := by decide +kernel
theorem dX3_periodOf_49 : decode cX3_periodOf 49 = .ok (.iconst 0, 1) := by decide +kernel
theorem dX3_periodOf_50 : decode cX3_periodOf 50 = .ok (.istore 12, 2) := by decide +kernel
theorem dX3_periodOf_52 : decode cX3_periodOf 52 = .ok (.iload 12, 2) := by decide +kernel
theorem dX3_periodOf_54 : decode cX3_periodOf 54 = .ok (.ifCond .eq 8, 3) := by decide +kernel
theorem dX3_periodOf_57 : decode cX3_periodOf 57 = .ok (.lload 10, 2) := by decide +kernel
theorem dX3_periodOf_59 : decode cX3_periodOf 59 = .ok (.goto 5, 3) := by decide +kernel
theorem dX3_periodOf_62 : decode cX3_periodOf 62 = .ok (.lload 6, 2) := by decide +kernel
theorem dX3_periodOf_64 : decode cX3_periodOf 64 = .ok (.lstore 6, 2) := by decide +kernel
theorem dX3_periodOf_66 : decode cX3_periodOf 66 = .ok (.iload 12, 2) := by decide +kernel
theorem dX3_periodOf_68 : decode cX3_periodOf 68 = .ok (.ifCond .eq 8, 3) := by decide +kernel
theorem dX3_periodOf_71 : decode cX3_periodOf 71 = .ok (.lload 8, 2) := by decide +kernel
theorem dX3_periodOf_73 : decode cX3_periodOf 73 = .ok (.goto 7, 3) := by decide +kernel
theorem dX3_periodOf_76 : decode cX3_periodOf 76 = .ok (.lload 10, 2) := by decide +kernel
theorem dX3_periodOf_78 : decode cX3_periodOf 78 = .ok (.lconst 1, 1) := by decide +kernel
theorem dX3_periodOf_79 : decode cX3_periodOf 79 = .ok (.lsub, 1) := by decide +kernel
theorem dX3_periodOf_80 : decode cX3_periodOf 80 = .ok (.lstore 8, 2) := by decide +kernel
theorem dX3_periodOf_82 : decode cX3_periodOf 82 = .ok (.goto (-69), 3) := by decide +kernel
theorem dX3_periodOf_85 : decode cX3_periodOf 85 = .ok (.lload 6, 2) := by decide +kernel
theorem dX3_periodOf_87 : decode cX3_periodOf 87 = .ok (.l2i, 1) := by decide +kernel
theorem dX3_periodOf_88 : decode cX3_periodOf 88 = .ok (.ireturn, 1) := by decide +kernel
theorem dX3_isPart_0 : decode cX3_isPart 0 = .ok (.iload_n 1, 1) := by decide +kernel
theorem dX3_isPart_1 : decode cX3_isPart 1 = .ok (.aload_n 0, 1) := by decide +kernel
theorem dX3_isPart_2 : decode cX3_isPart 2 = .ok (.getfield 7, 3) := by decide +kernel
theorem dX3_isPart_5 : decode cX3_isPart 5 = .ok (.iconst 1, 1) := by decide +kernel
theorem dX3_isPart_6 : decode cX3_isPart 6 = .ok (.iaload, 1) := by decide +kernel
theorem dX3_isPart_7 : decode cX3_isPart 7 = .ok (.ineg, 1) := by decide +kernel
theorem dX3_isPart_8 : decode cX3_isPart 8 = .ok (.aload_n 0, 1) := by decide +kernel
theorem dX3_isPart_9 : decode cX3_isPart 9 = .ok (.getfield 7, 3) := by decide +kernel
theorem dX3_isPart_12 : decode cX3_isPart 12 = .ok (.iconst 1, 1) := by decide +kernel
theorem dX3_isPart_13 : decode cX3_isPart 13 = .ok (.iaload, 1) := by decide +kernel
theorem dX3_isPart_14 : decode cX3_isPart 14 = .ok (.invokestatic 27, 3) := by decide +kernel
theorem dX3_isPart_17 : decode cX3_isPart 17 = .ok (.ifCond .eq 35, 3) := by decide +kernel
theorem dX3_isPart_20 : decode cX3_isPart 20 = .ok (.iload_n 2, 1) := by decide +kernel
theorem dX3_isPart_21 : decode cX3_isPart 21 = .ok (.aload_n 0, 1) := by decide +kernel
theorem dX3_isPart_22 : decode cX3_isPart 22 = .ok (.getfield 7, 3) := by decide +kernel
theorem dX3_isPart_25 : decode cX3_isPart 25 = .ok (.iconst 1, 1) := by decide +kernel
theorem dX3_isPart_26 : decode cX3_isPart 26 = .ok (.iaload, 1) := by decide +kernel
theorem dX3_isPart_27 : decode cX3_isPart 27 = .ok (.ineg, 1) := by decide +kernel
theorem dX3_isPart_28 : decode cX3_isPart 28 = .ok (.aload_n 0, 1) := by decide +kernel
theorem dX3_isPart_29 : decode cX3_isPart 29 = .ok (.getfield 7, 3) := by decide +kernel
theorem dX3_isPart_32 : decode cX3_isPart 32 = .ok (.iconst 1, 1) := by decide +kernel
theorem dX3_isPart_33 : decode cX3_isPart 33 = .ok (.iaload, 1) := by decide +kernel
theorem dX3_isPart_34 : decode cX3_isPart 34 = .ok (.invokestatic 27, 3) := by decide +kernel
theorem dX3_isPart_37 : decode cX3_isPart 37 = .ok (.ifCond .eq 15, 3) := by decide +kernel
theorem dX3_isPart_40 : decode cX3_isPart 40 = .ok (.iload_n 1, 1) := by decide +kernel
theorem dX3_isPart_41 : decode cX3_isPart 41 = .ok (.ifCond .ne 7, 3) := by decide +kernel
theorem dX3_isPart_44 : decode cX3_isPart 44 = .ok (.iload_n 2, 1) := by decide +kernel
theorem dX3_isPart_45 : decode cX3_isPart 45 = .ok (.ifCond .eq 7, 3) := by decide +kernel
theorem dX3_isPart_48 : decode cX3_isPart 48 = .ok (.iconst 1, 1) := by decide +kernel
theorem dX3_isPart_49 : decode cX3_isPart 49 = .ok (.goto 4, 3) := by decide +kernel
theorem dX3_isPart_52 : decode cX3_isPart 52 = .ok (.iconst 0, 1) := by decide +kernel
theorem dX3_isPart_53 : decode cX3_isPart 53 = .ok (.ireturn, 1) := by decide +kernel
theorem dX3_isCombination_0 : decode cX3_isCombination 0 = .ok (.aload_n 0, 1) := by decide +kernel
theorem dX3_isCombination_1 : decode cX3_isCombination 1 = .ok (.iload_n 1, 1) := by decide +kernel
theorem dX3_isCombination_2 : decode cX3_isCombination 2 = .ok (.iload_n 2, 1) := by decide +kernel
theorem dX3_isCombination_3 : decode cX3_isCombination 3 = .ok (.invokevirtual 70, 3) := by decide +kernel
theorem dX3_isCombination_6 : decode cX3_isCombination 6 = .ok (.ifCond .eq 28, 3) := by decide +kernel
theorem dX3_isCombination_9 : decode cX3_isCombination 9 = .ok (.aload_n 0, 1) := by decide +kernel
theorem dX3_isCombination_10 : decode cX3_isCombination 10 = .ok (.iload_n 3, 1) := by decide +kernel
theorem dX3_isCombination_11 : decode cX3_isCombination 11 = .ok (.iload 4, 2) := by decide +kernel
theorem dX3_isCombination_13 : decode cX3_isCombination 13 = .ok (.invokevirtual 73, 3) := by decide +kernel
theorem dX3_isCombination_16 : decode cX3_isCombination 16 = .ok (.ifCond .eq 18, 3) := by decide +kernel
theorem dX3_isCombination_19 : decode cX3_isCombination 19 = .ok (.aload_n 0, 1) := by decide +kernel
theorem dX3_isCombination_20 : decode cX3_isCombination 20 = .ok (.iload 5, 2) := by decide +kernel
theorem dX3_isCombination_22 : decode cX3_isCombination 22 = .ok (.iload 6, 2) := by decide +kernel
theorem dX3_isCombination_24 : decode cX3_isCombination 24 = .ok (.invokevirtual 73, 3) := by decide +kernel
theorem dX3_isCombination_27 : decode cX3_isCombination 27 = .ok (.ifCond .eq 7, 3) := by decide +kernel
theorem dX3_isCombination_30 : decode cX3_isCombination 30 = .ok (.iconst 1, 1) := by decide +kernel
theorem dX3_isCombination_31 : decode cX3_isCombination 31 = .ok (.goto 4, 3) := by decide +kernel
theorem dX3_isCombination_34 : decode cX3_isCombination 34 = .ok (.iconst 0, 1) := by decide +kernel
theorem dX3_isCombination_35 : decode cX3_isCombination 35 = .ok (.ireturn, 1) := by decide +kernel
theorem dX3_squareNumerator_0 : decode cX3_squareNumerator 0 = .ok (.aload_n 0, 1) := by decide +kernel
theorem dX3_squareNumerator_1 : decode cX3_squareNumerator 1 = .ok (.iload_n 1, 1) := by decide +kernel
theorem dX3_squareNumerator_2 : decode cX3_squareNumerator 2 = .ok (.iload_n 2, 1) := by decide +kernel
theorem dX3_squareNumerator_3 : decode cX3_squareNumerator 3 = .ok (.iload_n 3, 1) := by decide +kernel
theorem dX3_squareNumerator_4 : decode cX3_squareNumerator 4 = .ok (.iload 4, 2) := by decide +kernel
theorem dX3_squareNumerator_6 : decode cX3_squareNumerator 6 = .ok (.iload 5, 2) := by decide +kernel
theorem dX3_squareNumerator_8 : decode cX3_squareNumerator 8 = .ok (.iload 6, 2) := by decide +kernel
theorem dX3_squareNumerator_10 : decode cX3_squareNumerator 10 = .ok (.invokevirtual 76, 3) := by decide +kernel
theorem dX3_squareNumerator_13 : decode cX3_squareNumerator 13 = .ok (.ifCond .ne 7, 3) := by decide +kernel
theorem dX3_squareNumerator_16 : decode cX3_squareNumerator 16 = .ok (.ldc2_w 80, 3) := by decide +kernel
theorem dX3_squareNumerator_19 : decode cX3_squareNumerator 19 = .ok (.lreturn, 1) := by decide +kernel
theorem dX3_squareNumerator_20 : decode cX3_squareNumerator 20 = .ok (.aload_n 0, 1) := by decide +kernel
theorem dX3_squareNumerator_21 : decode cX3_squareNumerator 21 = .ok (.iload_n 1, 1) := by decide +kernel
theorem dX3_squareNumerator_22 : decode cX3_squareNumerator 22 = .ok (.iload_n 2, 1) := by decide +kernel
theorem dX3_squareNumerator_23 : decode cX3_squareNumerator 23 = .ok (.iload_n 3, 1) := by decide +kernel
theorem dX3_squareNumerator_24 : decode cX3_squareNumerator 24 = .ok (.iload 4, 2) := by decide +kernel
theorem dX3_squareNumerator_26 : decode cX3_squareNumerator 26 = .ok (.iload 5, 2) := by decide +kernel
theorem dX3_squareNumerator_28 : decode cX3_squareNumerator 28 = .ok (.iload 6, 2) := by decide +kernel
theorem dX3_squareNumerator_30 : decode cX3_squareNumerator 30 = .ok (.invokevirtual 82, 3) := by decide +kernel
theorem dX3_squareNumerator_33 : decode cX3_squareNumerator 33 = .ok (.lstore 7, 2) := by decide +kernel
theorem dX3_squareNumerator_35 : decode cX3_squareNumerator 35 = .ok (.lload 7, 2) := by decide +kernel
theorem dX3_squareNumerator_37 : decode cX3_squareNumerator 37 = .ok (.lload 7, 2) := by decide +kernel
theorem dX3_squareNumerator_39 : decode cX3_squareNumerator 39 = .ok (.aload_n 0, 1) := by decide +kernel
theorem dX3_squareNumerator_40 : decode cX3_squareNumerator 40 = .ok (.iload_n 1, 1) := by decide +kernel
theorem dX3_squareNumerator_41 : decode cX3_squareNumerator 41 = .ok (.iload_n 2, 1) := by decide +kernel
theorem dX3_squareNumerator_42 : decode cX3_squareNumerator 42 = .ok (.invokevirtual 86, 3) := by decide +kernel
theorem dX3_squareNumerator_45 : decode cX3_squareNumerator 45 = .ok (.invokestatic 52, 3) := by decide +kernel
theorem dX3_squareNumerator_48 : decode cX3_squareNumerator 48 = .ok (.ldiv, 1) := by decide +kernel
theorem dX3_squareNumerator_49 : decode cX3_squareNumerator 49 = .ok (.lreturn, 1) := by decide +kernel
theorem dX3_squareDenominator_0 : decode cX3_squareDenominator 0 = .ok (.aload_n 0, 1) := by decide +kernel
theorem dX3_squareDenominator_1 : decode cX3_squareDenominator 1 = .ok (.iload_n 1, 1) := by decide +kernel
theorem dX3_squareDenominator_2 : decode cX3_squareDenominator 2 = .ok (.iload_n 2, 1) := by decide +kernel
theorem dX3_squareDenominator_3 : decode cX3_squareDenominator 3 = .ok (.iload_n 3, 1) := by decide +kernel
theorem dX3_squareDenominator_4 : decode cX3_squareDenominator 4 = .ok (.iload 4, 2) := by decide +kernel
theorem dX3_squareDenominator_6 : decode cX3_squareDenominator 6 = .ok (.iload 5, 2) := by decide +kernel
theorem dX3_squareDenominator_8 : decode cX3_squareDenominator 8 = .ok (.iload 6, 2) := by decide +kernel
theorem dX3_squareDenominator_10 : decode cX3_squareDenominator 10 = .ok (.invokevirtual 76, 3) := by decide +kernel
theorem dX3_squareDenominator_13 : decode cX3_squareDenominator 13 = .ok (.ifCond .ne 7, 3) := by decide +kernel
theorem dX3_squareDenominator_16 : decode cX3_squareDenominator 16 = .ok (.ldc2_w 80, 3) := by decide +kernel
theorem dX3_squareDenominator_19 : decode cX3_squareDenominator 19 = .ok (.lreturn, 1) := by decide +kernel
theorem dX3_squareDenominator_20 : decode cX3_squareDenominator 20 = .ok (.aload_n 0, 1) := by decide +kernel
theorem dX3_squareDenominator_21 : decode cX3_squareDenominator 21 = .ok (.iload_n 1, 1) := by decide +kernel
theorem dX3_squareDenominator_22 : decode cX3_squareDenominator 22 = .ok (.iload_n 2, 1) := by decide +kernel
theorem dX3_squareDenominator_23 : decode cX3_squareDenominator 23 = .ok (.invokevirtual 86, 3) := by decide +kernel
theorem dX3_squareDenominator_26 : decode cX3_squareDenominator 26 = .ok (.lstore 7, 2) := by decide +kernel
theorem dX3_squareDenominator_28 : decode cX3_squareDenominator 28 = .ok (.lload 7, 2) := by decide +kernel
theorem dX3_squareDenominator_30 : decode cX3_squareDenominator 30 = .ok (.aload_n 0, 1) := by decide +kernel
theorem dX3_squareDenominator_31 : decode cX3_squareDenominator 31 = .ok (.iload_n 1, 1) := by decide +kernel
theorem dX3_squareDenominator_32 : decode cX3_squareDenominator 32 = .ok (.iload_n 2, 1) := by decide +kernel
theorem dX3_squareDenominator_33 : decode cX3_squareDenominator 33 = .ok (.iload_n 3, 1) := by decide +kernel
theorem dX3_squareDenominator_34 : decode cX3_squareDenominator 34 = .ok (.iload 4, 2) := by decide +kernel
theorem dX3_squareDenominator_36 : decode cX3_squareDenominator 36 = .ok (.iload 5, 2) := by decide +kernel
theorem dX3_squareDenominator_38 : decode cX3_squareDenominator 38 = .ok (.iload 6, 2) := by decide +kernel
theorem dX3_squareDenominator_40 : decode cX3_squareDenominator 40 = .ok (.invokevirtual 82, 3) := by decide +kernel
theorem dX3_squareDenominator_43 : decode cX3_squareDenominator 43 = .ok (.lload 7, 2) := by decide +kernel
theorem dX3_squareDenominator_45 : decode cX3_squareDenominator 45 = .ok (.invokestatic 52, 3) := by decide +kernel
theorem dX3_squareDenominator_48 : decode cX3_squareDenominator 48 = .ok (.ldiv, 1) := by decide +kernel
theorem dX3_squareDenominator_49 : decode cX3_squareDenominator 49 = .ok (.lreturn, 1) := by decide +kernel
theorem dX3_kind_0 : decode cX3_kind 0 = .ok (.aload_n 0, 1) := by decide +kernel
theorem dX3_kind_1 : decode cX3_kind 1 = .ok (.iload_n 1, 1) := by decide +kernel
theorem dX3_kind_2 : decode cX3_kind 2 = .ok (.iload_n 2, 1) := by decide +kernel
theorem dX3_kind_3 : decode cX3_kind 3 = .ok (.iload_n 3, 1) := by decide +kernel
theorem dX3_kind_4 : decode cX3_kind 4 = .ok (.iload 4, 2) := by decide +kernel
theorem dX3_kind_6 : decode cX3_kind 6 = .ok (.iload 5, 2) := by decide +kernel
theorem dX3_kind_8 : decode cX3_kind 8 = .ok (.iload 6, 2) := by decide +kernel
theorem dX3_kind_10 : decode cX3_kind 10 = .ok (.invokevirtual 76, 3) := by decide +kernel
theorem dX3_kind_13 : decode cX3_kind 13 = .ok (.ifCond .eq 29, 3) := by decide +kernel
theorem dX3_kind_16 : decode cX3_kind 16 = .ok (.aload_n 0, 1) := by decide +kernel
theorem dX3_kind_17 : decode cX3_kind 17 = .ok (.aload_n 0, 1) := by decide +kernel
theorem dX3_kind_18 : decode cX3_kind 18 = .ok (.iload_n 1, 1) := by decide +kernel
theorem dX3_kind_19 : decode cX3_kind 19 = .ok (.iload_n 2, 1) := by decide +kernel
theorem dX3_kind_20 : decode cX3_kind 20 = .ok (.iload_n 3, 1) := by decide +kernel
theorem dX3_kind_21 : decode cX3_kind 21 = .ok (.iload 4, 2) := by decide +kernel
theorem dX3_kind_23 : decode cX3_kind 23 = .ok (.iload 5, 2) := by decide +kernel
theorem dX3_kind_25 : decode cX3_kind 25 = .ok (.iload 6, 2) := by decide +kernel
theorem dX3_kind_27 : decode cX3_kind 27 = .ok (.invokevirtual 82, 3) := by decide +kernel
theorem dX3_kind_30 : decode cX3_kind 30 = .ok (.aload_n 0, 1) := by decide +kernel
theorem dX3_kind_31 : decode cX3_kind 31 = .ok (.iload_n 1, 1) := by decide +kernel
theorem dX3_kind_32 : decode cX3_kind 32 = .ok (.iload_n 2, 1) := by decide +kernel
theorem dX3_kind_33 : decode cX3_kind 33 = .ok (.invokevirtual 86, 3) := by decide +kernel
theorem dX3_kind_36 : decode cX3_kind 36 = .ok (.invokevirtual 90, 3) := by decide +kernel
theorem dX3_kind_39 : decode cX3_kind 39 = .ok (.goto 4, 3) := by decide +kernel
theorem dX3_kind_42 : decode cX3_kind 42 = .ok (.iconst (-1), 1) := by decide +kernel
theorem dX3_kind_43 : decode cX3_kind 43 = .ok (.ireturn, 1) := by decide +kernel
theorem dX3_laySquares_0 : decode cX3_laySquares 0 = .ok (.aload_n 0, 1) := by decide +kernel
theorem dX3_laySquares_1 : decode cX3_laySquares 1 = .ok (.iconst 0, 1) := by decide +kernel
theorem dX3_laySquares_2 : decode cX3_laySquares 2 = .ok (.putfield 94, 3) := by decide +kernel
theorem dX3_laySquares_5 : decode cX3_laySquares 5 = .ok (.aload_n 0, 1) := by decide +kernel
theorem dX3_laySquares_6 : decode cX3_laySquares 6 = .ok (.getfield 7, 3) := by decide +kernel
theorem dX3_laySquares_9 : decode cX3_laySquares 9 = .ok (.iconst 1, 1) := by decide +kernel
theorem dX3_laySquares_10 : decode cX3_laySquares 10 = .ok (.iaload, 1) := by decide +kernel
theorem dX3_laySquares_11 : decode cX3_laySquares 11 = .ok (.istore_n 3, 1) := by decide +kernel
theorem dX3_laySquares_12 : decode cX3_laySquares 12 = .ok (.iload_n 3, 1) := by decide +kernel
theorem dX3_laySquares_13 : decode cX3_laySquares 13 = .ok (.ineg, 1) := by decide +kernel
theorem dX3_laySquares_14 : decode cX3_laySquares 14 = .ok (.istore 4, 2) := by decide +kernel
theorem dX3_laySquares_16 : decode cX3_laySquares 16 = .ok (.iload 4, 2) := by decide +kernel
theorem dX3_laySquares_18 : decode cX3_laySquares 18 = .ok (.iload_n 3, 1) := by decide +kernel
theorem dX3_laySquares_19 : decode cX3_laySquares 19 = .ok (.if_icmp .gt 45, 3) := by decide +kernel
theorem dX3_laySquares_22 : decode cX3_laySquares 22 = .ok (.iload_n 3, 1) := by decide +kernel
theorem dX3_laySquares_23 : decode cX3_laySquares 23 = .ok (.ineg, 1) := by decide +kernel
theorem dX3_laySquares_24 : decode cX3_laySquares 24 = .ok (.istore 5, 2) := by decide +kernel
theorem dX3_laySquares_26 : decode cX3_laySquares 26 = .ok (.iload 5, 2) := by decide +kernel
theorem dX3_laySquares_28 : decode cX3_laySquares 28 = .ok (.iload_n 3, 1) := by decide +kernel
theorem dX3_laySquares_29 : decode cX3_laySquares 29 = .ok (.if_icmp .gt 29, 3) := by decide +kernel
theorem dX3_laySquares_32 : decode cX3_laySquares 32 = .ok (.iload 4, 2) := by decide +kernel
theorem dX3_laySquares_34 : decode cX3_laySquares 34 = .ok (.ifCond .ne 8, 3) := by decide +kernel
theorem dX3_laySquares_37 : decode cX3_laySquares 37 = .ok (.iload 5, 2) := by decide +kernel
theorem dX3_laySquares_39 : decode cX3_laySquares 39 = .ok (.ifCond .eq 13, 3) := by decide +kernel
theorem dX3_laySquares_42 : decode cX3_laySquares 42 = .ok (.aload_n 0, 1) := by decide +kernel
theorem dX3_laySquares_43 : decode cX3_laySquares 43 = .ok (.iload_n 1, 1) := by decide +kernel
theorem dX3_laySquares_44 : decode cX3_laySquares 44 = .ok (.iload_n 2, 1) := by decide +kernel
theorem dX3_laySquares_45 : decode cX3_laySquares 45 = .ok (.iload 4, 2) := by decide +kernel
theorem dX3_laySquares_47 : decode cX3_laySquares 47 = .ok (.iload 5, 2) := by decide +kernel
theorem dX3_laySquares_49 : decode cX3_laySquares 49 = .ok (.invokevirtual 97, 3) := by decide +kernel
theorem dX3_laySquares_52 : decode cX3_laySquares 52 = .ok (.iinc 5 1, 3) := by decide +kernel
theorem dX3_laySquares_55 : decode cX3_laySquares 55 = .ok (.goto (-29), 3) := by decide +kernel
theorem dX3_laySquares_58 : decode cX3_laySquares 58 = .ok (.iinc 4 1, 3) := by decide +kernel
theorem dX3_laySquares_61 : decode cX3_laySquares 61 = .ok (.goto (-45), 3) := by decide +kernel
theorem dX3_laySquares_64 : decode cX3_laySquares 64 = .ok (.return_, 1) := by decide +kernel
theorem dX3_layWith_0 : decode cX3_layWith 0 = .ok (.aload_n 0, 1) := by decide +kernel
theorem dX3_layWith_1 : decode cX3_layWith 1 = .ok (.getfield 7, 3) := by decide +kernel
theorem dX3_layWith_4 : decode cX3_layWith 4 = .ok (.iconst 1, 1) := by decide +kernel
theorem dX3_layWith_5 : decode cX3_layWith 5 = .ok (.iaload, 1) := by decide +kernel
theorem dX3_layWith_6 : decode cX3_layWith 6 = .ok (.istore 5, 2) := by decide +kernel
theorem dX3_layWith_8 : decode cX3_layWith 8 = .ok (.iload 5, 2) := by decide +kernel
theorem dX3_layWith_10 : decode cX3_layWith 10 = .ok (.ineg, 1) := by decide +kernel
theorem dX3_layWith_11 : decode cX3_layWith 11 = .ok (.istore 6, 2) := by decide +kernel
theorem dX3_layWith_13 : decode cX3_layWith 13 = .ok (.iload 6, 2) := by decide +kernel
theorem dX3_layWith_15 : decode cX3_layWith 15 = .ok (.iload 5, 2) := by decide +kernel
theorem dX3_layWith_17 : decode cX3_layWith 17 = .ok (.if_icmp .gt 54, 3) := by decide +kernel
theorem dX3_layWith_20 : decode cX3_layWith 20 = .ok (.iload 5, 2) := by decide +kernel
theorem dX3_layWith_22 : decode cX3_layWith 22 = .ok (.ineg, 1) := by decide +kernel
theorem dX3_layWith_23 : decode cX3_layWith 23 = .ok (.istore 7, 2) := by decide +kernel
theorem dX3_layWith_25 : decode cX3_layWith 25 = .ok (.iload 7, 2) := by decide +kernel
theorem dX3_layWith_27 : decode cX3_layWith 27 = .ok (.iload 5, 2) := by decide +kernel
theorem dX3_layWith_29 : decode cX3_layWith 29 = .ok (.if_icmp .gt 36, 3) := by decide +kernel
theorem dX3_layWith_32 : decode cX3_layWith 32 = .ok (.iload 6, 2) := by decide +kernel
theorem dX3_layWith_34 : decode cX3_layWith 34 = .ok (.ifCond .ne 8, 3) := by decide +kernel
theorem dX3_layWith_37 : decode cX3_layWith 37 = .ok (.iload 7, 2) := by decide +kernel
theorem dX3_layWith_39 : decode cX3_layWith 39 = .ok (.ifCond .eq 20, 3) := by decide +kernel
theorem dX3_layWith_42 : decode cX3_layWith 42 = .ok (.aload_n 0, 1) := by decide +kernel
theorem dX3_layWith_43 : decode cX3_layWith 43 = .ok (.aload_n 0, 1) := by decide +kernel
theorem dX3_layWith_44 : decode cX3_layWith 44 = .ok (.iload_n 1, 1) := by decide +kernel
theorem dX3_layWith_45 : decode cX3_layWith 45 = .ok (.iload_n 2, 1) := by decide +kernel
theorem dX3_layWith_46 : decode cX3_layWith 46 = .ok (.iload_n 3, 1) := by decide +kernel
theorem dX3_layWith_47 : decode cX3_layWith 47 = .ok (.iload 4, 2) := by decide +kernel
theorem dX3_layWith_49 : decode cX3_layWith 49 = .ok (.iload 6, 2) := by decide +kernel
theorem dX3_layWith_51 : decode cX3_layWith 51 = .ok (.iload 7, 2) := by decide +kernel
theorem dX3_layWith_53 : decode cX3_layWith 53 = .ok (.invokevirtual 82, 3) := by decide +kernel
theorem dX3_layWith_56 : decode cX3_layWith 56 = .ok (.invokevirtual 101, 3) := by decide +kernel
theorem dX3_layWith_59 : decode cX3_layWith 59 = .ok (.iinc 7 1, 3) := by decide +kernel
theorem dX3_layWith_62 : decode cX3_layWith 62 = .ok (.goto (-37), 3) := by decide +kernel
theorem dX3_layWith_65 : decode cX3_layWith 65 = .ok (.iinc 6 1, 3) := by decide +kernel
theorem dX3_layWith_68 : decode cX3_layWith 68 = .ok (.goto (-55), 3) := by decide +kernel
theorem dX3_layWith_71 : decode cX3_layWith 71 = .ok (.return_, 1) := by decide +kernel
theorem dX3_insert_0 : decode cX3_insert 0 = .ok (.aload_n 0, 1) := by decide +kernel
theorem dX3_insert_1 : decode cX3_insert 1 = .ok (.getfield 94, 3) := by decide +kernel
theorem dX3_insert_4 : decode cX3_insert 4 = .ok (.istore_n 3, 1) := by decide +kernel
theorem dX3_insert_5 : decode cX3_insert 5 = .ok (.iload_n 3, 1) := by decide +kernel
theorem dX3_insert_6 : decode cX3_insert 6 = .ok (.ifCond .le 36, 3) := by decide +kernel
theorem dX3_insert_9 : decode cX3_insert 9 = .ok (.aload_n 0, 1) := by decide +kernel
theorem dX3_insert_10 : decode cX3_insert 10 = .ok (.getfield 19, 3) := by decide +kernel
theorem dX3_insert_13 : decode cX3_insert 13 = .ok (.iload_n 3, 1) := by decide +kernel
theorem dX3_insert_14 : decode cX3_insert 14 = .ok (.iconst 1, 1) := by decide +kernel
theorem dX3_insert_15 : decode cX3_insert 15 = .ok (.isub, 1) := by decide +kernel
theorem dX3_insert_16 : decode cX3_insert 16 = .ok (.laload, 1) := by decide +kernel
theorem dX3_insert_17 : decode cX3_insert 17 = .ok (.lload_n 1, 1) := by decide +kernel
theorem dX3_insert_18 : decode cX3_insert 18 = .ok (.lcmp, 1) := by decide +kernel
theorem dX3_insert_19 : decode cX3_insert 19 = .ok (.ifCond .le 23, 3) := by decide +kernel
theorem dX3_insert_22 : decode cX3_insert 22 = .ok (.aload_n 0, 1) := by decide +kernel
theorem dX3_insert_23 : decode cX3_insert 23 = .ok (.getfield 19, 3) := by decide +kernel
theorem dX3_insert_26 : decode cX3_insert 26 = .ok (.iload_n 3, 1) := by decide +kernel
theorem dX3_insert_27 : decode cX3_insert 27 = .ok (.aload_n 0, 1) := by decide +kernel
theorem dX3_insert_28 : decode cX3_insert 28 = .ok (.getfield 19, 3) := by decide +kernel
theorem dX3_insert_31 : decode cX3_insert 31 = .ok (.iload_n 3, 1) := by decide +kernel
theorem dX3_insert_32 : decode cX3_insert 32 = .ok (.iconst 1, 1) := by decide +kernel
theorem dX3_insert_33 : decode cX3_insert 33 = .ok (.isub, 1) := by decide +kernel
theorem dX3_insert_34 : decode cX3_insert 34 = .ok (.laload, 1) := by decide +kernel
theorem dX3_insert_35 : decode cX3_insert 35 = .ok (.lastore, 1) := by decide +kernel
theorem dX3_insert_36 : decode cX3_insert 36 = .ok (.iinc 3 (-1), 3) := by decide +kernel
theorem dX3_insert_39 : decode cX3_insert 39 = .ok (.goto (-34), 3) := by decide +kernel
theorem dX3_insert_42 : decode cX3_insert 42 = .ok (.aload_n 0, 1) := by decide +kernel
theorem dX3_insert_43 : decode cX3_insert 43 = .ok (.getfield 19, 3) := by decide +kernel
theorem dX3_insert_46 : decode cX3_insert 46 = .ok (.iload_n 3, 1) := by decide +kernel
theorem dX3_insert_47 : decode cX3_insert 47 = .ok (.lload_n 1, 1) := by decide +kernel
theorem dX3_insert_48 : decode cX3_insert 48 = .ok (.lastore, 1) := by decide +kernel
theorem dX3_insert_49 : decode cX3_insert 49 = .ok (.aload_n 0, 1) := by decide +kernel
theorem dX3_insert_50 : decode cX3_insert 50 = .ok (.dup, 1) := by decide +kernel
theorem dX3_insert_51 : decode cX3_insert 51 = .ok (.getfield 94, 3) := by decide +kernel
theorem dX3_insert_54 : decode cX3_insert 54 = .ok (.iconst 1, 1) := by decide +kernel
theorem dX3_insert_55 : decode cX3_insert 55 = .ok (.iadd, 1) := by decide +kernel
theorem dX3_insert_56 : decode cX3_insert 56 = .ok (.putfield 94, 3) := by decide +kernel
theorem dX3_insert_59 : decode cX3_insert 59 = .ok (.return_, 1) := by decide +kernel
theorem dX3_placeOf_0 : decode cX3_placeOf 0 = .ok (.iload_n 1, 1) := by decide +kernel
theorem dX3_placeOf_1 : decode cX3_placeOf 1 = .ok (.istore_n 2, 1) := by decide +kernel
theorem dX3_placeOf_2 : decode cX3_placeOf 2 = .ok (.iconst 0, 1) := by decide +kernel
theorem dX3_placeOf_3 : decode cX3_placeOf 3 = .ok (.istore_n 3, 1) := by decide +kernel
theorem dX3_placeOf_4 : decode cX3_placeOf 4 = .ok (.iload_n 3, 1) := by decide +kernel
theorem dX3_placeOf_5 : decode cX3_placeOf 5 = .ok (.aload_n 0, 1) := by decide +kernel
theorem dX3_placeOf_6 : decode cX3_placeOf 6 = .ok (.getfield 94, 3) := by decide +kernel
theorem dX3_placeOf_9 : decode cX3_placeOf 9 = .ok (.if_icmp .ge 19, 3) := by decide +kernel
theorem dX3_placeOf_12 : decode cX3_placeOf 12 = .ok (.iload_n 2, 1) := by decide +kernel
theorem dX3_placeOf_13 : decode cX3_placeOf 13 = .ok (.ifCond .le 15, 3) := by decide +kernel
theorem dX3_placeOf_16 : decode cX3_placeOf 16 = .ok (.aload_n 0, 1) := by decide +kernel
theorem dX3_placeOf_17 : decode cX3_placeOf 17 = .ok (.iload_n 3, 1) := by decide +kernel
theorem dX3_placeOf_18 : decode cX3_placeOf 18 = .ok (.invokevirtual 105, 3) := by decide +kernel
theorem dX3_placeOf_21 : decode cX3_placeOf 21 = .ok (.istore_n 3, 1) := by decide +kernel
theorem dX3_placeOf_22 : decode cX3_placeOf 22 = .ok (.iinc 2 (-1), 3) := by decide +kernel
theorem dX3_placeOf_25 : decode cX3_placeOf 25 = .ok (.goto (-21), 3) := by decide +kernel
theorem dX3_placeOf_28 : decode cX3_placeOf 28 = .ok (.iload_n 3, 1) := by decide +kernel
theorem dX3_placeOf_29 : decode cX3_placeOf 29 = .ok (.ireturn, 1) := by decide +kernel
theorem dX3_behind_0 : decode cX3_behind 0 = .ok (.iload_n 1, 1) := by decide +kernel
theorem dX3_behind_1 : decode cX3_behind 1 = .ok (.istore_n 2, 1) := by decide +kernel
theorem dX3_behind_2 : decode cX3_behind 2 = .ok (.iload_n 2, 1) := by decide +kernel
theorem dX3_behind_3 : decode cX3_behind 3 = .ok (.aload_n 0, 1) := by decide +kernel
theorem dX3_behind_4 : decode cX3_behind 4 = .ok (.getfield 94, 3) := by decide +kernel
theorem dX3_behind_7 : decode cX3_behind 7 = .ok (.if_icmp .ge 25, 3) := by decide +kernel
theorem dX3_behind_10 : decode cX3_behind 10 = .ok (.aload_n 0, 1) := by decide +kernel
theorem dX3_behind_11 : decode cX3_behind 11 = .ok (.getfield 19, 3) := by decide +kernel
theorem dX3_behind_14 : decode cX3_behind 14 = .ok (.iload_n 2, 1) := by decide +kernel
theorem dX3_behind_15 : decode cX3_behind 15 = .ok (.laload, 1) := by decide +kernel
theorem dX3_behind_16 : decode cX3_behind 16 = .ok (.aload_n 0, 1) := by decide +kernel
theorem dX3_behind_17 : decode cX3_behind 17 = .ok (.getfield 19, 3) := by decide +kernel
theorem dX3_behind_20 : decode cX3_behind 20 = .ok (.iload_n 1, 1) := by decide +kernel
theorem dX3_behind_21 : decode cX3_behind 21 = .ok (.laload, 1) := by decide +kernel
theorem dX3_behind_22 : decode cX3_behind 22 = .ok (.lcmp, 1) := by decide +kernel
theorem dX3_behind_23 : decode cX3_behind 23 = .ok (.ifCond .ne 9, 3) := by decide +kernel
theorem dX3_behind_26 : decode cX3_behind 26 = .ok (.iinc 2 1, 3) := by decide +kernel
theorem dX3_behind_29 : decode cX3_behind 29 = .ok (.goto (-27), 3) := by decide +kernel
theorem dX3_behind_32 : decode cX3_behind 32 = .ok (.iload_n 2, 1) := by decide +kernel
theorem dX3_behind_33 : decode cX3_behind 33 = .ok (.ireturn, 1) := by decide +kernel
theorem dX3_beatCount_0 : decode cX3_beatCount 0 = .ok (.aload_n 0, 1) := by decide +kernel
theorem dX3_beatCount_1 : decode cX3_beatCount 1 = .ok (.iload_n 1, 1) := by decide +kernel
theorem dX3_beatCount_2 : decode cX3_beatCount 2 = .ok (.iload_n 2, 1) := by decide +kernel
theorem dX3_beatCount_3 : decode cX3_beatCount 3 = .ok (.invokevirtual 70, 3) := by decide +kernel
theorem dX3_beatCount_6 : decode cX3_beatCount 6 = .ok (.ifCond .ne 5, 3) := by decide +kernel
theorem dX3_beatCount_9 : decode cX3_beatCount 9 = .ok (.iconst (-1), 1) := by decide +kernel
theorem dX3_beatCount_10 : decode cX3_beatCount 10 = .ok (.ireturn, 1) := by decide +kernel
theorem dX3_beatCount_11 : decode cX3_beatCount 11 = .ok (.aload_n 0, 1) := by decide +kernel
theorem dX3_beatCount_12 : decode cX3_beatCount 12 = .ok (.iload_n 1, 1) := by decide +kernel
theorem dX3_beatCount_13 : decode cX3_beatCount 13 = .ok (.iload_n 2, 1) := by decide +kernel
theorem dX3_beatCount_14 : decode cX3_beatCount 14 = .ok (.invokevirtual 108, 3) := by decide +kernel
theorem dX3_beatCount_17 : decode cX3_beatCount 17 = .ok (.iconst 0, 1) := by decide +kernel
theorem dX3_beatCount_18 : decode cX3_beatCount 18 = .ok (.istore_n 3, 1) := by decide +kernel
theorem dX3_beatCount_19 : decode cX3_beatCount 19 = .ok (.iconst 0, 1) := by decide +kernel
theorem dX3_beatCount_20 : decode cX3_beatCount 20 = .ok (.istore 4, 2) := by decide +kernel
theorem dX3_beatCount_22 : decode cX3_beatCount 22 = .ok (.iload 4, 2) := by decide +kernel
theorem dX3_beatCount_24 : decode cX3_beatCount 24 = .ok (.aload_n 0, 1) := by decide +kernel
theorem dX3_beatCount_25 : decode cX3_beatCount 25 = .ok (.getfield 94, 3) := by decide +kernel
theorem dX3_beatCount_28 : decode cX3_beatCount 28 = .ok (.if_icmp .ge 17, 3) := by decide +kernel
theorem dX3_beatCount_31 : decode cX3_beatCount 31 = .ok (.iinc 3 1, 3) := by decide +kernel
theorem dX3_beatCount_34 : decode cX3_beatCount 34 = .ok (.aload_n 0, 1) := by decide +kernel
theorem dX3_beatCount_35 : decode cX3_beatCount 35 = .ok (.iload 4, 2) := by decide +kernel
theorem dX3_beatCount_37 : decode cX3_beatCount 37 = .ok (.invokevirtual 105, 3) := by decide +kernel
theorem dX3_beatCount_40 : decode cX3_beatCount 40 = .ok (.istore 4, 2) := by decide +kernel
theorem dX3_beatCount_42 : decode cX3_beatCount 42 = .ok (.goto (-20), 3) := by decide +kernel
theorem dX3_beatCount_45 : decode cX3_beatCount 45 = .ok (.iload_n 3, 1) := by decide +kernel
theorem dX3_beatCount_46 : decode cX3_beatCount 46 = .ok (.ireturn, 1) := by decide +kernel
theorem dX3_beat_0 : decode cX3_beat 0 = .ok (.aload_n 0, 1) := by decide +kernel
theorem dX3_beat_1 : decode cX3_beat 1 = .ok (.iload_n 1, 1) := by decide +kernel
theorem dX3_beat_2 : decode cX3_beat 2 = .ok (.iload_n 2, 1) := by decide +kernel
theorem dX3_beat_3 : decode cX3_beat 3 = .ok (.invokevirtual 70, 3) := by decide +kernel
theorem dX3_beat_6 : decode cX3_beat 6 = .ok (.ifCond .eq 7, 3) := by decide +kernel
theorem dX3_beat_9 : decode cX3_beat 9 = .ok (.iload_n 3, 1) := by decide +kernel
theorem dX3_beat_10 : decode cX3_beat 10 = .ok (.ifCond .ge 7, 3) := by decide +kernel
theorem dX3_beat_13 : decode cX3_beat 13 = .ok (.ldc2_w 80, 3) := by decide +kernel
theorem dX3_beat_16 : decode cX3_beat 16 = .ok (.lreturn, 1) := by decide +kernel
theorem dX3_beat_17 : decode cX3_beat 17 = .ok (.aload_n 0, 1) := by decide +kernel
theorem dX3_beat_18 : decode cX3_beat 18 = .ok (.iload_n 1, 1) := by decide +kernel
theorem dX3_beat_19 : decode cX3_beat 19 = .ok (.iload_n 2, 1) := by decide +kernel
theorem dX3_beat_20 : decode cX3_beat 20 = .ok (.invokevirtual 108, 3) := by decide +kernel
theorem dX3_beat_23 : decode cX3_beat 23 = .ok (.aload_n 0, 1) := by decide +kernel
theorem dX3_beat_24 : decode cX3_beat 24 = .ok (.iload_n 3, 1) := by decide +kernel
theorem dX3_beat_25 : decode cX3_beat 25 = .ok (.invokevirtual 112, 3) := by decide +kernel
theorem dX3_beat_28 : decode cX3_beat 28 = .ok (.istore 5, 2) := by decide +kernel
theorem dX3_beat_30 : decode cX3_beat 30 = .ok (.iload 5, 2) := by decide +kernel
theorem dX3_beat_32 : decode cX3_beat 32 = .ok (.aload_n 0, 1) := by decide +kernel
theorem dX3_beat_33 : decode cX3_beat 33 = .ok (.getfield 94, 3) := by decide +kernel
theorem dX3_beat_36 : decode cX3_beat 36 = .ok (.if_icmp .ne 7, 3) := by decide +kernel
theorem dX3_beat_39 : decode cX3_beat 39 = .ok (.ldc2_w 115, 3) := by decide +kernel
theorem dX3_beat_42 : decode cX3_beat 42 = .ok (.lreturn, 1) := by decide +kernel
theorem dX3_beat_43 : decode cX3_beat 43 = .ok (.aload_n 0, 1) := by decide +kernel
theorem dX3_beat_44 : decode cX3_beat 44 = .ok (.iload_n 1, 1) := by decide +kernel
theorem dX3_beat_45 : decode cX3_beat 45 = .ok (.iload_n 2, 1) := by decide +kernel
theorem dX3_beat_46 : decode cX3_beat 46 = .ok (.invokevirtual 86, 3) := by decide +kernel
theorem dX3_beat_49 : decode cX3_beat 49 = .ok (.lstore 6, 2) := by decide +kernel
theorem dX3_beat_51 : decode cX3_beat 51 = .ok (.aload_n 0, 1) := by decide +kernel
theorem dX3_beat_52 : decode cX3_beat 52 = .ok (.getfield 19, 3) := by decide +kernel
theorem dX3_beat_55 : decode cX3_beat 55 = .ok (.iload 5, 2) := by decide +kernel
theorem dX3_beat_57 : decode cX3_beat 57 = .ok (.laload, 1) := by decide +kernel
theorem dX3_beat_58 : decode cX3_beat 58 = .ok (.lload 6, 2) := by decide +kernel
theorem dX3_beat_60 : decode cX3_beat 60 = .ok (.invokestatic 52, 3) := by decide +kernel
theorem dX3_beat_63 : decode cX3_beat 63 = .ok (.lstore 8, 2) := by decide +kernel
theorem dX3_beat_65 : decode cX3_beat 65 = .ok (.iload 4, 2) := by decide +kernel
theorem dX3_beat_67 : decode cX3_beat 67 = .ok (.iconst 2, 1) := by decide +kernel
theorem dX3_beat_68 : decode cX3_beat 68 = .ok (.if_icmp .ge 27, 3) := by decide +kernel
theorem dX3_beat_71 : decode cX3_beat 71 = .ok (.iload 4, 2) := by decide +kernel
theorem dX3_beat_73 : decode cX3_beat 73 = .ok (.ifCond .ne 16, 3) := by decide +kernel
theorem dX3_beat_76 : decode cX3_beat 76 = .ok (.aload_n 0, 1) := by decide +kernel
theorem dX3_beat_77 : decode cX3_beat 77 = .ok (.getfield 19, 3) := by decide +kernel
theorem dX3_beat_80 : decode cX3_beat 80 = .ok (.iload 5, 2) := by decide +kernel
theorem dX3_beat_82 : decode cX3_beat 82 = .ok (.laload, 1) := by decide +kernel
theorem dX3_beat_83 : decode cX3_beat 83 = .ok (.lload 8, 2) := by decide +kernel
theorem dX3_beat_85 : decode cX3_beat 85 = .ok (.ldiv, 1) := by decide +kernel
theorem dX3_beat_86 : decode cX3_beat 86 = .ok (.goto 8, 3) := by decide +kernel
theorem dX3_beat_89 : decode cX3_beat 89 = .ok (.lload 6, 2) := by decide +kernel
theorem dX3_beat_91 : decode cX3_beat 91 = .ok (.lload 8, 2) := by decide +kernel
theorem dX3_beat_93 : decode cX3_beat 93 = .ok (.ldiv, 1) := by decide +kernel
theorem dX3_beat_94 : decode cX3_beat 94 = .ok (.lreturn, 1) := by decide +kernel
theorem dX3_beat_95 : decode cX3_beat 95 = .ok (.iload 4, 2) := by decide +kernel
theorem dX3_beat_97 : decode cX3_beat 97 = .ok (.iconst 2, 1) := by decide +kernel
theorem dX3_beat_98 : decode cX3_beat 98 = .ok (.if_icmp .ne 16, 3) := by decide +kernel
theorem dX3_beat_101 : decode cX3_beat 101 = .ok (.aload_n 0, 1) := by decide +kernel
theorem dX3_beat_102 : decode cX3_beat 102 = .ok (.iload 5, 2) := by decide +kernel
theorem dX3_beat_104 : decode cX3_beat 104 = .ok (.invokevirtual 105, 3) := by decide +kernel
theorem dX3_beat_107 : decode cX3_beat 107 = .ok (.iload 5, 2) := by decide +kernel
theorem dX3_beat_109 : decode cX3_beat 109 = .ok (.isub, 1) := by decide +kernel
theorem dX3_beat_110 : decode cX3_beat 110 = .ok (.i2l, 1) := by decide +kernel
theorem dX3_beat_111 : decode cX3_beat 111 = .ok (.goto 34, 3) := by decide +kernel
theorem dX3_beat_114 : decode cX3_beat 114 = .ok (.aload_n 0, 1) := by decide +kernel
theorem dX3_beat_115 : decode cX3_beat 115 = .ok (.getfield 19, 3) := by decide +kernel
theorem dX3_beat_118 : decode cX3_beat 118 = .ok (.iload 5, 2) := by decide +kernel
theorem dX3_beat_120 : decode cX3_beat 120 = .ok (.laload, 1) := by decide +kernel
theorem dX3_beat_121 : decode cX3_beat 121 = .ok (.lconst 0, 1) := by decide +kernel
theorem dX3_beat_122 : decode cX3_beat 122 = .ok (.lcmp, 1) := by decide +kernel
theorem dX3_beat_123 : decode cX3_beat 123 = .ok (.ifCond .ne 9, 3) := by decide +kernel
theorem dX3_beat_126 : decode cX3_beat 126 = .ok (.ldc2_w 115, 3) := by decide +kernel
theorem dX3_beat_129 : decode cX3_beat 129 = .ok (.goto 16, 3) := by decide +kernel
theorem dX3_beat_132 : decode cX3_beat 132 = .ok (.aload_n 0, 1) := by decide +kernel
theorem dX3_beat_133 : decode cX3_beat 133 = .ok (.getfield 19, 3) := by decide +kernel
theorem dX3_beat_136 : decode cX3_beat 136 = .ok (.iload 5, 2) := by decide +kernel
theorem dX3_beat_138 : decode cX3_beat 138 = .ok (.laload, 1) := by decide +kernel
theorem dX3_beat_139 : decode cX3_beat 139 = .ok (.lload 6, 2) := by decide +kernel
theorem dX3_beat_141 : decode cX3_beat 141 = .ok (.invokestatic 117, 3) := by decide +kernel
theorem dX3_beat_144 : decode cX3_beat 144 = .ok (.i2l, 1) := by decide +kernel
theorem dX3_beat_145 : decode cX3_beat 145 = .ok (.lreturn, 1) := by decide +kernel
theorem dX3_beatNumerator_0 : decode cX3_beatNumerator 0 = .ok (.aload_n 0, 1) := by decide +kernel
theorem dX3_beatNumerator_1 : decode cX3_beatNumerator 1 = .ok (.iload_n 1, 1) := by decide +kernel
theorem dX3_beatNumerator_2 : decode cX3_beatNumerator 2 = .ok (.iload_n 2, 1) := by decide +kernel
theorem dX3_beatNumerator_3 : decode cX3_beatNumerator 3 = .ok (.iload_n 3, 1) := by decide +kernel
theorem dX3_beatNumerator_4 : decode cX3_beatNumerator 4 = .ok (.iconst 0, 1) := by decide +kernel
theorem dX3_beatNumerator_5 : decode cX3_beatNumerator 5 = .ok (.invokevirtual 120, 3) := by decide +kernel
theorem dX3_beatNumerator_8 : decode cX3_beatNumerator 8 = .ok (.lreturn, 1) := by decide +kernel
theorem dX3_beatDenominator_0 : decode cX3_beatDenominator 0 = .ok (.aload_n 0, 1) := by decide +kernel
theorem dX3_beatDenominator_1 : decode cX3_beatDenominator 1 = .ok (.iload_n 1, 1) := by decide +kernel
theorem dX3_beatDenominator_2 : decode cX3_beatDenominator 2 = .ok (.iload_n 2, 1) := by decide +kernel
theorem dX3_beatDenominator_3 : decode cX3_beatDenominator 3 = .ok (.iload_n 3, 1) := by decide +kernel
theorem dX3_beatDenominator_4 : decode cX3_beatDenominator 4 = .ok (.iconst 1, 1) := by decide +kernel
theorem dX3_beatDenominator_5 : decode cX3_beatDenominator 5 = .ok (.invokevirtual 120, 3) := by decide +kernel
theorem dX3_beatDenominator_8 : decode cX3_beatDenominator 8 = .ok (.lreturn, 1) := by decide +kernel
theorem dX3_beatFrequency_0 : decode cX3_beatFrequency 0 = .ok (.aload_n 0, 1) := by decide +kernel
theorem dX3_beatFrequency_1 : decode cX3_beatFrequency 1 = .ok (.iload_n 1, 1) := by decide +kernel
theorem dX3_beatFrequency_2 : decode cX3_beatFrequency 2 = .ok (.iload_n 2, 1) := by decide +kernel
theorem dX3_beatFrequency_3 : decode cX3_beatFrequency 3 = .ok (.iload_n 3, 1) := by decide +kernel
theorem dX3_beatFrequency_4 : decode cX3_beatFrequency 4 = .ok (.iconst 2, 1) := by decide +kernel
theorem dX3_beatFrequency_5 : decode cX3_beatFrequency 5 = .ok (.invokevirtual 120, 3) := by decide +kernel
theorem dX3_beatFrequency_8 : decode cX3_beatFrequency 8 = .ok (.l2i, 1) := by decide +kernel
theorem dX3_beatFrequency_9 : decode cX3_beatFrequency 9 = .ok (.ireturn, 1) := by decide +kernel
theorem dX3_beatPeriod_0 : decode cX3_beatPeriod 0 = .ok (.aload_n 0, 1) := by decide +kernel
theorem dX3_beatPeriod_1 : decode cX3_beatPeriod 1 = .ok (.iload_n 1, 1) := by decide +kernel
theorem dX3_beatPeriod_2 : decode cX3_beatPeriod 2 = .ok (.iload_n 2, 1) := by decide +kernel
theorem dX3_beatPeriod_3 : decode cX3_beatPeriod 3 = .ok (.iload_n 3, 1) := by decide +kernel
theorem dX3_beatPeriod_4 : decode cX3_beatPeriod 4 = .ok (.iconst 3, 1) := by decide +kernel
theorem dX3_beatPeriod_5 : decode cX3_beatPeriod 5 = .ok (.invokevirtual 120, 3) := by decide +kernel
theorem dX3_beatPeriod_8 : decode cX3_beatPeriod 8 = .ok (.l2i, 1) := by decide +kernel
theorem dX3_beatPeriod_9 : decode cX3_beatPeriod 9 = .ok (.ireturn, 1) := by decide +kernel
theorem dX3_ofKind_0 : decode cX3_ofKind 0 = .ok (.iconst 0, 1) := by decide +kernel
theorem dX3_ofKind_1 : decode cX3_ofKind 1 = .ok (.istore 4, 2) := by decide +kernel
theorem dX3_ofKind_3 : decode cX3_ofKind 3 = .ok (.aload_n 0, 1) := by decide +kernel
theorem dX3_ofKind_4 : decode cX3_ofKind 4 = .ok (.lconst 0, 1) := by decide +kernel
theorem dX3_ofKind_5 : decode cX3_ofKind 5 = .ok (.putfield 124, 3) := by decide +kernel
theorem dX3_ofKind_8 : decode cX3_ofKind 8 = .ok (.aload_n 0, 1) := by decide +kernel
theorem dX3_ofKind_9 : decode cX3_ofKind 9 = .ok (.iload_n 1, 1) := by decide +kernel
theorem dX3_ofKind_10 : decode cX3_ofKind 10 = .ok (.iload_n 2, 1) := by decide +kernel
theorem dX3_ofKind_11 : decode cX3_ofKind 11 = .ok (.invokevirtual 86, 3) := by decide +kernel
theorem dX3_ofKind_14 : decode cX3_ofKind 14 = .ok (.lstore 5, 2) := by decide +kernel
theorem dX3_ofKind_16 : decode cX3_ofKind 16 = .ok (.aload_n 0, 1) := by decide +kernel
theorem dX3_ofKind_17 : decode cX3_ofKind 17 = .ok (.getfield 7, 3) := by decide +kernel
theorem dX3_ofKind_20 : decode cX3_ofKind 20 = .ok (.iconst 1, 1) := by decide +kernel
theorem dX3_ofKind_21 : decode cX3_ofKind 21 = .ok (.iaload, 1) := by decide +kernel
theorem dX3_ofKind_22 : decode cX3_ofKind 22 = .ok (.istore 7, 2) := by decide +kernel
theorem dX3_ofKind_24 : decode cX3_ofKind 24 = .ok (.iconst 2, 1) := by decide +kernel
theorem dX3_ofKind_25 : decode cX3_ofKind 25 = .ok (.iload 7, 2) := by decide +kernel
theorem dX3_ofKind_27 : decode cX3_ofKind 27 = .ok (.imul, 1) := by decide +kernel
theorem dX3_ofKind_28 : decode cX3_ofKind 28 = .ok (.iconst 1, 1) := by decide +kernel
theorem dX3_ofKind_29 : decode cX3_ofKind 29 = .ok (.iadd, 1) := by decide +kernel
theorem dX3_ofKind_30 : decode cX3_ofKind 30 = .ok (.istore 8, 2) := by decide +kernel
theorem dX3_ofKind_32 : decode cX3_ofKind 32 = .ok (.iconst 0, 1) := by decide +kernel
theorem dX3_ofKind_33 : decode cX3_ofKind 33 = .ok (.istore 9, 2) := by decide +kernel
theorem dX3_ofKind_35 : decode cX3_ofKind 35 = .ok (.iload 9, 2) := by decide +kernel
theorem dX3_ofKind_37 : decode cX3_ofKind 37 = .ok (.iload 8, 2) := by decide +kernel
theorem dX3_ofKind_39 : decode cX3_ofKind 39 = .ok (.iload 8, 2) := by decide +kernel
theorem dX3_ofKind_41 : decode cX3_ofKind 41 = .ok (.imul, 1) := by decide +kernel
theorem dX3_ofKind_42 : decode cX3_ofKind 42 = .ok (.iload 8, 2) := by decide +kernel
theorem dX3_ofKind_44 : decode cX3_ofKind 44 = .ok (.imul, 1) := by decide +kernel
theorem dX3_ofKind_45 : decode cX3_ofKind 45 = .ok (.iload 8, 2) := by decide +kernel
theorem dX3_ofKind_47 : decode cX3_ofKind 47 = .ok (.imul, 1) := by decide +kernel
theorem dX3_ofKind_48 : decode cX3_ofKind 48 = .ok (.if_icmp .ge 173, 3) := by decide +kernel
theorem dX3_ofKind_51 : decode cX3_ofKind 51 = .ok (.iload 9, 2) := by decide +kernel
theorem dX3_ofKind_53 : decode cX3_ofKind 53 = .ok (.iload 8, 2) := by decide +kernel
theorem dX3_ofKind_55 : decode cX3_ofKind 55 = .ok (.iload 8, 2) := by decide +kernel
theorem dX3_ofKind_57 : decode cX3_ofKind 57 = .ok (.imul, 1) := by decide +kernel
theorem dX3_ofKind_58 : decode cX3_ofKind 58 = .ok (.iload 8, 2) := by decide +kernel
theorem dX3_ofKind_60 : decode cX3_ofKind 60 = .ok (.imul, 1) := by decide +kernel
theorem dX3_ofKind_61 : decode cX3_ofKind 61 = .ok (.idiv, 1) := by decide +kernel
theorem dX3_ofKind_62 : decode cX3_ofKind 62 = .ok (.iload 7, 2) := by decide +kernel
theorem dX3_ofKind_64 : decode cX3_ofKind 64 = .ok (.isub, 1) := by decide +kernel
theorem dX3_ofKind_65 : decode cX3_ofKind 65 = .ok (.istore 10, 2) := by decide +kernel
theorem dX3_ofKind_67 : decode cX3_ofKind 67 = .ok (.iload 9, 2) := by decide +kernel
theorem dX3_ofKind_69 : decode cX3_ofKind 69 = .ok (.iload 8, 2) := by decide +kernel
theorem dX3_ofKind_71 : decode cX3_ofKind 71 = .ok (.iload 8, 2) := by decide +kernel
theorem dX3_ofKind_73 : decode cX3_ofKind 73 = .ok (.imul, 1) := by decide +kernel
theorem dX3_ofKind_74 : decode cX3_ofKind 74 = .ok (.idiv, 1) := by decide +kernel
theorem dX3_ofKind_75 : decode cX3_ofKind 75 = .ok (.iload 8, 2) := by decide +kernel
theorem dX3_ofKind_77 : decode cX3_ofKind 77 = .ok (.irem, 1) := by decide +kernel
theorem dX3_ofKind_78 : decode cX3_ofKind 78 = .ok (.iload 7, 2) := by decide +kernel
theorem dX3_ofKind_80 : decode cX3_ofKind 80 = .ok (.isub, 1) := by decide +kernel
theorem dX3_ofKind_81 : decode cX3_ofKind 81 = .ok (.istore 11, 2) := by decide +kernel
theorem dX3_ofKind_83 : decode cX3_ofKind 83 = .ok (.iload 9, 2) := by decide +kernel
theorem dX3_ofKind_85 : decode cX3_ofKind 85 = .ok (.iload 8, 2) := by decide +kernel
theorem dX3_ofKind_87 : decode cX3_ofKind 87 = .ok (.idiv, 1) := by decide +kernel
theorem dX3_ofKind_88 : decode cX3_ofKind 88 = .ok (.iload 8, 2) := by decide +kernel
theorem dX3_ofKind_90 : decode cX3_ofKind 90 = .ok (.irem, 1) := by decide +kernel
theorem dX3_ofKind_91 : decode cX3_ofKind 91 = .ok (.iload 7, 2) := by decide +kernel
theorem dX3_ofKind_93 : decode cX3_ofKind 93 = .ok (.isub, 1) := by decide +kernel
theorem dX3_ofKind_94 : decode cX3_ofKind 94 = .ok (.istore 12, 2) := by decide +kernel
theorem dX3_ofKind_96 : decode cX3_ofKind 96 = .ok (.iload 9, 2) := by decide +kernel
theorem dX3_ofKind_98 : decode cX3_ofKind 98 = .ok (.iload 8, 2) := by decide +kernel
theorem dX3_ofKind_100 : decode cX3_ofKind 100 = .ok (.irem, 1) := by decide +kernel
theorem dX3_ofKind_101 : decode cX3_ofKind 101 = .ok (.iload 7, 2) := by decide +kernel
theorem dX3_ofKind_103 : decode cX3_ofKind 103 = .ok (.isub, 1) := by decide +kernel
theorem dX3_ofKind_104 : decode cX3_ofKind 104 = .ok (.istore 13, 2) := by decide +kernel
theorem dX3_ofKind_106 : decode cX3_ofKind 106 = .ok (.iload 10, 2) := by decide +kernel
theorem dX3_ofKind_108 : decode cX3_ofKind 108 = .ok (.ifCond .ne 8, 3) := by decide +kernel
theorem dX3_ofKind_111 : decode cX3_ofKind 111 = .ok (.iload 11, 2) := by decide +kernel
theorem dX3_ofKind_113 : decode cX3_ofKind 113 = .ok (.ifCond .eq 102, 3) := by decide +kernel
theorem dX3_ofKind_116 : decode cX3_ofKind 116 = .ok (.iload 12, 2) := by decide +kernel
theorem dX3_ofKind_118 : decode cX3_ofKind 118 = .ok (.ifCond .ne 8, 3) := by decide +kernel
theorem dX3_ofKind_121 : decode cX3_ofKind 121 = .ok (.iload 13, 2) := by decide +kernel
theorem dX3_ofKind_123 : decode cX3_ofKind 123 = .ok (.ifCond .eq 92, 3) := by decide +kernel
theorem dX3_ofKind_126 : decode cX3_ofKind 126 = .ok (.aload_n 0, 1) := by decide +kernel
theorem dX3_ofKind_127 : decode cX3_ofKind 127 = .ok (.iload_n 1, 1) := by decide +kernel
theorem dX3_ofKind_128 : decode cX3_ofKind 128 = .ok (.iload_n 2, 1) := by decide +kernel
theorem dX3_ofKind_129 : decode cX3_ofKind 129 = .ok (.iload 10, 2) := by decide +kernel
theorem dX3_ofKind_131 : decode cX3_ofKind 131 = .ok (.iload 11, 2) := by decide +kernel
theorem dX3_ofKind_133 : decode cX3_ofKind 133 = .ok (.iload 12, 2) := by decide +kernel
theorem dX3_ofKind_135 : decode cX3_ofKind 135 = .ok (.iload 13, 2) := by decide +kernel
theorem dX3_ofKind_137 : decode cX3_ofKind 137 = .ok (.invokevirtual 82, 3) := by decide +kernel
theorem dX3_ofKind_140 : decode cX3_ofKind 140 = .ok (.lstore 14, 2) := by decide +kernel
theorem dX3_ofKind_142 : decode cX3_ofKind 142 = .ok (.aload_n 0, 1) := by decide +kernel
theorem dX3_ofKind_143 : decode cX3_ofKind 143 = .ok (.lload 14, 2) := by decide +kernel
theorem dX3_ofKind_145 : decode cX3_ofKind 145 = .ok (.lload 5, 2) := by decide +kernel
theorem dX3_ofKind_147 : decode cX3_ofKind 147 = .ok (.invokevirtual 90, 3) := by decide +kernel
theorem dX3_ofKind_150 : decode cX3_ofKind 150 = .ok (.iload_n 3, 1) := by decide +kernel
theorem dX3_ofKind_151 : decode cX3_ofKind 151 = .ok (.if_icmp .ne 7, 3) := by decide +kernel
theorem dX3_ofKind_154 : decode cX3_ofKind 154 = .ok (.iconst 1, 1) := by decide +kernel
theorem dX3_ofKind_155 : decode cX3_ofKind 155 = .ok (.goto 4, 3) := by decide +kernel
theorem dX3_ofKind_158 : decode cX3_ofKind 158 = .ok (.iconst 0, 1) := by decide +kernel
theorem dX3_ofKind_159 : decode cX3_ofKind 159 = .ok (.istore 16, 2) := by decide +kernel
theorem dX3_ofKind_161 : decode cX3_ofKind 161 = .ok (.iload 4, 2) := by decide +kernel
theorem dX3_ofKind_163 : decode cX3_ofKind 163 = .ok (.iload 16, 2) := by decide +kernel
theorem dX3_ofKind_165 : decode cX3_ofKind 165 = .ok (.ifCond .eq 7, 3) := by decide +kernel
theorem dX3_ofKind_168 : decode cX3_ofKind 168 = .ok (.iconst 1, 1) := by decide +kernel
theorem dX3_ofKind_169 : decode cX3_ofKind 169 = .ok (.goto 4, 3) := by decide +kernel
theorem dX3_ofKind_172 : decode cX3_ofKind 172 = .ok (.iconst 0, 1) := by decide +kernel
theorem dX3_ofKind_173 : decode cX3_ofKind 173 = .ok (.iadd, 1) := by decide +kernel
theorem dX3_ofKind_174 : decode cX3_ofKind 174 = .ok (.istore 4, 2) := by decide +kernel
theorem dX3_ofKind_176 : decode cX3_ofKind 176 = .ok (.aload_n 0, 1) := by decide +kernel
theorem dX3_ofKind_177 : decode cX3_ofKind 177 = .ok (.iload 16, 2) := by decide +kernel
theorem dX3_ofKind_179 : decode cX3_ofKind 179 = .ok (.ifCond .eq 29, 3) := by decide +kernel
theorem dX3_ofKind_182 : decode cX3_ofKind 182 = .ok (.iload_n 3, 1) := by decide +kernel
theorem dX3_ofKind_183 : decode cX3_ofKind 183 = .ok (.iconst 3, 1) := by decide +kernel
theorem dX3_ofKind_184 : decode cX3_ofKind 184 = .ok (.if_icmp .ne 24, 3) := by decide +kernel
theorem dX3_ofKind_187 : decode cX3_ofKind 187 = .ok (.lload 5, 2) := by decide +kernel
theorem dX3_ofKind_189 : decode cX3_ofKind 189 = .ok (.lload 14, 2) := by decide +kernel
theorem dX3_ofKind_191 : decode cX3_ofKind 191 = .ok (.ldiv, 1) := by decide +kernel
theorem dX3_ofKind_192 : decode cX3_ofKind 192 = .ok (.aload_n 0, 1) := by decide +kernel
theorem dX3_ofKind_193 : decode cX3_ofKind 193 = .ok (.getfield 124, 3) := by decide +kernel
theorem dX3_ofKind_196 : decode cX3_ofKind 196 = .ok (.lcmp, 1) := by decide +kernel
theorem dX3_ofKind_197 : decode cX3_ofKind 197 = .ok (.ifCond .le 11, 3) := by decide +kernel
theorem dX3_ofKind_200 : decode cX3_ofKind 200 = .ok (.lload 5, 2) := by decide +kernel
theorem dX3_ofKind_202 : decode cX3_ofKind 202 = .ok (.lload 14, 2) := by decide +kernel
theorem dX3_ofKind_204 : decode cX3_ofKind 204 = .ok (.ldiv, 1) := by decide +kernel
theorem dX3_ofKind_205 : decode cX3_ofKind 205 = .ok (.goto 7, 3) := by decide +kernel
theorem dX3_ofKind_208 : decode cX3_ofKind 208 = .ok (.aload_n 0, 1) := by decide +kernel
theorem dX3_ofKind_209 : decode cX3_ofKind 209 = .ok (.getfield 124, 3) := by decide +kernel
theorem dX3_ofKind_212 : decode cX3_ofKind 212 = .ok (.putfield 124, 3) := by decide +kernel
theorem dX3_ofKind_215 : decode cX3_ofKind 215 = .ok (.iinc 9 1, 3) := by decide +kernel
theorem dX3_ofKind_218 : decode cX3_ofKind 218 = .ok (.goto (-183), 3) := by decide +kernel
theorem dX3_ofKind_221 : decode cX3_ofKind 221 = .ok (.iload 4, 2) := by decide +kernel
theorem dX3_ofKind_223 : decode cX3_ofKind 223 = .ok (.ireturn, 1) := by decide +kernel
theorem dX3_locked_0 : decode cX3_locked 0 = .ok (.aload_n 0, 1) := by decide +kernel
theorem dX3_locked_1 : decode cX3_locked 1 = .ok (.iload_n 1, 1) := by decide +kernel
theorem dX3_locked_2 : decode cX3_locked 2 = .ok (.iload_n 2, 1) := by decide +kernel
theorem dX3_locked_3 : decode cX3_locked 3 = .ok (.invokevirtual 70, 3) := by decide +kernel
theorem dX3_locked_6 : decode cX3_locked 6 = .ok (.ifCond .eq 13, 3) := by decide +kernel
theorem dX3_locked_9 : decode cX3_locked 9 = .ok (.aload_n 0, 1) := by decide +kernel
theorem dX3_locked_10 : decode cX3_locked 10 = .ok (.iload_n 1, 1) := by decide +kernel
theorem dX3_locked_11 : decode cX3_locked 11 = .ok (.iload_n 2, 1) := by decide +kernel
theorem dX3_locked_12 : decode cX3_locked 12 = .ok (.iconst 0, 1) := by decide +kernel
theorem dX3_locked_13 : decode cX3_locked 13 = .ok (.invokevirtual 128, 3) := by decide +kernel
theorem dX3_locked_16 : decode cX3_locked 16 = .ok (.goto 4, 3) := by decide +kernel
theorem dX3_locked_19 : decode cX3_locked 19 = .ok (.iconst (-1), 1) := by decide +kernel
theorem dX3_locked_20 : decode cX3_locked 20 = .ok (.ireturn, 1) := by decide +kernel
theorem dX3_bands_0 : decode cX3_bands 0 = .ok (.aload_n 0, 1) := by decide +kernel
theorem dX3_bands_1 : decode cX3_bands 1 = .ok (.iload_n 1, 1) := by decide +kernel
theorem dX3_bands_2 : decode cX3_bands 2 = .ok (.iload_n 2, 1) := by decide +kernel
theorem dX3_bands_3 : decode cX3_bands 3 = .ok (.invokevirtual 70, 3) := by decide +kernel
theorem dX3_bands_6 : decode cX3_bands 6 = .ok (.ifCond .eq 13, 3) := by decide +kernel
theorem dX3_bands_9 : decode cX3_bands 9 = .ok (.aload_n 0, 1) := by decide +kernel
theorem dX3_bands_10 : decode cX3_bands 10 = .ok (.iload_n 1, 1) := by decide +kernel
theorem dX3_bands_11 : decode cX3_bands 11 = .ok (.iload_n 2, 1) := by decide +kernel
theorem dX3_bands_12 : decode cX3_bands 12 = .ok (.iconst 3, 1) := by decide +kernel
theorem dX3_bands_13 : decode cX3_bands 13 = .ok (.invokevirtual 128, 3) := by decide +kernel
theorem dX3_bands_16 : decode cX3_bands 16 = .ok (.goto 4, 3) := by decide +kernel
theorem dX3_bands_19 : decode cX3_bands 19 = .ok (.iconst (-1), 1) := by decide +kernel
theorem dX3_bands_20 : decode cX3_bands 20 = .ok (.ireturn, 1) := by decide +kernel
theorem dX3_bandsOfThree_0 : decode cX3_bandsOfThree 0 = .ok (.iconst 0, 1) := by decide +kernel
theorem dX3_bandsOfThree_1 : decode cX3_bandsOfThree 1 = .ok (.istore 4, 2) := by decide +kernel
theorem dX3_bandsOfThree_3 : decode cX3_bandsOfThree 3 = .ok (.aload_n 0, 1) := by decide +kernel
theorem dX3_bandsOfThree_4 : decode cX3_bandsOfThree 4 = .ok (.lconst 0, 1) := by decide +kernel
theorem dX3_bandsOfThree_5 : decode cX3_bandsOfThree 5 = .ok (.putfield 124, 3) := by decide +kernel
theorem dX3_bandsOfThree_8 : decode cX3_bandsOfThree 8 = .ok (.aload_n 0, 1) := by decide +kernel
theorem dX3_bandsOfThree_9 : decode cX3_bandsOfThree 9 = .ok (.iload_n 1, 1) := by decide +kernel
theorem dX3_bandsOfThree_10 : decode cX3_bandsOfThree 10 = .ok (.iload_n 2, 1) := by decide +kernel
theorem dX3_bandsOfThree_11 : decode cX3_bandsOfThree 11 = .ok (.iload_n 3, 1) := by decide +kernel
theorem dX3_bandsOfThree_12 : decode cX3_bandsOfThree 12 = .ok (.invokevirtual 132, 3) := by decide +kernel
theorem dX3_bandsOfThree_15 : decode cX3_bandsOfThree 15 = .ok (.lstore 5, 2) := by decide +kernel
theorem dX3_bandsOfThree_17 : decode cX3_bandsOfThree 17 = .ok (.iconst 0, 1) := by decide +kernel
theorem dX3_bandsOfThree_18 : decode cX3_bandsOfThree 18 = .ok (.istore 7, 2) := by decide +kernel
theorem dX3_bandsOfThree_20 : decode cX3_bandsOfThree 20 = .ok (.iload 7, 2) := by decide +kernel
theorem dX3_bandsOfThree_22 : decode cX3_bandsOfThree 22 = .ok (.bipush 64, 2) := by decide +kernel
theorem dX3_bandsOfThree_24 : decode cX3_bandsOfThree 24 = .ok (.if_icmp .ge 88, 3) := by decide +kernel
theorem dX3_bandsOfThree_27 : decode cX3_bandsOfThree 27 = .ok (.aload_n 0, 1) := by decide +kernel
theorem dX3_bandsOfThree_28 : decode cX3_bandsOfThree 28 = .ok (.iload_n 1, 1) := by decide +kernel
theorem dX3_bandsOfThree_29 : decode cX3_bandsOfThree 29 = .ok (.iload_n 2, 1) := by decide +kernel
theorem dX3_bandsOfThree_30 : decode cX3_bandsOfThree 30 = .ok (.iload_n 3, 1) := by decide +kernel
theorem dX3_bandsOfThree_31 : decode cX3_bandsOfThree 31 = .ok (.iload 7, 2) := by decide +kernel
theorem dX3_bandsOfThree_33 : decode cX3_bandsOfThree 33 = .ok (.invokevirtual 136, 3) := by decide +kernel
theorem dX3_bandsOfThree_36 : decode cX3_bandsOfThree 36 = .ok (.lstore 8, 2) := by decide +kernel
theorem dX3_bandsOfThree_38 : decode cX3_bandsOfThree 38 = .ok (.aload_n 0, 1) := by decide +kernel
theorem dX3_bandsOfThree_39 : decode cX3_bandsOfThree 39 = .ok (.lload 8, 2) := by decide +kernel
theorem dX3_bandsOfThree_41 : decode cX3_bandsOfThree 41 = .ok (.lload 5, 2) := by decide +kernel
theorem dX3_bandsOfThree_43 : decode cX3_bandsOfThree 43 = .ok (.invokevirtual 90, 3) := by decide +kernel
theorem dX3_bandsOfThree_46 : decode cX3_bandsOfThree 46 = .ok (.iconst 3, 1) := by decide +kernel
theorem dX3_bandsOfThree_47 : decode cX3_bandsOfThree 47 = .ok (.if_icmp .ne 7, 3) := by decide +kernel
theorem dX3_bandsOfThree_50 : decode cX3_bandsOfThree 50 = .ok (.iconst 1, 1) := by decide +kernel
theorem dX3_bandsOfThree_51 : decode cX3_bandsOfThree 51 = .ok (.goto 4, 3) := by decide +kernel
theorem dX3_bandsOfThree_54 : decode cX3_bandsOfThree 54 = .ok (.iconst 0, 1) := by decide +kernel
theorem dX3_bandsOfThree_55 : decode cX3_bandsOfThree 55 = .ok (.istore 10, 2) := by decide +kernel
theorem dX3_bandsOfThree_57 : decode cX3_bandsOfThree 57 = .ok (.iload 4, 2) := by decide +kernel
theorem dX3_bandsOfThree_59 : decode cX3_bandsOfThree 59 = .ok (.iload 10, 2) := by decide +kernel
theorem dX3_bandsOfThree_61 : decode cX3_bandsOfThree 61 = .ok (.ifCond .eq 7, 3) := by decide +kernel
theorem dX3_bandsOfThree_64 : decode cX3_bandsOfThree 64 = .ok (.iconst 1, 1) := by decide +kernel
theorem dX3_bandsOfThree_65 : decode cX3_bandsOfThree 65 = .ok (.goto 4, 3) := by decide +kernel
theorem dX3_bandsOfThree_68 : decode cX3_bandsOfThree 68 = .ok (.iconst 0, 1) := by decide +kernel
theorem dX3_bandsOfThree_69 : decode cX3_bandsOfThree 69 = .ok (.iadd, 1) := by decide +kernel
theorem dX3_bandsOfThree_70 : decode cX3_bandsOfThree 70 = .ok (.istore 4, 2) := by decide +kernel
theorem dX3_bandsOfThree_72 : decode cX3_bandsOfThree 72 = .ok (.aload_n 0, 1) := by decide +kernel
theorem dX3_bandsOfThree_73 : decode cX3_bandsOfThree 73 = .ok (.iload 10, 2) := by decide +kernel
theorem dX3_bandsOfThree_75 : decode cX3_bandsOfThree 75 = .ok (.ifCond .eq 24, 3) := by decide +kernel
theorem dX3_bandsOfThree_78 : decode cX3_bandsOfThree 78 = .ok (.lload 5, 2) := by decide +kernel
theorem dX3_bandsOfThree_80 : decode cX3_bandsOfThree 80 = .ok (.lload 8, 2) := by decide +kernel
theorem dX3_bandsOfThree_82 : decode cX3_bandsOfThree 82 = .ok (.ldiv, 1) := by decide +kernel
theorem dX3_bandsOfThree_83 : decode cX3_bandsOfThree 83 = .ok (.aload_n 0, 1) := by decide +kernel
theorem dX3_bandsOfThree_84 : decode cX3_bandsOfThree 84 = .ok (.getfield 124, 3) := by decide +kernel
theorem dX3_bandsOfThree_87 : decode cX3_bandsOfThree 87 = .ok (.lcmp, 1) := by decide +kernel
theorem dX3_bandsOfThree_88 : decode cX3_bandsOfThree 88 = .ok (.ifCond .le 11, 3) := by decide +kernel
theorem dX3_bandsOfThree_91 : decode cX3_bandsOfThree 91 = .ok (.lload 5, 2) := by decide +kernel
theorem dX3_bandsOfThree_93 : decode cX3_bandsOfThree 93 = .ok (.lload 8, 2) := by decide +kernel
theorem dX3_bandsOfThree_95 : decode cX3_bandsOfThree 95 = .ok (.ldiv, 1) := by decide +kernel
theorem dX3_bandsOfThree_96 : decode cX3_bandsOfThree 96 = .ok (.goto 7, 3) := by decide +kernel
theorem dX3_bandsOfThree_99 : decode cX3_bandsOfThree 99 = .ok (.aload_n 0, 1) := by decide +kernel
theorem dX3_bandsOfThree_100 : decode cX3_bandsOfThree 100 = .ok (.getfield 124, 3) := by decide +kernel
theorem dX3_bandsOfThree_103 : decode cX3_bandsOfThree 103 = .ok (.putfield 124, 3) := by decide +kernel
theorem dX3_bandsOfThree_106 : decode cX3_bandsOfThree 106 = .ok (.iinc 7 1, 3) := by decide +kernel
theorem dX3_bandsOfThree_109 : decode cX3_bandsOfThree 109 = .ok (.goto (-89), 3) := by decide +kernel
theorem dX3_bandsOfThree_112 : decode cX3_bandsOfThree 112 = .ok (.iload 4, 2) := by decide +kernel
theorem dX3_bandsOfThree_114 : decode cX3_bandsOfThree 114 = .ok (.ireturn, 1) := by decide +kernel
theorem dX3_tripleBands_0 : decode cX3_tripleBands 0 = .ok (.aload_n 0, 1) := by decide +kernel
theorem dX3_tripleBands_1 : decode cX3_tripleBands 1 = .ok (.iload_n 1, 1) := by decide +kernel
theorem dX3_tripleBands_2 : decode cX3_tripleBands 2 = .ok (.iload_n 2, 1) := by decide +kernel
theorem dX3_tripleBands_3 : decode cX3_tripleBands 3 = .ok (.invokevirtual 70, 3) := by decide +kernel
theorem dX3_tripleBands_6 : decode cX3_tripleBands 6 = .ok (.ifCond .eq 22, 3) := by decide +kernel
theorem dX3_tripleBands_9 : decode cX3_tripleBands 9 = .ok (.aload_n 0, 1) := by decide +kernel
theorem dX3_tripleBands_10 : decode cX3_tripleBands 10 = .ok (.iload_n 2, 1) := by decide +kernel
theorem dX3_tripleBands_11 : decode cX3_tripleBands 11 = .ok (.iload_n 3, 1) := by decide +kernel
theorem dX3_tripleBands_12 : decode cX3_tripleBands 12 = .ok (.invokevirtual 70, 3) := by decide +kernel
theorem dX3_tripleBands_15 : decode cX3_tripleBands 15 = .ok (.ifCond .eq 13, 3) := by decide +kernel
theorem dX3_tripleBands_18 : decode cX3_tripleBands 18 = .ok (.aload_n 0, 1) := by decide +kernel
theorem dX3_tripleBands_19 : decode cX3_tripleBands 19 = .ok (.iload_n 1, 1) := by decide +kernel
theorem dX3_tripleBands_20 : decode cX3_tripleBands 20 = .ok (.iload_n 2, 1) := by decide +kernel
theorem dX3_tripleBands_21 : decode cX3_tripleBands 21 = .ok (.iload_n 3, 1) := by decide +kernel
theorem dX3_tripleBands_22 : decode cX3_tripleBands 22 = .ok (.invokevirtual 139, 3) := by decide +kernel
theorem dX3_tripleBands_25 : decode cX3_tripleBands 25 = .ok (.goto 4, 3) := by decide +kernel
theorem dX3_tripleBands_28 : decode cX3_tripleBands 28 = .ok (.iconst (-1), 1) := by decide +kernel
theorem dX3_tripleBands_29 : decode cX3_tripleBands 29 = .ok (.ireturn, 1) := by decide +kernel
theorem dX3_findAll_0 : decode cX3_findAll 0 = .ok (.iconst 0, 1) := by decide +kernel
theorem dX3_findAll_1 : decode cX3_findAll 1 = .ok (.istore_n 1, 1) := by decide +kernel
theorem dX3_findAll_2 : decode cX3_findAll 2 = .ok (.aload_n 0, 1) := by decide +kernel
theorem dX3_findAll_3 : decode cX3_findAll 3 = .ok (.bipush (-4), 2) := by decide +kernel
theorem dX3_findAll_5 : decode cX3_findAll 5 = .ok (.putfield 142, 3) := by decide +kernel
theorem dX3_findAll_8 : decode cX3_findAll 8 = .ok (.aload_n 0, 1) := by decide +kernel
theorem dX3_findAll_9 : decode cX3_findAll 9 = .ok (.bipush (-4), 2) := by decide +kernel
theorem dX3_findAll_11 : decode cX3_findAll 11 = .ok (.putfield 145, 3) := by decide +kernel
theorem dX3_findAll_14 : decode cX3_findAll 14 = .ok (.iconst 0, 1) := by decide +kernel
theorem dX3_findAll_15 : decode cX3_findAll 15 = .ok (.istore_n 2, 1) := by decide +kernel
theorem dX3_findAll_16 : decode cX3_findAll 16 = .ok (.iload_n 2, 1) := by decide +kernel
theorem dX3_findAll_17 : decode cX3_findAll 17 = .ok (.aload_n 0, 1) := by decide +kernel
theorem dX3_findAll_18 : decode cX3_findAll 18 = .ok (.getfield 7, 3) := by decide +kernel
theorem dX3_findAll_21 : decode cX3_findAll 21 = .ok (.iconst 0, 1) := by decide +kernel
theorem dX3_findAll_22 : decode cX3_findAll 22 = .ok (.iaload, 1) := by decide +kernel
theorem dX3_findAll_23 : decode cX3_findAll 23 = .ok (.if_icmp .ge 50, 3) := by decide +kernel
theorem dX3_findAll_26 : decode cX3_findAll 26 = .ok (.iload_n 2, 1) := by decide +kernel
theorem dX3_findAll_27 : decode cX3_findAll 27 = .ok (.iconst 1, 1) := by decide +kernel
theorem dX3_findAll_28 : decode cX3_findAll 28 = .ok (.iadd, 1) := by decide +kernel
theorem dX3_findAll_29 : decode cX3_findAll 29 = .ok (.istore_n 3, 1) := by decide +kernel
theorem dX3_findAll_30 : decode cX3_findAll 30 = .ok (.iload_n 3, 1) := by decide +kernel
theorem dX3_findAll_31 : decode cX3_findAll 31 = .ok (.aload_n 0, 1) := by decide +kernel
theorem dX3_findAll_32 : decode cX3_findAll 32 = .ok (.getfield 7, 3) := by decide +kernel
theorem dX3_findAll_35 : decode cX3_findAll 35 = .ok (.iconst 0, 1) := by decide +kernel
theorem dX3_findAll_36 : decode cX3_findAll 36 = .ok (.iaload, 1) := by decide +kernel
theorem dX3_findAll_37 : decode cX3_findAll 37 = .ok (.if_icmp .ge 30, 3) := by decide +kernel
theorem dX3_findAll_40 : decode cX3_findAll 40 = .ok (.iload_n 1, 1) := by decide +kernel
theorem dX3_findAll_41 : decode cX3_findAll 41 = .ok (.aload_n 0, 1) := by decide +kernel
theorem dX3_findAll_42 : decode cX3_findAll 42 = .ok (.iload_n 2, 1) := by decide +kernel
theorem dX3_findAll_43 : decode cX3_findAll 43 = .ok (.iload_n 3, 1) := by decide +kernel
theorem dX3_findAll_44 : decode cX3_findAll 44 = .ok (.iconst 3, 1) := by decide +kernel
theorem dX3_findAll_45 : decode cX3_findAll 45 = .ok (.invokevirtual 128, 3) := by decide +kernel
theorem dX3_findAll_48 : decode cX3_findAll 48 = .ok (.iadd, 1) := by decide +kernel
theorem dX3_findAll_49 : decode cX3_findAll 49 = .ok (.istore_n 1, 1) := by decide +kernel
theorem dX3_findAll_50 : decode cX3_findAll 50 = .ok (.aload_n 0, 1) := by decide +kernel
theorem dX3_findAll_51 : decode cX3_findAll 51 = .ok (.iconst 1, 1) := by decide +kernel
theorem dX3_findAll_52 : decode cX3_findAll 52 = .ok (.iload_n 2, 1) := by decide +kernel
theorem dX3_findAll_53 : decode cX3_findAll 53 = .ok (.ishl, 1) := by decide +kernel
theorem dX3_findAll_54 : decode cX3_findAll 54 = .ok (.iconst 1, 1) := by decide +kernel
theorem dX3_findAll_55 : decode cX3_findAll 55 = .ok (.iload_n 3, 1) := by decide +kernel
theorem dX3_findAll_56 : decode cX3_findAll 56 = .ok (.ishl, 1) := by decide +kernel
theorem dX3_findAll_57 : decode cX3_findAll 57 = .ok (.ior, 1) := by decide +kernel
theorem dX3_findAll_58 : decode cX3_findAll 58 = .ok (.invokevirtual 148, 3) := by decide +kernel
theorem dX3_findAll_61 : decode cX3_findAll 61 = .ok (.iinc 3 1, 3) := by decide +kernel
theorem dX3_findAll_64 : decode cX3_findAll 64 = .ok (.goto (-34), 3) := by decide +kernel
theorem dX3_findAll_67 : decode cX3_findAll 67 = .ok (.iinc 2 1, 3) := by decide +kernel
theorem dX3_findAll_70 : decode cX3_findAll 70 = .ok (.goto (-54), 3) := by decide +kernel
theorem dX3_findAll_73 : decode cX3_findAll 73 = .ok (.iconst 0, 1) := by decide +kernel
theorem dX3_findAll_74 : decode cX3_findAll 74 = .ok (.istore_n 2, 1) := by decide +kernel
theorem dX3_findAll_75 : decode cX3_findAll 75 = .ok (.iload_n 2, 1) := by decide +kernel
theorem dX3_findAll_76 : decode cX3_findAll 76 = .ok (.bipush 64, 2) := by decide +kernel
theorem dX3_findAll_78 : decode cX3_findAll 78 = .ok (.if_icmp .ge 76, 3) := by decide +kernel
theorem dX3_findAll_81 : decode cX3_findAll 81 = .ok (.iload_n 2, 1) := by decide +kernel
theorem dX3_findAll_82 : decode cX3_findAll 82 = .ok (.bipush 16, 2) := by decide +kernel
theorem dX3_findAll_84 : decode cX3_findAll 84 = .ok (.idiv, 1) := by decide +kernel
theorem dX3_findAll_85 : decode cX3_findAll 85 = .ok (.istore_n 3, 1) := by decide +kernel
theorem dX3_findAll_86 : decode cX3_findAll 86 = .ok (.iload_n 2, 1) := by decide +kernel
theorem dX3_findAll_87 : decode cX3_findAll 87 = .ok (.iconst 4, 1) := by decide +kernel
theorem dX3_findAll_88 : decode cX3_findAll 88 = .ok (.idiv, 1) := by decide +kernel
theorem dX3_findAll_89 : decode cX3_findAll 89 = .ok (.iconst 4, 1) := by decide +kernel
theorem dX3_findAll_90 : decode cX3_findAll 90 = .ok (.irem, 1) := by decide +kernel
theorem dX3_findAll_91 : decode cX3_findAll 91 = .ok (.istore 4, 2) := by decide +kernel
theorem dX3_findAll_93 : decode cX3_findAll 93 = .ok (.iload_n 2, 1) := by decide +kernel
theorem dX3_findAll_94 : decode cX3_findAll 94 = .ok (.iconst 4, 1) := by decide +kernel
theorem dX3_findAll_95 : decode cX3_findAll 95 = .ok (.irem, 1) := by decide +kernel
theorem dX3_findAll_96 : decode cX3_findAll 96 = .ok (.istore 5, 2) := by decide +kernel
theorem dX3_findAll_98 : decode cX3_findAll 98 = .ok (.aload_n 0, 1) := by decide +kernel
theorem dX3_findAll_99 : decode cX3_findAll 99 = .ok (.iload_n 3, 1) := by decide +kernel
theorem dX3_findAll_100 : decode cX3_findAll 100 = .ok (.iload 4, 2) := by decide +kernel
theorem dX3_findAll_102 : decode cX3_findAll 102 = .ok (.invokevirtual 70, 3) := by decide +kernel
theorem dX3_findAll_105 : decode cX3_findAll 105 = .ok (.ifCond .eq 43, 3) := by decide +kernel
theorem dX3_findAll_108 : decode cX3_findAll 108 = .ok (.aload_n 0, 1) := by decide +kernel
theorem dX3_findAll_109 : decode cX3_findAll 109 = .ok (.iload 4, 2) := by decide +kernel
theorem dX3_findAll_111 : decode cX3_findAll 111 = .ok (.iload 5, 2) := by decide +kernel
theorem dX3_findAll_113 : decode cX3_findAll 113 = .ok (.invokevirtual 70, 3) := by decide +kernel
theorem dX3_findAll_116 : decode cX3_findAll 116 = .ok (.ifCond .eq 32, 3) := by decide +kernel
theorem dX3_findAll_119 : decode cX3_findAll 119 = .ok (.iload_n 1, 1) := by decide +kernel
theorem dX3_findAll_120 : decode cX3_findAll 120 = .ok (.aload_n 0, 1) := by decide +kernel
theorem dX3_findAll_121 : decode cX3_findAll 121 = .ok (.iload_n 3, 1) := by decide +kernel
theorem dX3_findAll_122 : decode cX3_findAll 122 = .ok (.iload 4, 2) := by decide +kernel
theorem dX3_findAll_124 : decode cX3_findAll 124 = .ok (.iload 5, 2) := by decide +kernel
theorem dX3_findAll_126 : decode cX3_findAll 126 = .ok (.invokevirtual 139, 3) := by decide +kernel
theorem dX3_findAll_129 : decode cX3_findAll 129 = .ok (.iadd, 1) := by decide +kernel
theorem dX3_findAll_130 : decode cX3_findAll 130 = .ok (.istore_n 1, 1) := by decide +kernel
theorem dX3_findAll_131 : decode cX3_findAll 131 = .ok (.aload_n 0, 1) := by decide +kernel
theorem dX3_findAll_132 : decode cX3_findAll 132 = .ok (.iconst 1, 1) := by decide +kernel
theorem dX3_findAll_133 : decode cX3_findAll 133 = .ok (.iload_n 3, 1) := by decide +kernel
theorem dX3_findAll_134 : decode cX3_findAll 134 = .ok (.ishl, 1) := by decide +kernel
theorem dX3_findAll_135 : decode cX3_findAll 135 = .ok (.iconst 1, 1) := by decide +kernel
theorem dX3_findAll_136 : decode cX3_findAll 136 = .ok (.iload 4, 2) := by decide +kernel
theorem dX3_findAll_138 : decode cX3_findAll 138 = .ok (.ishl, 1) := by decide +kernel
theorem dX3_findAll_139 : decode cX3_findAll 139 = .ok (.ior, 1) := by decide +kernel
theorem dX3_findAll_140 : decode cX3_findAll 140 = .ok (.iconst 1, 1) := by decide +kernel
theorem dX3_findAll_141 : decode cX3_findAll 141 = .ok (.iload 5, 2) := by decide +kernel
theorem dX3_findAll_143 : decode cX3_findAll 143 = .ok (.ishl, 1) := by decide +kernel
theorem dX3_findAll_144 : decode cX3_findAll 144 = .ok (.ior, 1) := by decide +kernel
theorem dX3_findAll_145 : decode cX3_findAll 145 = .ok (.invokevirtual 148, 3) := by decide +kernel
theorem dX3_findAll_148 : decode cX3_findAll 148 = .ok (.iinc 2 1, 3) := by decide +kernel
theorem dX3_findAll_151 : decode cX3_findAll 151 = .ok (.goto (-76), 3) := by decide +kernel
theorem dX3_findAll_154 : decode cX3_findAll 154 = .ok (.iload_n 1, 1) := by decide +kernel
theorem dX3_findAll_155 : decode cX3_findAll 155 = .ok (.ireturn, 1) := by decide +kernel
theorem dX3_note_0 : decode cX3_note 0 = .ok (.aload_n 0, 1) := by decide +kernel
theorem dX3_note_1 : decode cX3_note 1 = .ok (.getfield 124, 3) := by decide +kernel
theorem dX3_note_4 : decode cX3_note 4 = .ok (.lconst 0, 1) := by decide +kernel
theorem dX3_note_5 : decode cX3_note 5 = .ok (.lcmp, 1) := by decide +kernel
theorem dX3_note_6 : decode cX3_note 6 = .ok (.ifCond .ne 8, 3) := by decide +kernel
theorem dX3_note_9 : decode cX3_note 9 = .ok (.bipush (-4), 2) := by decide +kernel
theorem dX3_note_11 : decode cX3_note 11 = .ok (.goto 11, 3) := by decide +kernel
theorem dX3_note_14 : decode cX3_note 14 = .ok (.lconst 1, 1) := by decide +kernel
theorem dX3_note_15 : decode cX3_note 15 = .ok (.aload_n 0, 1) := by decide +kernel
theorem dX3_note_16 : decode cX3_note 16 = .ok (.getfield 124, 3) := by decide +kernel
theorem dX3_note_19 : decode cX3_note 19 = .ok (.invokestatic 117, 3) := by decide +kernel
theorem dX3_note_22 : decode cX3_note 22 = .ok (.istore_n 2, 1) := by decide +kernel
theorem dX3_note_23 : decode cX3_note 23 = .ok (.iload_n 2, 1) := by decide +kernel
theorem dX3_note_24 : decode cX3_note 24 = .ok (.aload_n 0, 1) := by decide +kernel
theorem dX3_note_25 : decode cX3_note 25 = .ok (.getfield 142, 3) := by decide +kernel
theorem dX3_note_28 : decode cX3_note 28 = .ok (.if_icmp .le 7, 3) := by decide +kernel
theorem dX3_note_31 : decode cX3_note 31 = .ok (.iconst 1, 1) := by decide +kernel
theorem dX3_note_32 : decode cX3_note 32 = .ok (.goto 4, 3) := by decide +kernel
theorem dX3_note_35 : decode cX3_note 35 = .ok (.iconst 0, 1) := by decide +kernel
theorem dX3_note_36 : decode cX3_note 36 = .ok (.istore_n 3, 1) := by decide +kernel
theorem dX3_note_37 : decode cX3_note 37 = .ok (.aload_n 0, 1) := by decide +kernel
theorem dX3_note_38 : decode cX3_note 38 = .ok (.iload_n 3, 1) := by decide +kernel
theorem dX3_note_39 : decode cX3_note 39 = .ok (.ifCond .eq 7, 3) := by decide +kernel
theorem dX3_note_42 : decode cX3_note 42 = .ok (.iload_n 2, 1) := by decide +kernel
theorem dX3_note_43 : decode cX3_note 43 = .ok (.goto 7, 3) := by decide +kernel
theorem dX3_note_46 : decode cX3_note 46 = .ok (.aload_n 0, 1) := by decide +kernel
theorem dX3_note_47 : decode cX3_note 47 = .ok (.getfield 142, 3) := by decide +kernel
theorem dX3_note_50 : decode cX3_note 50 = .ok (.putfield 142, 3) := by decide +kernel
theorem dX3_note_53 : decode cX3_note 53 = .ok (.aload_n 0, 1) := by decide +kernel
theorem dX3_note_54 : decode cX3_note 54 = .ok (.iload_n 3, 1) := by decide +kernel
theorem dX3_note_55 : decode cX3_note 55 = .ok (.ifCond .eq 7, 3) := by decide +kernel
theorem dX3_note_58 : decode cX3_note 58 = .ok (.iload_n 1, 1) := by decide +kernel
theorem dX3_note_59 : decode cX3_note 59 = .ok (.goto 7, 3) := by decide +kernel
theorem dX3_note_62 : decode cX3_note 62 = .ok (.aload_n 0, 1) := by decide +kernel
theorem dX3_note_63 : decode cX3_note 63 = .ok (.getfield 145, 3) := by decide +kernel
theorem dX3_note_66 : decode cX3_note 66 = .ok (.putfield 145, 3) := by decide +kernel
theorem dX3_note_69 : decode cX3_note 69 = .ok (.return_, 1) := by decide +kernel
theorem dX3_allBands_0 : decode cX3_allBands 0 = .ok (.aload_n 0, 1) := by decide +kernel
theorem dX3_allBands_1 : decode cX3_allBands 1 = .ok (.invokevirtual 152, 3) := by decide +kernel
theorem dX3_allBands_4 : decode cX3_allBands 4 = .ok (.ireturn, 1) := by decide +kernel
theorem dX3_worstPlates_0 : decode cX3_worstPlates 0 = .ok (.aload_n 0, 1) := by decide +kernel
theorem dX3_worstPlates_1 : decode cX3_worstPlates 1 = .ok (.invokevirtual 152, 3) := by decide +kernel
theorem dX3_worstPlates_4 : decode cX3_worstPlates 4 = .ok (.istore_n 1, 1) := by decide +kernel
theorem dX3_worstPlates_5 : decode cX3_worstPlates 5 = .ok (.aload_n 0, 1) := by decide +kernel
theorem dX3_worstPlates_6 : decode cX3_worstPlates 6 = .ok (.getfield 145, 3) := by decide +kernel
theorem dX3_worstPlates_9 : decode cX3_worstPlates 9 = .ok (.ireturn, 1) := by decide +kernel
theorem dX3_worstPeriod_0 : decode cX3_worstPeriod 0 = .ok (.aload_n 0, 1) := by decide +kernel
theorem dX3_worstPeriod_1 : decode cX3_worstPeriod 1 = .ok (.invokevirtual 152, 3) := by decide +kernel
theorem dX3_worstPeriod_4 : decode cX3_worstPeriod 4 = .ok (.istore_n 1, 1) := by decide +kernel
theorem dX3_worstPeriod_5 : decode cX3_worstPeriod 5 = .ok (.aload_n 0, 1) := by decide +kernel
theorem dX3_worstPeriod_6 : decode cX3_worstPeriod 6 = .ok (.getfield 142, 3) := by decide +kernel
theorem dX3_worstPeriod_9 : decode cX3_worstPeriod 9 = .ok (.ireturn, 1) := by decide +kernel
theorem dX3_worstPair_0 : decode cX3_worstPair 0 = .ok (.bipush (-4), 2) := by decide +kernel
theorem dX3_worstPair_2 : decode cX3_worstPair 2 = .ok (.istore_n 1, 1) := by decide +kernel
theorem dX3_worstPair_3 : decode cX3_worstPair 3 = .ok (.bipush (-4), 2) := by decide +kernel
theorem dX3_worstPair_5 : decode cX3_worstPair 5 = .ok (.istore_n 2, 1) := by decide +kernel
theorem dX3_worstPair_6 : decode cX3_worstPair 6 = .ok (.iconst 0, 1) := by decide +kernel
theorem dX3_worstPair_7 : decode cX3_worstPair 7 = .ok (.istore_n 3, 1) := by decide +kernel
theorem dX3_worstPair_8 : decode cX3_worstPair 8 = .ok (.iload_n 3, 1) := by decide +kernel
theorem dX3_worstPair_9 : decode cX3_worstPair 9 = .ok (.aload_n 0, 1) := by decide +kernel
theorem dX3_worstPair_10 : decode cX3_worstPair 10 = .ok (.getfield 7, 3) := by decide +kernel
theorem dX3_worstPair_13 : decode cX3_worstPair 13 = .ok (.iconst 0, 1) := by decide +kernel
theorem dX3_worstPair_14 : decode cX3_worstPair 14 = .ok (.iaload, 1) := by decide +kernel
theorem dX3_worstPair_15 : decode cX3_worstPair 15 = .ok (.if_icmp .ge 72, 3) := by decide +kernel
theorem dX3_worstPair_18 : decode cX3_worstPair 18 = .ok (.iload_n 3, 1) := by decide +kernel
theorem dX3_worstPair_19 : decode cX3_worstPair 19 = .ok (.iconst 1, 1) := by decide +kernel
theorem dX3_worstPair_20 : decode cX3_worstPair 20 = .ok (.iadd, 1) := by decide +kernel
theorem dX3_worstPair_21 : decode cX3_worstPair 21 = .ok (.istore 4, 2) := by decide +kernel
theorem dX3_worstPair_23 : decode cX3_worstPair 23 = .ok (.iload 4, 2) := by decide +kernel
theorem dX3_worstPair_25 : decode cX3_worstPair 25 = .ok (.aload_n 0, 1) := by decide +kernel
theorem dX3_worstPair_26 : decode cX3_worstPair 26 = .ok (.getfield 7, 3) := by decide +kernel
theorem dX3_worstPair_29 : decode cX3_worstPair 29 = .ok (.iconst 0, 1) := by decide +kernel
theorem dX3_worstPair_30 : decode cX3_worstPair 30 = .ok (.iaload, 1) := by decide +kernel
theorem dX3_worstPair_31 : decode cX3_worstPair 31 = .ok (.if_icmp .ge 50, 3) := by decide +kernel
theorem dX3_worstPair_34 : decode cX3_worstPair 34 = .ok (.aload_n 0, 1) := by decide +kernel
theorem dX3_worstPair_35 : decode cX3_worstPair 35 = .ok (.iload_n 3, 1) := by decide +kernel
theorem dX3_worstPair_36 : decode cX3_worstPair 36 = .ok (.iload 4, 2) := by decide +kernel
theorem dX3_worstPair_38 : decode cX3_worstPair 38 = .ok (.iconst 3, 1) := by decide +kernel
theorem dX3_worstPair_39 : decode cX3_worstPair 39 = .ok (.invokevirtual 128, 3) := by decide +kernel
theorem dX3_worstPair_42 : decode cX3_worstPair 42 = .ok (.istore 5, 2) := by decide +kernel
theorem dX3_worstPair_44 : decode cX3_worstPair 44 = .ok (.iload 5, 2) := by decide +kernel
theorem dX3_worstPair_46 : decode cX3_worstPair 46 = .ok (.iload_n 2, 1) := by decide +kernel
theorem dX3_worstPair_47 : decode cX3_worstPair 47 = .ok (.if_icmp .le 13, 3) := by decide +kernel
theorem dX3_worstPair_50 : decode cX3_worstPair 50 = .ok (.bipush 10, 2) := by decide +kernel
theorem dX3_worstPair_52 : decode cX3_worstPair 52 = .ok (.iload_n 3, 1) := by decide +kernel
theorem dX3_worstPair_53 : decode cX3_worstPair 53 = .ok (.imul, 1) := by decide +kernel
theorem dX3_worstPair_54 : decode cX3_worstPair 54 = .ok (.iload 4, 2) := by decide +kernel
theorem dX3_worstPair_56 : decode cX3_worstPair 56 = .ok (.iadd, 1) := by decide +kernel
theorem dX3_worstPair_57 : decode cX3_worstPair 57 = .ok (.goto 4, 3) := by decide +kernel
theorem dX3_worstPair_60 : decode cX3_worstPair 60 = .ok (.iload_n 1, 1) := by decide +kernel
theorem dX3_worstPair_61 : decode cX3_worstPair 61 = .ok (.istore_n 1, 1) := by decide +kernel
theorem dX3_worstPair_62 : decode cX3_worstPair 62 = .ok (.iload 5, 2) := by decide +kernel
theorem dX3_worstPair_64 : decode cX3_worstPair 64 = .ok (.iload_n 2, 1) := by decide +kernel
theorem dX3_worstPair_65 : decode cX3_worstPair 65 = .ok (.if_icmp .le 8, 3) := by decide +kernel
theorem dX3_worstPair_68 : decode cX3_worstPair 68 = .ok (.iload 5, 2) := by decide +kernel
theorem dX3_worstPair_70 : decode cX3_worstPair 70 = .ok (.goto 4, 3) := by decide +kernel
theorem dX3_worstPair_73 : decode cX3_worstPair 73 = .ok (.iload_n 2, 1) := by decide +kernel
theorem dX3_worstPair_74 : decode cX3_worstPair 74 = .ok (.istore_n 2, 1) := by decide +kernel
theorem dX3_worstPair_75 : decode cX3_worstPair 75 = .ok (.iinc 4 1, 3) := by decide +kernel
theorem dX3_worstPair_78 : decode cX3_worstPair 78 = .ok (.goto (-55), 3) := by decide +kernel
theorem dX3_worstPair_81 : decode cX3_worstPair 81 = .ok (.iinc 3 1, 3) := by decide +kernel
theorem dX3_worstPair_84 : decode cX3_worstPair 84 = .ok (.goto (-76), 3) := by decide +kernel
theorem dX3_worstPair_87 : decode cX3_worstPair 87 = .ok (.iload_n 1, 1) := by decide +kernel
theorem dX3_worstPair_88 : decode cX3_worstPair 88 = .ok (.ireturn, 1) := by decide +kernel
theorem dX3_size_0 : decode cX3_size 0 = .ok (.iload_n 0, 1) := by decide +kernel
theorem dX3_size_1 : decode cX3_size 1 = .ok (.ifCond .ge 8, 3) := by decide +kernel
theorem dX3_size_4 : decode cX3_size 4 = .ok (.iload_n 0, 1) := by decide +kernel
theorem dX3_size_5 : decode cX3_size 5 = .ok (.ineg, 1) := by decide +kernel
theorem dX3_size_6 : decode cX3_size 6 = .ok (.goto 4, 3) := by decide +kernel
theorem dX3_size_9 : decode cX3_size 9 = .ok (.iload_n 0, 1) := by decide +kernel
theorem dX3_size_10 : decode cX3_size 10 = .ok (.ireturn, 1) := by decide +kernel
theorem dX3_search_0 : decode cX3_search 0 = .ok (.aload_n 0, 1) := by decide +kernel
theorem dX3_search_1 : decode cX3_search 1 = .ok (.iload_n 1, 1) := by decide +kernel
theorem dX3_search_2 : decode cX3_search 2 = .ok (.invokevirtual 35, 3) := by decide +kernel
theorem dX3_search_5 : decode cX3_search 5 = .ok (.istore 4, 2) := by decide +kernel
theorem dX3_search_7 : decode cX3_search 7 = .ok (.aload_n 0, 1) := by decide +kernel
theorem dX3_search_8 : decode cX3_search 8 = .ok (.iload_n 1, 1) := by decide +kernel
theorem dX3_search_9 : decode cX3_search 9 = .ok (.invokevirtual 39, 3) := by decide +kernel
theorem dX3_search_12 : decode cX3_search 12 = .ok (.istore 5, 2) := by decide +kernel
theorem dX3_search_14 : decode cX3_search 14 = .ok (.aload_n 0, 1) := by decide +kernel
theorem dX3_search_15 : decode cX3_search 15 = .ok (.iload_n 1, 1) := by decide +kernel
theorem dX3_search_16 : decode cX3_search 16 = .ok (.invokevirtual 49, 3) := by decide +kernel
theorem dX3_search_19 : decode cX3_search 19 = .ok (.istore 6, 2) := by decide +kernel
theorem dX3_search_21 : decode cX3_search 21 = .ok (.bipush (-4), 2) := by decide +kernel
theorem dX3_search_23 : decode cX3_search 23 = .ok (.istore 7, 2) := by decide +kernel
theorem dX3_search_25 : decode cX3_search 25 = .ok (.iconst 0, 1) := by decide +kernel
theorem dX3_search_26 : decode cX3_search 26 = .ok (.istore 8, 2) := by decide +kernel
theorem dX3_search_28 : decode cX3_search 28 = .ok (.aload_n 0, 1) := by decide +kernel
theorem dX3_search_29 : decode cX3_search 29 = .ok (.bipush (-4), 2) := by decide +kernel
theorem dX3_search_31 : decode cX3_search 31 = .ok (.putfield 156, 3) := by decide +kernel
theorem dX3_search_34 : decode cX3_search 34 = .ok (.iconst 1, 1) := by decide +kernel
theorem dX3_search_35 : decode cX3_search 35 = .ok (.istore 9, 2) := by decide +kernel
theorem dX3_search_37 : decode cX3_search 37 = .ok (.iload 9, 2) := by decide +kernel
theorem dX3_search_39 : decode cX3_search 39 = .ok (.bipush 20, 2) := by decide +kernel
theorem dX3_search_41 : decode cX3_search 41 = .ok (.if_icmp .gt 181, 3) := by decide +kernel
theorem dX3_search_44 : decode cX3_search 44 = .ok (.iconst 0, 1) := by decide +kernel
theorem dX3_search_45 : decode cX3_search 45 = .ok (.istore 10, 2) := by decide +kernel
theorem dX3_search_47 : decode cX3_search 47 = .ok (.iload 10, 2) := by decide +kernel
theorem dX3_search_49 : decode cX3_search 49 = .ok (.bipush 20, 2) := by decide +kernel
theorem dX3_search_51 : decode cX3_search 51 = .ok (.if_icmp .gt 165, 3) := by decide +kernel
theorem dX3_search_54 : decode cX3_search 54 = .ok (.iload 9, 2) := by decide +kernel
theorem dX3_search_56 : decode cX3_search 56 = .ok (.iload 9, 2) := by decide +kernel
theorem dX3_search_58 : decode cX3_search 58 = .ok (.imul, 1) := by decide +kernel
theorem dX3_search_59 : decode cX3_search 59 = .ok (.iload 10, 2) := by decide +kernel
theorem dX3_search_61 : decode cX3_search 61 = .ok (.iload 10, 2) := by decide +kernel
theorem dX3_search_63 : decode cX3_search 63 = .ok (.imul, 1) := by decide +kernel
theorem dX3_search_64 : decode cX3_search 64 = .ok (.iadd, 1) := by decide +kernel
theorem dX3_search_65 : decode cX3_search 65 = .ok (.istore 11, 2) := by decide +kernel
theorem dX3_search_67 : decode cX3_search 67 = .ok (.iload 11, 2) := by decide +kernel
theorem dX3_search_69 : decode cX3_search 69 = .ok (.iload_n 2, 1) := by decide +kernel
theorem dX3_search_70 : decode cX3_search 70 = .ok (.iload_n 3, 1) := by decide +kernel
theorem dX3_search_71 : decode cX3_search 71 = .ok (.invokestatic 27, 3) := by decide +kernel
theorem dX3_search_74 : decode cX3_search 74 = .ok (.ifCond .eq 136, 3) := by decide +kernel
theorem dX3_search_77 : decode cX3_search 77 = .ok (.aload_n 0, 1) := by decide +kernel
theorem dX3_search_78 : decode cX3_search 78 = .ok (.getfield 7, 3) := by decide +kernel
theorem dX3_search_81 : decode cX3_search 81 = .ok (.iconst 4, 1) := by decide +kernel
theorem dX3_search_82 : decode cX3_search 82 = .ok (.iconst 2, 1) := by decide +kernel
theorem dX3_search_83 : decode cX3_search 83 = .ok (.iload_n 1, 1) := by decide +kernel
theorem dX3_search_84 : decode cX3_search 84 = .ok (.imul, 1) := by decide +kernel
theorem dX3_search_85 : decode cX3_search 85 = .ok (.iadd, 1) := by decide +kernel
theorem dX3_search_86 : decode cX3_search 86 = .ok (.iload 9, 2) := by decide +kernel
theorem dX3_search_88 : decode cX3_search 88 = .ok (.iastore, 1) := by decide +kernel
theorem dX3_search_89 : decode cX3_search 89 = .ok (.aload_n 0, 1) := by decide +kernel
theorem dX3_search_90 : decode cX3_search 90 = .ok (.getfield 7, 3) := by decide +kernel
theorem dX3_search_93 : decode cX3_search 93 = .ok (.iconst 4, 1) := by decide +kernel
theorem dX3_search_94 : decode cX3_search 94 = .ok (.iconst 2, 1) := by decide +kernel
theorem dX3_search_95 : decode cX3_search 95 = .ok (.iload_n 1, 1) := by decide +kernel
theorem dX3_search_96 : decode cX3_search 96 = .ok (.imul, 1) := by decide +kernel
theorem dX3_search_97 : decode cX3_search 97 = .ok (.iadd, 1) := by decide +kernel
theorem dX3_search_98 : decode cX3_search 98 = .ok (.iconst 1, 1) := by decide +kernel
theorem dX3_search_99 : decode cX3_search 99 = .ok (.iadd, 1) := by decide +kernel
theorem dX3_search_100 : decode cX3_search 100 = .ok (.iload 10, 2) := by decide +kernel
theorem dX3_search_102 : decode cX3_search 102 = .ok (.iastore, 1) := by decide +kernel
theorem dX3_search_103 : decode cX3_search 103 = .ok (.aload_n 0, 1) := by decide +kernel
theorem dX3_search_104 : decode cX3_search 104 = .ok (.invokevirtual 152, 3) := by decide +kernel
theorem dX3_search_107 : decode cX3_search 107 = .ok (.istore 12, 2) := by decide +kernel
theorem dX3_search_109 : decode cX3_search 109 = .ok (.iload 7, 2) := by decide +kernel
theorem dX3_search_111 : decode cX3_search 111 = .ok (.ifCond .lt 34, 3) := by decide +kernel
theorem dX3_search_114 : decode cX3_search 114 = .ok (.iload 12, 2) := by decide +kernel
theorem dX3_search_116 : decode cX3_search 116 = .ok (.aload_n 0, 1) := by decide +kernel
theorem dX3_search_117 : decode cX3_search 117 = .ok (.getfield 156, 3) := by decide +kernel
theorem dX3_search_120 : decode cX3_search 120 = .ok (.if_icmp .lt 25, 3) := by decide +kernel
theorem dX3_search_123 : decode cX3_search 123 = .ok (.iload 12, 2) := by decide +kernel
theorem dX3_search_125 : decode cX3_search 125 = .ok (.aload_n 0, 1) := by decide +kernel
theorem dX3_search_126 : decode cX3_search 126 = .ok (.getfield 156, 3) := by decide +kernel
theorem dX3_search_129 : decode cX3_search 129 = .ok (.if_icmp .ne 20, 3) := by decide +kernel
theorem dX3_search_132 : decode cX3_search 132 = .ok (.iload 11, 2) := by decide +kernel
theorem dX3_search_134 : decode cX3_search 134 = .ok (.iload 6, 2) := by decide +kernel
theorem dX3_search_136 : decode cX3_search 136 = .ok (.isub, 1) := by decide +kernel
theorem dX3_search_137 : decode cX3_search 137 = .ok (.invokestatic 159, 3) := by decide +kernel
theorem dX3_search_140 : decode cX3_search 140 = .ok (.iload 8, 2) := by decide +kernel
theorem dX3_search_142 : decode cX3_search 142 = .ok (.if_icmp .ge 7, 3) := by decide +kernel
theorem dX3_search_145 : decode cX3_search 145 = .ok (.iconst 1, 1) := by decide +kernel
theorem dX3_search_146 : decode cX3_search 146 = .ok (.goto 4, 3) := by decide +kernel
theorem dX3_search_149 : decode cX3_search 149 = .ok (.iconst 0, 1) := by decide +kernel
theorem dX3_search_150 : decode cX3_search 150 = .ok (.istore 13, 2) := by decide +kernel
theorem dX3_search_152 : decode cX3_search 152 = .ok (.iload 13, 2) := by decide +kernel
theorem dX3_search_154 : decode cX3_search 154 = .ok (.ifCond .eq 14, 3) := by decide +kernel
theorem dX3_search_157 : decode cX3_search 157 = .ok (.bipush 100, 2) := by decide +kernel
theorem dX3_search_159 : decode cX3_search 159 = .ok (.iload 9, 2) := by decide +kernel
theorem dX3_search_161 : decode cX3_search 161 = .ok (.imul, 1) := by decide +kernel
theorem dX3_search_162 : decode cX3_search 162 = .ok (.iload 10, 2) := by decide +kernel
theorem dX3_search_164 : decode cX3_search 164 = .ok (.iadd, 1) := by decide +kernel
theorem dX3_search_165 : decode cX3_search 165 = .ok (.goto 5, 3) := by decide +kernel
theorem dX3_search_168 : decode cX3_search 168 = .ok (.iload 7, 2) := by decide +kernel
theorem dX3_search_170 : decode cX3_search 170 = .ok (.istore 7, 2) := by decide +kernel
theorem dX3_search_172 : decode cX3_search 172 = .ok (.aload_n 0, 1) := by decide +kernel
theorem dX3_search_173 : decode cX3_search 173 = .ok (.iload 13, 2) := by decide +kernel
theorem dX3_search_175 : decode cX3_search 175 = .ok (.ifCond .eq 8, 3) := by decide +kernel
theorem dX3_search_178 : decode cX3_search 178 = .ok (.iload 12, 2) := by decide +kernel
theorem dX3_search_180 : decode cX3_search 180 = .ok (.goto 7, 3) := by decide +kernel
theorem dX3_search_183 : decode cX3_search 183 = .ok (.aload_n 0, 1) := by decide +kernel
theorem dX3_search_184 : decode cX3_search 184 = .ok (.getfield 156, 3) := by decide +kernel
theorem dX3_search_187 : decode cX3_search 187 = .ok (.putfield 156, 3) := by decide +kernel
theorem dX3_search_190 : decode cX3_search 190 = .ok (.iload 13, 2) := by decide +kernel
theorem dX3_search_192 : decode cX3_search 192 = .ok (.ifCond .eq 14, 3) := by decide +kernel
theorem dX3_search_195 : decode cX3_search 195 = .ok (.iload 11, 2) := by decide +kernel
theorem dX3_search_197 : decode cX3_search 197 = .ok (.iload 6, 2) := by decide +kernel
theorem dX3_search_199 : decode cX3_search 199 = .ok (.isub, 1) := by decide +kernel
theorem dX3_search_200 : decode cX3_search 200 = .ok (.invokestatic 159, 3) := by decide +kernel
theorem dX3_search_203 : decode cX3_search 203 = .ok (.goto 5, 3) := by decide +kernel
theorem dX3_search_206 : decode cX3_search 206 = .ok (.iload 8, 2) := by decide +kernel
theorem dX3_search_208 : decode cX3_search 208 = .ok (.istore 8, 2) := by decide +kernel
theorem dX3_search_210 : decode cX3_search 210 = .ok (.iinc 10 1, 3) := by decide +kernel
theorem dX3_search_213 : decode cX3_search 213 = .ok (.goto (-166), 3) := by decide +kernel
theorem dX3_search_216 : decode cX3_search 216 = .ok (.iinc 9 1, 3) := by decide +kernel
theorem dX3_search_219 : decode cX3_search 219 = .ok (.goto (-182), 3) := by decide +kernel
theorem dX3_search_222 : decode cX3_search 222 = .ok (.aload_n 0, 1) := by decide +kernel
theorem dX3_search_223 : decode cX3_search 223 = .ok (.getfield 7, 3) := by decide +kernel
theorem dX3_search_226 : decode cX3_search 226 = .ok (.iconst 4, 1) := by decide +kernel
theorem dX3_search_227 : decode cX3_search 227 = .ok (.iconst 2, 1) := by decide +kernel
theorem dX3_search_228 : decode cX3_search 228 = .ok (.iload_n 1, 1) := by decide +kernel
theorem dX3_search_229 : decode cX3_search 229 = .ok (.imul, 1) := by decide +kernel
theorem dX3_search_230 : decode cX3_search 230 = .ok (.iadd, 1) := by decide +kernel
theorem dX3_search_231 : decode cX3_search 231 = .ok (.iload 4, 2) := by decide +kernel
theorem dX3_search_233 : decode cX3_search 233 = .ok (.iastore, 1) := by decide +kernel
theorem dX3_search_234 : decode cX3_search 234 = .ok (.aload_n 0, 1) := by decide +kernel
theorem dX3_search_235 : decode cX3_search 235 = .ok (.getfield 7, 3) := by decide +kernel
theorem dX3_search_238 : decode cX3_search 238 = .ok (.iconst 4, 1) := by decide +kernel
theorem dX3_search_239 : decode cX3_search 239 = .ok (.iconst 2, 1) := by decide +kernel
theorem dX3_search_240 : decode cX3_search 240 = .ok (.iload_n 1, 1) := by decide +kernel
theorem dX3_search_241 : decode cX3_search 241 = .ok (.imul, 1) := by decide +kernel
theorem dX3_search_242 : decode cX3_search 242 = .ok (.iadd, 1) := by decide +kernel
theorem dX3_search_243 : decode cX3_search 243 = .ok (.iconst 1, 1) := by decide +kernel
theorem dX3_search_244 : decode cX3_search 244 = .ok (.iadd, 1) := by decide +kernel
theorem dX3_search_245 : decode cX3_search 245 = .ok (.iload 5, 2) := by decide +kernel
theorem dX3_search_247 : decode cX3_search 247 = .ok (.iastore, 1) := by decide +kernel
theorem dX3_search_248 : decode cX3_search 248 = .ok (.iload 7, 2) := by decide +kernel
theorem dX3_search_250 : decode cX3_search 250 = .ok (.ireturn, 1) := by decide +kernel
theorem dX3_isRange_0 : decode cX3_isRange 0 = .ok (.aload_n 0, 1) := by decide +kernel
theorem dX3_isRange_1 : decode cX3_isRange 1 = .ok (.iload_n 1, 1) := by decide +kernel
theorem dX3_isRange_2 : decode cX3_isRange 2 = .ok (.invokevirtual 31, 3) := by decide +kernel
theorem dX3_isRange_5 : decode cX3_isRange 5 = .ok (.ifCond .eq 29, 3) := by decide +kernel
theorem dX3_isRange_8 : decode cX3_isRange 8 = .ok (.iload_n 2, 1) := by decide +kernel
theorem dX3_isRange_9 : decode cX3_isRange 9 = .ok (.iconst 1, 1) := by decide +kernel
theorem dX3_isRange_10 : decode cX3_isRange 10 = .ok (.sipush 800, 3) := by decide +kernel
theorem dX3_isRange_13 : decode cX3_isRange 13 = .ok (.invokestatic 27, 3) := by decide +kernel
theorem dX3_isRange_16 : decode cX3_isRange 16 = .ok (.ifCond .eq 18, 3) := by decide +kernel
theorem dX3_isRange_19 : decode cX3_isRange 19 = .ok (.iload_n 3, 1) := by decide +kernel
theorem dX3_isRange_20 : decode cX3_isRange 20 = .ok (.iload_n 2, 1) := by decide +kernel
theorem dX3_isRange_21 : decode cX3_isRange 21 = .ok (.sipush 800, 3) := by decide +kernel
theorem dX3_isRange_24 : decode cX3_isRange 24 = .ok (.invokestatic 27, 3) := by decide +kernel
theorem dX3_isRange_27 : decode cX3_isRange 27 = .ok (.ifCond .eq 7, 3) := by decide +kernel
theorem dX3_isRange_30 : decode cX3_isRange 30 = .ok (.iconst 1, 1) := by decide +kernel
theorem dX3_isRange_31 : decode cX3_isRange 31 = .ok (.goto 4, 3) := by decide +kernel
theorem dX3_isRange_34 : decode cX3_isRange 34 = .ok (.iconst 0, 1) := by decide +kernel
theorem dX3_isRange_35 : decode cX3_isRange 35 = .ok (.ireturn, 1) := by decide +kernel
theorem dX3_bestScreen_0 : decode cX3_bestScreen 0 = .ok (.aload_n 0, 1) := by decide +kernel
theorem dX3_bestScreen_1 : decode cX3_bestScreen 1 = .ok (.iload_n 1, 1) := by decide +kernel
theorem dX3_bestScreen_2 : decode cX3_bestScreen 2 = .ok (.iload_n 2, 1) := by decide +kernel
theorem dX3_bestScreen_3 : decode cX3_bestScreen 3 = .ok (.iload_n 3, 1) := by decide +kernel
theorem dX3_bestScreen_4 : decode cX3_bestScreen 4 = .ok (.invokevirtual 162, 3) := by decide +kernel
theorem dX3_bestScreen_7 : decode cX3_bestScreen 7 = .ok (.ifCond .eq 13, 3) := by decide +kernel
theorem dX3_bestScreen_10 : decode cX3_bestScreen 10 = .ok (.aload_n 0, 1) := by decide +kernel
theorem dX3_bestScreen_11 : decode cX3_bestScreen 11 = .ok (.iload_n 1, 1) := by decide +kernel
theorem dX3_bestScreen_12 : decode cX3_bestScreen 12 = .ok (.iload_n 2, 1) := by decide +kernel
theorem dX3_bestScreen_13 : decode cX3_bestScreen 13 = .ok (.iload_n 3, 1) := by decide +kernel
theorem dX3_bestScreen_14 : decode cX3_bestScreen 14 = .ok (.invokevirtual 165, 3) := by decide +kernel
theorem dX3_bestScreen_17 : decode cX3_bestScreen 17 = .ok (.goto 4, 3) := by decide +kernel
theorem dX3_bestScreen_20 : decode cX3_bestScreen 20 = .ok (.iconst (-1), 1) := by decide +kernel
theorem dX3_bestScreen_21 : decode cX3_bestScreen 21 = .ok (.ireturn, 1) := by decide +kernel
theorem dX3_bandsWithBest_0 : decode cX3_bandsWithBest 0 = .ok (.aload_n 0, 1) := by decide +kernel
theorem dX3_bandsWithBest_1 : decode cX3_bandsWithBest 1 = .ok (.iload_n 1, 1) := by decide +kernel
theorem dX3_bandsWithBest_2 : decode cX3_bandsWithBest 2 = .ok (.iload_n 2, 1) := by decide +kernel
theorem dX3_bandsWithBest_3 : decode cX3_bandsWithBest 3 = .ok (.iload_n 3, 1) := by decide +kernel
theorem dX3_bandsWithBest_4 : decode cX3_bandsWithBest 4 = .ok (.invokevirtual 162, 3) := by decide +kernel
theorem dX3_bandsWithBest_7 : decode cX3_bandsWithBest 7 = .ok (.ifCond .ne 5, 3) := by decide +kernel
theorem dX3_bandsWithBest_10 : decode cX3_bandsWithBest 10 = .ok (.iconst (-1), 1) := by decide +kernel
theorem dX3_bandsWithBest_11 : decode cX3_bandsWithBest 11 = .ok (.ireturn, 1) := by decide +kernel
theorem dX3_bandsWithBest_12 : decode cX3_bandsWithBest 12 = .ok (.aload_n 0, 1) := by decide +kernel
theorem dX3_bandsWithBest_13 : decode cX3_bandsWithBest 13 = .ok (.iload_n 1, 1) := by decide +kernel
theorem dX3_bandsWithBest_14 : decode cX3_bandsWithBest 14 = .ok (.iload_n 2, 1) := by decide +kernel
theorem dX3_bandsWithBest_15 : decode cX3_bandsWithBest 15 = .ok (.iload_n 3, 1) := by decide +kernel
theorem dX3_bandsWithBest_16 : decode cX3_bandsWithBest 16 = .ok (.invokevirtual 165, 3) := by decide +kernel
theorem dX3_bandsWithBest_19 : decode cX3_bandsWithBest 19 = .ok (.istore 4, 2) := by decide +kernel
theorem dX3_bandsWithBest_21 : decode cX3_bandsWithBest 21 = .ok (.aload_n 0, 1) := by decide +kernel
theorem dX3_bandsWithBest_22 : decode cX3_bandsWithBest 22 = .ok (.getfield 156, 3) := by decide +kernel
theorem dX3_bandsWithBest_25 : decode cX3_bandsWithBest 25 = .ok (.ireturn, 1) := by decide +kernel
theorem dX3_save_0 : decode cX3_save 0 = .ok (.iload_n 1, 1) := by decide +kernel
theorem dX3_save_1 : decode cX3_save 1 = .ok (.iconst 0, 1) := by decide +kernel
theorem dX3_save_2 : decode cX3_save 2 = .ok (.iconst 1, 1) := by decide +kernel
theorem dX3_save_3 : decode cX3_save 3 = .ok (.invokestatic 27, 3) := by decide +kernel
theorem dX3_save_6 : decode cX3_save 6 = .ok (.ifCond .ne 5, 3) := by decide +kernel
theorem dX3_save_9 : decode cX3_save 9 = .ok (.iconst (-1), 1) := by decide +kernel
theorem dX3_save_10 : decode cX3_save 10 = .ok (.ireturn, 1) := by decide +kernel
theorem dX3_save_11 : decode cX3_save 11 = .ok (.aload_n 0, 1) := by decide +kernel
theorem dX3_save_12 : decode cX3_save 12 = .ok (.getfield 16, 3) := by decide +kernel
theorem dX3_save_15 : decode cX3_save 15 = .ok (.bipush 13, 2) := by decide +kernel
theorem dX3_save_17 : decode cX3_save 17 = .ok (.iload_n 1, 1) := by decide +kernel
theorem dX3_save_18 : decode cX3_save 18 = .ok (.imul, 1) := by decide +kernel
theorem dX3_save_19 : decode cX3_save 19 = .ok (.iconst 1, 1) := by decide +kernel
theorem dX3_save_20 : decode cX3_save 20 = .ok (.iastore, 1) := by decide +kernel
theorem dX3_save_21 : decode cX3_save 21 = .ok (.iconst 0, 1) := by decide +kernel
theorem dX3_save_22 : decode cX3_save 22 = .ok (.istore_n 2, 1) := by decide +kernel
theorem dX3_save_23 : decode cX3_save 23 = .ok (.iload_n 2, 1) := by decide +kernel
theorem dX3_save_24 : decode cX3_save 24 = .ok (.bipush 12, 2) := by decide +kernel
theorem dX3_save_26 : decode cX3_save 26 = .ok (.if_icmp .ge 28, 3) := by decide +kernel
theorem dX3_save_29 : decode cX3_save 29 = .ok (.aload_n 0, 1) := by decide +kernel
theorem dX3_save_30 : decode cX3_save 30 = .ok (.getfield 16, 3) := by decide +kernel
theorem dX3_save_33 : decode cX3_save 33 = .ok (.bipush 13, 2) := by decide +kernel
theorem dX3_save_35 : decode cX3_save 35 = .ok (.iload_n 1, 1) := by decide +kernel
theorem dX3_save_36 : decode cX3_save 36 = .ok (.imul, 1) := by decide +kernel
theorem dX3_save_37 : decode cX3_save 37 = .ok (.iconst 1, 1) := by decide +kernel
theorem dX3_save_38 : decode cX3_save 38 = .ok (.iadd, 1) := by decide +kernel
theorem dX3_save_39 : decode cX3_save 39 = .ok (.iload_n 2, 1) := by decide +kernel
theorem dX3_save_40 : decode cX3_save 40 = .ok (.iadd, 1) := by decide +kernel
theorem dX3_save_41 : decode cX3_save 41 = .ok (.aload_n 0, 1) := by decide +kernel
theorem dX3_save_42 : decode cX3_save 42 = .ok (.getfield 7, 3) := by decide +kernel
theorem dX3_save_45 : decode cX3_save 45 = .ok (.iload_n 2, 1) := by decide +kernel
theorem dX3_save_46 : decode cX3_save 46 = .ok (.iaload, 1) := by decide +kernel
theorem dX3_save_47 : decode cX3_save 47 = .ok (.iastore, 1) := by decide +kernel
theorem dX3_save_48 : decode cX3_save 48 = .ok (.iinc 2 1, 3) := by decide +kernel
theorem dX3_save_51 : decode cX3_save 51 = .ok (.goto (-28), 3) := by decide +kernel
theorem dX3_save_54 : decode cX3_save 54 = .ok (.aload_n 0, 1) := by decide +kernel
theorem dX3_save_55 : decode cX3_save 55 = .ok (.getfield 7, 3) := by decide +kernel
theorem dX3_save_58 : decode cX3_save 58 = .ok (.iconst 0, 1) := by decide +kernel
theorem dX3_save_59 : decode cX3_save 59 = .ok (.iaload, 1) := by decide +kernel
theorem dX3_save_60 : decode cX3_save 60 = .ok (.ireturn, 1) := by decide +kernel
theorem dX3_restore_0 : decode cX3_restore 0 = .ok (.iload_n 1, 1) := by decide +kernel
theorem dX3_restore_1 : decode cX3_restore 1 = .ok (.iconst 0, 1) := by decide +kernel
theorem dX3_restore_2 : decode cX3_restore 2 = .ok (.iconst 1, 1) := by decide +kernel
theorem dX3_restore_3 : decode cX3_restore 3 = .ok (.invokestatic 27, 3) := by decide +kernel
theorem dX3_restore_6 : decode cX3_restore 6 = .ok (.ifCond .ne 5, 3) := by decide +kernel
theorem dX3_restore_9 : decode cX3_restore 9 = .ok (.iconst (-1), 1) := by decide +kernel
theorem dX3_restore_10 : decode cX3_restore 10 = .ok (.ireturn, 1) := by decide +kernel
theorem dX3_restore_11 : decode cX3_restore 11 = .ok (.aload_n 0, 1) := by decide +kernel
theorem dX3_restore_12 : decode cX3_restore 12 = .ok (.getfield 16, 3) := by decide +kernel
theorem dX3_restore_15 : decode cX3_restore 15 = .ok (.bipush 13, 2) := by decide +kernel
theorem dX3_restore_17 : decode cX3_restore 17 = .ok (.iload_n 1, 1) := by decide +kernel
theorem dX3_restore_18 : decode cX3_restore 18 = .ok (.imul, 1) := by decide +kernel
theorem dX3_restore_19 : decode cX3_restore 19 = .ok (.iaload, 1) := by decide +kernel
theorem dX3_restore_20 : decode cX3_restore 20 = .ok (.ifCond .ne 6, 3) := by decide +kernel
theorem dX3_restore_23 : decode cX3_restore 23 = .ok (.bipush (-2), 2) := by decide +kernel
theorem dX3_restore_25 : decode cX3_restore 25 = .ok (.ireturn, 1) := by decide +kernel
theorem dX3_restore_26 : decode cX3_restore 26 = .ok (.aload_n 0, 1) := by decide +kernel
theorem dX3_restore_27 : decode cX3_restore 27 = .ok (.invokevirtual 46, 3) := by decide +kernel
theorem dX3_restore_30 : decode cX3_restore 30 = .ok (.iconst 0, 1) := by decide +kernel
theorem dX3_restore_31 : decode cX3_restore 31 = .ok (.istore_n 2, 1) := by decide +kernel
theorem dX3_restore_32 : decode cX3_restore 32 = .ok (.iload_n 2, 1) := by decide +kernel
theorem dX3_restore_33 : decode cX3_restore 33 = .ok (.bipush 12, 2) := by decide +kernel
theorem dX3_restore_35 : decode cX3_restore 35 = .ok (.if_icmp .ge 28, 3) := by decide +kernel
theorem dX3_restore_38 : decode cX3_restore 38 = .ok (.aload_n 0, 1) := by decide +kernel
theorem dX3_restore_39 : decode cX3_restore 39 = .ok (.getfield 7, 3) := by decide +kernel
theorem dX3_restore_42 : decode cX3_restore 42 = .ok (.iload_n 2, 1) := by decide +kernel
theorem dX3_restore_43 : decode cX3_restore 43 = .ok (.aload_n 0, 1) := by decide +kernel
theorem dX3_restore_44 : decode cX3_restore 44 = .ok (.getfield 16, 3) := by decide +kernel
theorem dX3_restore_47 : decode cX3_restore 47 = .ok (.bipush 13, 2) := by decide +kernel
theorem dX3_restore_49 : decode cX3_restore 49 = .ok (.iload_n 1, 1) := by decide +kernel
theorem dX3_restore_50 : decode cX3_restore 50 = .ok (.imul, 1) := by decide +kernel
theorem dX3_restore_51 : decode cX3_restore 51 = .ok (.iconst 1, 1) := by decide +kernel
theorem dX3_restore_52 : decode cX3_restore 52 = .ok (.iadd, 1) := by decide +kernel
theorem dX3_restore_53 : decode cX3_restore 53 = .ok (.iload_n 2, 1) := by decide +kernel
theorem dX3_restore_54 : decode cX3_restore 54 = .ok (.iadd, 1) := by decide +kernel
theorem dX3_restore_55 : decode cX3_restore 55 = .ok (.iaload, 1) := by decide +kernel
theorem dX3_restore_56 : decode cX3_restore 56 = .ok (.iastore, 1) := by decide +kernel
theorem dX3_restore_57 : decode cX3_restore 57 = .ok (.iinc 2 1, 3) := by decide +kernel
theorem dX3_restore_60 : decode cX3_restore 60 = .ok (.goto (-28), 3) := by decide +kernel
theorem dX3_restore_63 : decode cX3_restore 63 = .ok (.aload_n 0, 1) := by decide +kernel
theorem dX3_restore_64 : decode cX3_restore 64 = .ok (.getfield 7, 3) := by decide +kernel
theorem dX3_restore_67 : decode cX3_restore 67 = .ok (.iconst 0, 1) := by decide +kernel
theorem dX3_restore_68 : decode cX3_restore 68 = .ok (.iaload, 1) := by decide +kernel
theorem dX3_restore_69 : decode cX3_restore 69 = .ok (.ireturn, 1) := by decide +kernel
theorem dX3_historySize_0 : decode cX3_historySize 0 = .ok (.aload_n 0, 1) := by decide +kernel
theorem dX3_historySize_1 : decode cX3_historySize 1 = .ok (.getfield 23, 3) := by decide +kernel
theorem dX3_historySize_4 : decode cX3_historySize 4 = .ok (.ireturn, 1) := by decide +kernel
theorem dX3_undo_0 : decode cX3_undo 0 = .ok (.aload_n 0, 1) := by decide +kernel
theorem dX3_undo_1 : decode cX3_undo 1 = .ok (.getfield 23, 3) := by decide +kernel
theorem dX3_undo_4 : decode cX3_undo 4 = .ok (.ifCond .ne 6, 3) := by decide +kernel
theorem dX3_undo_7 : decode cX3_undo 7 = .ok (.bipush (-2), 2) := by decide +kernel
theorem dX3_undo_9 : decode cX3_undo 9 = .ok (.ireturn, 1) := by decide +kernel
theorem dX3_undo_10 : decode cX3_undo 10 = .ok (.aload_n 0, 1) := by decide +kernel
theorem dX3_undo_11 : decode cX3_undo 11 = .ok (.dup, 1) := by decide +kernel
theorem dX3_undo_12 : decode cX3_undo 12 = .ok (.getfield 23, 3) := by decide +kernel
theorem dX3_undo_15 : decode cX3_undo 15 = .ok (.iconst 1, 1) := by decide +kernel
theorem dX3_undo_16 : decode cX3_undo 16 = .ok (.isub, 1) := by decide +kernel
theorem dX3_undo_17 : decode cX3_undo 17 = .ok (.putfield 23, 3) := by decide +kernel
theorem dX3_undo_20 : decode cX3_undo 20 = .ok (.iconst 0, 1) := by decide +kernel
theorem dX3_undo_21 : decode cX3_undo 21 = .ok (.istore_n 1, 1) := by decide +kernel
theorem dX3_undo_22 : decode cX3_undo 22 = .ok (.iload_n 1, 1) := by decide +kernel
theorem dX3_undo_23 : decode cX3_undo 23 = .ok (.bipush 12, 2) := by decide +kernel
theorem dX3_undo_25 : decode cX3_undo 25 = .ok (.if_icmp .ge 29, 3) := by decide +kernel
theorem dX3_undo_28 : decode cX3_undo 28 = .ok (.aload_n 0, 1) := by decide +kernel
theorem dX3_undo_29 : decode cX3_undo 29 = .ok (.getfield 7, 3) := by decide +kernel
theorem dX3_undo_32 : decode cX3_undo 32 = .ok (.iload_n 1, 1) := by decide +kernel
theorem dX3_undo_33 : decode cX3_undo 33 = .ok (.aload_n 0, 1) := by decide +kernel
theorem dX3_undo_34 : decode cX3_undo 34 = .ok (.getfield 13, 3) := by decide +kernel
theorem dX3_undo_37 : decode cX3_undo 37 = .ok (.bipush 12, 2) := by decide +kernel
theorem dX3_undo_39 : decode cX3_undo 39 = .ok (.aload_n 0, 1) := by decide +kernel
theorem dX3_undo_40 : decode cX3_undo 40 = .ok (.getfield 23, 3) := by decide +kernel
theorem dX3_undo_43 : decode cX3_undo 43 = .ok (.imul, 1) := by decide +kernel
theorem dX3_undo_44 : decode cX3_undo 44 = .ok (.iload_n 1, 1) := by decide +kernel
theorem dX3_undo_45 : decode cX3_undo 45 = .ok (.iadd, 1) := by decide +kernel
theorem dX3_undo_46 : decode cX3_undo 46 = .ok (.iaload, 1) := by decide +kernel
theorem dX3_undo_47 : decode cX3_undo 47 = .ok (.iastore, 1) := by decide +kernel
theorem dX3_undo_48 : decode cX3_undo 48 = .ok (.iinc 1 1, 3) := by decide +kernel
theorem dX3_undo_51 : decode cX3_undo 51 = .ok (.goto (-29), 3) := by decide +kernel
theorem dX3_undo_54 : decode cX3_undo 54 = .ok (.aload_n 0, 1) := by decide +kernel
theorem dX3_undo_55 : decode cX3_undo 55 = .ok (.getfield 23, 3) := by decide +kernel
theorem dX3_undo_58 : decode cX3_undo 58 = .ok (.ireturn, 1) := by decide +kernel

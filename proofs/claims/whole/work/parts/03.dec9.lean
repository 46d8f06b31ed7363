theorem dX9_init_0 : decode cX9_init 0 = .ok (.aload_n 0, 1) := by decide +kernel
theorem dX9_init_1 : decode cX9_init 1 = .ok (.invokespecial 1, 3) := by decide +kernel
theorem dX9_init_4 : decode cX9_init 4 = .ok (.aload_n 0, 1) := by decide +kernel
theorem dX9_init_5 : decode cX9_init 5 = .ok (.bipush 40, 2) := by decide +kernel
theorem dX9_init_7 : decode cX9_init 7 = .ok (.newarray .int, 2) := by decide +kernel
theorem dX9_init_9 : decode cX9_init 9 = .ok (.putfield 7, 3) := by decide +kernel
theorem dX9_init_12 : decode cX9_init 12 = .ok (.aload_n 0, 1) := by decide +kernel
theorem dX9_init_13 : decode cX9_init 13 = .ok (.bipush 40, 2) := by decide +kernel
theorem dX9_init_15 : decode cX9_init 15 = .ok (.newarray .int, 2) := by decide +kernel
theorem dX9_init_17 : decode cX9_init 17 = .ok (.putfield 13, 3) := by decide +kernel
theorem dX9_init_20 : decode cX9_init 20 = .ok (.aload_n 0, 1) := by decide +kernel
theorem dX9_init_21 : decode cX9_init 21 = .ok (.bipush 40, 2) := by decide +kernel
theorem dX9_init_23 : decode cX9_init 23 = .ok (.newarray .int, 2) := by decide +kernel
theorem dX9_init_25 : decode cX9_init 25 = .ok (.putfield 16, 3) := by decide +kernel
theorem dX9_init_28 : decode cX9_init 28 = .ok (.aload_n 0, 1) := by decide +kernel
theorem dX9_init_29 : decode cX9_init 29 = .ok (.bipush 40, 2) := by decide +kernel
theorem dX9_init_31 : decode cX9_init 31 = .ok (.newarray .int, 2) := by decide +kernel
theorem dX9_init_33 : decode cX9_init 33 = .ok (.putfield 19, 3) := by decide +kernel
theorem dX9_init_36 : decode cX9_init 36 = .ok (.aload_n 0, 1) := by decide +kernel
theorem dX9_init_37 : decode cX9_init 37 = .ok (.bipush 40, 2) := by decide +kernel
theorem dX9_init_39 : decode cX9_init 39 = .ok (.newarray .int, 2) := by decide +kernel
theorem dX9_init_41 : decode cX9_init 41 = .ok (.putfield 22, 3) := by decide +kernel
theorem dX9_init_44 : decode cX9_init 44 = .ok (.aload_n 0, 1) := by decide +kernel
theorem dX9_init_45 : decode cX9_init 45 = .ok (.bipush 40, 2) := by decide +kernel
theorem dX9_init_47 : decode cX9_init 47 = .ok (.newarray .int, 2) := by decide +kernel
theorem dX9_init_49 : decode cX9_init 49 = .ok (.putfield 25, 3) := by decide +kernel
theorem dX9_init_52 : decode cX9_init 52 = .ok (.aload_n 0, 1) := by decide +kernel
theorem dX9_init_53 : decode cX9_init 53 = .ok (.bipush 40, 2) := by decide +kernel
theorem dX9_init_55 : decode cX9_init 55 = .ok (.newarray .int, 2) := by decide +kernel
theorem dX9_init_57 : decode cX9_init 57 = .ok (.putfield 28, 3) := by decide +kernel
theorem dX9_init_60 : decode cX9_init 60 = .ok (.aload_n 0, 1) := by decide +kernel
theorem dX9_init_61 : decode cX9_init 61 = .ok (.bipush 20, 2) := by decide +kernel
theorem dX9_init_63 : decode cX9_init 63 = .ok (.putfield 31, 3) := by decide +kernel
theorem dX9_init_66 : decode cX9_init 66 = .ok (.aload_n 0, 1) := by decide +kernel
theorem dX9_init_67 : decode cX9_init 67 = .ok (.iconst 3, 1) := by decide +kernel
theorem dX9_init_68 : decode cX9_init 68 = .ok (.newarray .int, 2) := by decide +kernel
theorem dX9_init_70 : decode cX9_init 70 = .ok (.putfield 35, 3) := by decide +kernel
theorem dX9_init_73 : decode cX9_init 73 = .ok (.aload_n 0, 1) := by decide +kernel
theorem dX9_init_74 : decode cX9_init 74 = .ok (.bipush 40, 2) := by decide +kernel
theorem dX9_init_76 : decode cX9_init 76 = .ok (.newarray .int, 2) := by decide +kernel
theorem dX9_init_78 : decode cX9_init 78 = .ok (.putfield 38, 3) := by decide +kernel
theorem dX9_init_81 : decode cX9_init 81 = .ok (.return_, 1) := by decide +kernel
theorem dX9_in_0 : decode cX9_in 0 = .ok (.iload_n 0, 1) := by decide +kernel
theorem dX9_in_1 : decode cX9_in 1 = .ok (.iload_n 1, 1) := by decide +kernel
theorem dX9_in_2 : decode cX9_in 2 = .ok (.if_icmp .lt 12, 3) := by decide +kernel
theorem dX9_in_5 : decode cX9_in 5 = .ok (.iload_n 0, 1) := by decide +kernel
theorem dX9_in_6 : decode cX9_in 6 = .ok (.iload_n 2, 1) := by decide +kernel
theorem dX9_in_7 : decode cX9_in 7 = .ok (.if_icmp .gt 7, 3) := by decide +kernel
theorem dX9_in_10 : decode cX9_in 10 = .ok (.iconst 1, 1) := by decide +kernel
theorem dX9_in_11 : decode cX9_in 11 = .ok (.goto 4, 3) := by decide +kernel
theorem dX9_in_14 : decode cX9_in 14 = .ok (.iconst 0, 1) := by decide +kernel
theorem dX9_in_15 : decode cX9_in 15 = .ok (.ireturn, 1) := by decide +kernel
theorem dX9_isBatch_0 : decode cX9_isBatch 0 = .ok (.iload_n 1, 1) := by decide +kernel
theorem dX9_isBatch_1 : decode cX9_isBatch 1 = .ok (.iconst 0, 1) := by decide +kernel
theorem dX9_isBatch_2 : decode cX9_isBatch 2 = .ok (.aload_n 0, 1) := by decide +kernel
theorem dX9_isBatch_3 : decode cX9_isBatch 3 = .ok (.getfield 41, 3) := by decide +kernel
theorem dX9_isBatch_6 : decode cX9_isBatch 6 = .ok (.iconst 1, 1) := by decide +kernel
theorem dX9_isBatch_7 : decode cX9_isBatch 7 = .ok (.isub, 1) := by decide +kernel
theorem dX9_isBatch_8 : decode cX9_isBatch 8 = .ok (.invokestatic 44, 3) := by decide +kernel
theorem dX9_isBatch_11 : decode cX9_isBatch 11 = .ok (.ireturn, 1) := by decide +kernel
theorem dX9_batch_0 : decode cX9_batch 0 = .ok (.iload_n 1, 1) := by decide +kernel
theorem dX9_batch_1 : decode cX9_batch 1 = .ok (.iconst 0, 1) := by decide +kernel
theorem dX9_batch_2 : decode cX9_batch 2 = .ok (.bipush 6, 2) := by decide +kernel
theorem dX9_batch_4 : decode cX9_batch 4 = .ok (.invokestatic 44, 3) := by decide +kernel
theorem dX9_batch_7 : decode cX9_batch 7 = .ok (.ifCond .eq 14, 3) := by decide +kernel
theorem dX9_batch_10 : decode cX9_batch 10 = .ok (.iload_n 2, 1) := by decide +kernel
theorem dX9_batch_11 : decode cX9_batch 11 = .ok (.iconst 1, 1) := by decide +kernel
theorem dX9_batch_12 : decode cX9_batch 12 = .ok (.sipush 500, 3) := by decide +kernel
theorem dX9_batch_15 : decode cX9_batch 15 = .ok (.invokestatic 44, 3) := by decide +kernel
theorem dX9_batch_18 : decode cX9_batch 18 = .ok (.ifCond .ne 6, 3) := by decide +kernel
theorem dX9_batch_21 : decode cX9_batch 21 = .ok (.bipush (-2), 2) := by decide +kernel
theorem dX9_batch_23 : decode cX9_batch 23 = .ok (.ireturn, 1) := by decide +kernel
theorem dX9_batch_24 : decode cX9_batch 24 = .ok (.aload_n 0, 1) := by decide +kernel
theorem dX9_batch_25 : decode cX9_batch 25 = .ok (.getfield 41, 3) := by decide +kernel
theorem dX9_batch_28 : decode cX9_batch 28 = .ok (.bipush 40, 2) := by decide +kernel
theorem dX9_batch_30 : decode cX9_batch 30 = .ok (.if_icmp .ne 6, 3) := by decide +kernel
theorem dX9_batch_33 : decode cX9_batch 33 = .ok (.bipush (-4), 2) := by decide +kernel
theorem dX9_batch_35 : decode cX9_batch 35 = .ok (.ireturn, 1) := by decide +kernel
theorem dX9_batch_36 : decode cX9_batch 36 = .ok (.aload_n 0, 1) := by decide +kernel
theorem dX9_batch_37 : decode cX9_batch 37 = .ok (.getfield 7, 3) := by decide +kernel
theorem dX9_batch_40 : decode cX9_batch 40 = .ok (.aload_n 0, 1) := by decide +kernel
theorem dX9_batch_41 : decode cX9_batch 41 = .ok (.getfield 41, 3) := by decide +kernel
theorem dX9_batch_44 : decode cX9_batch 44 = .ok (.iload_n 1, 1) := by decide +kernel
theorem dX9_batch_45 : decode cX9_batch 45 = .ok (.iastore, 1) := by decide +kernel
theorem dX9_batch_46 : decode cX9_batch 46 = .ok (.aload_n 0, 1) := by decide +kernel
theorem dX9_batch_47 : decode cX9_batch 47 = .ok (.getfield 13, 3) := by decide +kernel
theorem dX9_batch_50 : decode cX9_batch 50 = .ok (.aload_n 0, 1) := by decide +kernel
theorem dX9_batch_51 : decode cX9_batch 51 = .ok (.getfield 41, 3) := by decide +kernel
theorem dX9_batch_54 : decode cX9_batch 54 = .ok (.iload_n 2, 1) := by decide +kernel
theorem dX9_batch_55 : decode cX9_batch 55 = .ok (.iastore, 1) := by decide +kernel
theorem dX9_batch_56 : decode cX9_batch 56 = .ok (.aload_n 0, 1) := by decide +kernel
theorem dX9_batch_57 : decode cX9_batch 57 = .ok (.getfield 16, 3) := by decide +kernel
theorem dX9_batch_60 : decode cX9_batch 60 = .ok (.aload_n 0, 1) := by decide +kernel
theorem dX9_batch_61 : decode cX9_batch 61 = .ok (.getfield 41, 3) := by decide +kernel
theorem dX9_batch_64 : decode cX9_batch 64 = .ok (.iconst 0, 1) := by decide +kernel
theorem dX9_batch_65 : decode cX9_batch 65 = .ok (.iastore, 1) := by decide +kernel
theorem dX9_batch_66 : decode cX9_batch 66 = .ok (.aload_n 0, 1) := by decide +kernel
theorem dX9_batch_67 : decode cX9_batch 67 = .ok (.dup, 1) := by decide +kernel
theorem dX9_batch_68 : decode cX9_batch 68 = .ok (.getfield 41, 3) := by decide +kernel
theorem dX9_batch_71 : decode cX9_batch 71 = .ok (.iconst 1, 1) := by decide +kernel
theorem dX9_batch_72 : decode cX9_batch 72 = .ok (.iadd, 1) := by decide +kernel
theorem dX9_batch_73 : decode cX9_batch 73 = .ok (.putfield 41, 3) := by decide +kernel
theorem dX9_batch_76 : decode cX9_batch 76 = .ok (.aload_n 0, 1) := by decide +kernel
theorem dX9_batch_77 : decode cX9_batch 77 = .ok (.getfield 41, 3) := by decide +kernel
theorem dX9_batch_80 : decode cX9_batch 80 = .ok (.iconst 1, 1) := by decide +kernel
theorem dX9_batch_81 : decode cX9_batch 81 = .ok (.isub, 1) := by decide +kernel
theorem dX9_batch_82 : decode cX9_batch 82 = .ok (.ireturn, 1) := by decide +kernel
theorem dX9_began_0 : decode cX9_began 0 = .ok (.aload_n 0, 1) := by decide +kernel
theorem dX9_began_1 : decode cX9_began 1 = .ok (.getfield 48, 3) := by decide +kernel
theorem dX9_began_4 : decode cX9_began 4 = .ok (.ifCond .eq 23, 3) := by decide +kernel
theorem dX9_began_7 : decode cX9_began 7 = .ok (.aload_n 0, 1) := by decide +kernel
theorem dX9_began_8 : decode cX9_began 8 = .ok (.getfield 38, 3) := by decide +kernel
theorem dX9_began_11 : decode cX9_began 11 = .ok (.aload_n 0, 1) := by decide +kernel
theorem dX9_began_12 : decode cX9_began 12 = .ok (.getfield 52, 3) := by decide +kernel
theorem dX9_began_15 : decode cX9_began 15 = .ok (.iload_n 1, 1) := by decide +kernel
theorem dX9_began_16 : decode cX9_began 16 = .ok (.iastore, 1) := by decide +kernel
theorem dX9_began_17 : decode cX9_began 17 = .ok (.aload_n 0, 1) := by decide +kernel
theorem dX9_began_18 : decode cX9_began 18 = .ok (.dup, 1) := by decide +kernel
theorem dX9_began_19 : decode cX9_began 19 = .ok (.getfield 52, 3) := by decide +kernel
theorem dX9_began_22 : decode cX9_began 22 = .ok (.iconst 1, 1) := by decide +kernel
theorem dX9_began_23 : decode cX9_began 23 = .ok (.iadd, 1) := by decide +kernel
theorem dX9_began_24 : decode cX9_began 24 = .ok (.putfield 52, 3) := by decide +kernel
theorem dX9_began_27 : decode cX9_began 27 = .ok (.return_, 1) := by decide +kernel
theorem dX9_rise_0 : decode cX9_rise 0 = .ok (.aload_n 0, 1) := by decide +kernel
theorem dX9_rise_1 : decode cX9_rise 1 = .ok (.getfield 7, 3) := by decide +kernel
theorem dX9_rise_4 : decode cX9_rise 4 = .ok (.iload_n 1, 1) := by decide +kernel
theorem dX9_rise_5 : decode cX9_rise 5 = .ok (.iaload, 1) := by decide +kernel
theorem dX9_rise_6 : decode cX9_rise 6 = .ok (.istore_n 3, 1) := by decide +kernel
theorem dX9_rise_7 : decode cX9_rise 7 = .ok (.iload_n 3, 1) := by decide +kernel
theorem dX9_rise_8 : decode cX9_rise 8 = .ok (.iconst 4, 1) := by decide +kernel
theorem dX9_rise_9 : decode cX9_rise 9 = .ok (.if_icmp .ne 8, 3) := by decide +kernel
theorem dX9_rise_12 : decode cX9_rise 12 = .ok (.aload_n 0, 1) := by decide +kernel
theorem dX9_rise_13 : decode cX9_rise 13 = .ok (.iconst 3, 1) := by decide +kernel
theorem dX9_rise_14 : decode cX9_rise 14 = .ok (.invokevirtual 55, 3) := by decide +kernel
theorem dX9_rise_17 : decode cX9_rise 17 = .ok (.iload_n 3, 1) := by decide +kernel
theorem dX9_rise_18 : decode cX9_rise 18 = .ok (.iconst 2, 1) := by decide +kernel
theorem dX9_rise_19 : decode cX9_rise 19 = .ok (.iconst 4, 1) := by decide +kernel
theorem dX9_rise_20 : decode cX9_rise 20 = .ok (.invokestatic 44, 3) := by decide +kernel
theorem dX9_rise_23 : decode cX9_rise 23 = .ok (.ifCond .eq 8, 3) := by decide +kernel
theorem dX9_rise_26 : decode cX9_rise 26 = .ok (.aload_n 0, 1) := by decide +kernel
theorem dX9_rise_27 : decode cX9_rise 27 = .ok (.iconst 2, 1) := by decide +kernel
theorem dX9_rise_28 : decode cX9_rise 28 = .ok (.invokevirtual 55, 3) := by decide +kernel
theorem dX9_rise_31 : decode cX9_rise 31 = .ok (.iload_n 3, 1) := by decide +kernel
theorem dX9_rise_32 : decode cX9_rise 32 = .ok (.bipush 6, 2) := by decide +kernel
theorem dX9_rise_34 : decode cX9_rise 34 = .ok (.if_icmp .ne 8, 3) := by decide +kernel
theorem dX9_rise_37 : decode cX9_rise 37 = .ok (.aload_n 0, 1) := by decide +kernel
theorem dX9_rise_38 : decode cX9_rise 38 = .ok (.iconst 4, 1) := by decide +kernel
theorem dX9_rise_39 : decode cX9_rise 39 = .ok (.invokevirtual 55, 3) := by decide +kernel
theorem dX9_rise_42 : decode cX9_rise 42 = .ok (.aload_n 0, 1) := by decide +kernel
theorem dX9_rise_43 : decode cX9_rise 43 = .ok (.iconst 1, 1) := by decide +kernel
theorem dX9_rise_44 : decode cX9_rise 44 = .ok (.invokevirtual 55, 3) := by decide +kernel
theorem dX9_rise_47 : decode cX9_rise 47 = .ok (.iload_n 2, 1) := by decide +kernel
theorem dX9_rise_48 : decode cX9_rise 48 = .ok (.iconst 4, 1) := by decide +kernel
theorem dX9_rise_49 : decode cX9_rise 49 = .ok (.idiv, 1) := by decide +kernel
theorem dX9_rise_50 : decode cX9_rise 50 = .ok (.istore 4, 2) := by decide +kernel
theorem dX9_rise_52 : decode cX9_rise 52 = .ok (.iload_n 3, 1) := by decide +kernel
theorem dX9_rise_53 : decode cX9_rise 53 = .ok (.iconst 2, 1) := by decide +kernel
theorem dX9_rise_54 : decode cX9_rise 54 = .ok (.iconst 4, 1) := by decide +kernel
theorem dX9_rise_55 : decode cX9_rise 55 = .ok (.invokestatic 44, 3) := by decide +kernel
theorem dX9_rise_58 : decode cX9_rise 58 = .ok (.ifCond .eq 12, 3) := by decide +kernel
theorem dX9_rise_61 : decode cX9_rise 61 = .ok (.iload 4, 2) := by decide +kernel
theorem dX9_rise_63 : decode cX9_rise 63 = .ok (.iconst 2, 1) := by decide +kernel
theorem dX9_rise_64 : decode cX9_rise 64 = .ok (.idiv, 1) := by decide +kernel
theorem dX9_rise_65 : decode cX9_rise 65 = .ok (.iconst 1, 1) := by decide +kernel
theorem dX9_rise_66 : decode cX9_rise 66 = .ok (.iadd, 1) := by decide +kernel
theorem dX9_rise_67 : decode cX9_rise 67 = .ok (.goto 5, 3) := by decide +kernel
theorem dX9_rise_70 : decode cX9_rise 70 = .ok (.iload 4, 2) := by decide +kernel
theorem dX9_rise_72 : decode cX9_rise 72 = .ok (.istore 4, 2) := by decide +kernel
theorem dX9_rise_74 : decode cX9_rise 74 = .ok (.iload_n 3, 1) := by decide +kernel
theorem dX9_rise_75 : decode cX9_rise 75 = .ok (.iconst 4, 1) := by decide +kernel
theorem dX9_rise_76 : decode cX9_rise 76 = .ok (.if_icmp .ne 10, 3) := by decide +kernel
theorem dX9_rise_79 : decode cX9_rise 79 = .ok (.iload 4, 2) := by decide +kernel
theorem dX9_rise_81 : decode cX9_rise 81 = .ok (.iconst 1, 1) := by decide +kernel
theorem dX9_rise_82 : decode cX9_rise 82 = .ok (.isub, 1) := by decide +kernel
theorem dX9_rise_83 : decode cX9_rise 83 = .ok (.goto 21, 3) := by decide +kernel
theorem dX9_rise_86 : decode cX9_rise 86 = .ok (.iload_n 3, 1) := by decide +kernel
theorem dX9_rise_87 : decode cX9_rise 87 = .ok (.bipush 6, 2) := by decide +kernel
theorem dX9_rise_89 : decode cX9_rise 89 = .ok (.if_icmp .ne 13, 3) := by decide +kernel
theorem dX9_rise_92 : decode cX9_rise 92 = .ok (.iload 4, 2) := by decide +kernel
theorem dX9_rise_94 : decode cX9_rise 94 = .ok (.iload_n 2, 1) := by decide +kernel
theorem dX9_rise_95 : decode cX9_rise 95 = .ok (.bipush 10, 2) := by decide +kernel
theorem dX9_rise_97 : decode cX9_rise 97 = .ok (.idiv, 1) := by decide +kernel
theorem dX9_rise_98 : decode cX9_rise 98 = .ok (.iadd, 1) := by decide +kernel
theorem dX9_rise_99 : decode cX9_rise 99 = .ok (.goto 5, 3) := by decide +kernel
theorem dX9_rise_102 : decode cX9_rise 102 = .ok (.iload 4, 2) := by decide +kernel
theorem dX9_rise_104 : decode cX9_rise 104 = .ok (.ireturn, 1) := by decide +kernel
theorem dX9_need_0 : decode cX9_need 0 = .ok (.aload_n 0, 1) := by decide +kernel
theorem dX9_need_1 : decode cX9_need 1 = .ok (.getfield 7, 3) := by decide +kernel
theorem dX9_need_4 : decode cX9_need 4 = .ok (.iload_n 1, 1) := by decide +kernel
theorem dX9_need_5 : decode cX9_need 5 = .ok (.iaload, 1) := by decide +kernel
theorem dX9_need_6 : decode cX9_need 6 = .ok (.istore_n 2, 1) := by decide +kernel
theorem dX9_need_7 : decode cX9_need 7 = .ok (.iload_n 2, 1) := by decide +kernel
theorem dX9_need_8 : decode cX9_need 8 = .ok (.iconst 3, 1) := by decide +kernel
theorem dX9_need_9 : decode cX9_need 9 = .ok (.iconst 4, 1) := by decide +kernel
theorem dX9_need_10 : decode cX9_need 10 = .ok (.invokestatic 44, 3) := by decide +kernel
theorem dX9_need_13 : decode cX9_need 13 = .ok (.ifCond .eq 9, 3) := by decide +kernel
theorem dX9_need_16 : decode cX9_need 16 = .ok (.aload_n 0, 1) := by decide +kernel
theorem dX9_need_17 : decode cX9_need 17 = .ok (.bipush 13, 2) := by decide +kernel
theorem dX9_need_19 : decode cX9_need 19 = .ok (.invokevirtual 55, 3) := by decide +kernel
theorem dX9_need_22 : decode cX9_need 22 = .ok (.iload_n 2, 1) := by decide +kernel
theorem dX9_need_23 : decode cX9_need 23 = .ok (.iconst 1, 1) := by decide +kernel
theorem dX9_need_24 : decode cX9_need 24 = .ok (.iconst 4, 1) := by decide +kernel
theorem dX9_need_25 : decode cX9_need 25 = .ok (.invokestatic 44, 3) := by decide +kernel
theorem dX9_need_28 : decode cX9_need 28 = .ok (.ifCond .eq 9, 3) := by decide +kernel
theorem dX9_need_31 : decode cX9_need 31 = .ok (.aload_n 0, 1) := by decide +kernel
theorem dX9_need_32 : decode cX9_need 32 = .ok (.bipush 12, 2) := by decide +kernel
theorem dX9_need_34 : decode cX9_need 34 = .ok (.invokevirtual 55, 3) := by decide +kernel
theorem dX9_need_37 : decode cX9_need 37 = .ok (.aload_n 0, 1) := by decide +kernel
theorem dX9_need_38 : decode cX9_need 38 = .ok (.bipush 11, 2) := by decide +kernel
theorem dX9_need_40 : decode cX9_need 40 = .ok (.invokevirtual 55, 3) := by decide +kernel
theorem dX9_need_43 : decode cX9_need 43 = .ok (.bipush 100, 2) := by decide +kernel
theorem dX9_need_45 : decode cX9_need 45 = .ok (.aload_n 0, 1) := by decide +kernel
theorem dX9_need_46 : decode cX9_need 46 = .ok (.getfield 13, 3) := by decide +kernel
theorem dX9_need_49 : decode cX9_need 49 = .ok (.iload_n 1, 1) := by decide +kernel
theorem dX9_need_50 : decode cX9_need 50 = .ok (.iaload, 1) := by decide +kernel
theorem dX9_need_51 : decode cX9_need 51 = .ok (.bipush 10, 2) := by decide +kernel
theorem dX9_need_53 : decode cX9_need 53 = .ok (.idiv, 1) := by decide +kernel
theorem dX9_need_54 : decode cX9_need 54 = .ok (.iadd, 1) := by decide +kernel
theorem dX9_need_55 : decode cX9_need 55 = .ok (.iload_n 2, 1) := by decide +kernel
theorem dX9_need_56 : decode cX9_need 56 = .ok (.iconst 1, 1) := by decide +kernel
theorem dX9_need_57 : decode cX9_need 57 = .ok (.iconst 4, 1) := by decide +kernel
theorem dX9_need_58 : decode cX9_need 58 = .ok (.invokestatic 44, 3) := by decide +kernel
theorem dX9_need_61 : decode cX9_need 61 = .ok (.ifCond .eq 8, 3) := by decide +kernel
theorem dX9_need_64 : decode cX9_need 64 = .ok (.bipush 50, 2) := by decide +kernel
theorem dX9_need_66 : decode cX9_need 66 = .ok (.goto 4, 3) := by decide +kernel
theorem dX9_need_69 : decode cX9_need 69 = .ok (.iconst 0, 1) := by decide +kernel
theorem dX9_need_70 : decode cX9_need 70 = .ok (.iadd, 1) := by decide +kernel
theorem dX9_need_71 : decode cX9_need 71 = .ok (.istore_n 3, 1) := by decide +kernel
theorem dX9_need_72 : decode cX9_need 72 = .ok (.iload_n 2, 1) := by decide +kernel
theorem dX9_need_73 : decode cX9_need 73 = .ok (.iconst 3, 1) := by decide +kernel
theorem dX9_need_74 : decode cX9_need 74 = .ok (.iconst 4, 1) := by decide +kernel
theorem dX9_need_75 : decode cX9_need 75 = .ok (.invokestatic 44, 3) := by decide +kernel
theorem dX9_need_78 : decode cX9_need 78 = .ok (.ifCond .eq 15, 3) := by decide +kernel
theorem dX9_need_81 : decode cX9_need 81 = .ok (.iload_n 3, 1) := by decide +kernel
theorem dX9_need_82 : decode cX9_need 82 = .ok (.aload_n 0, 1) := by decide +kernel
theorem dX9_need_83 : decode cX9_need 83 = .ok (.iload_n 1, 1) := by decide +kernel
theorem dX9_need_84 : decode cX9_need 84 = .ok (.bipush 20, 2) := by decide +kernel
theorem dX9_need_86 : decode cX9_need 86 = .ok (.invokevirtual 59, 3) := by decide +kernel
theorem dX9_need_89 : decode cX9_need 89 = .ok (.iadd, 1) := by decide +kernel
theorem dX9_need_90 : decode cX9_need 90 = .ok (.goto 4, 3) := by decide +kernel
theorem dX9_need_93 : decode cX9_need 93 = .ok (.iload_n 3, 1) := by decide +kernel
theorem dX9_need_94 : decode cX9_need 94 = .ok (.ireturn, 1) := by decide +kernel
theorem dX9_brown_0 : decode cX9_brown 0 = .ok (.aload_n 0, 1) := by decide +kernel
theorem dX9_brown_1 : decode cX9_brown 1 = .ok (.getfield 7, 3) := by decide +kernel
theorem dX9_brown_4 : decode cX9_brown 4 = .ok (.iload_n 1, 1) := by decide +kernel
theorem dX9_brown_5 : decode cX9_brown 5 = .ok (.iaload, 1) := by decide +kernel
theorem dX9_brown_6 : decode cX9_brown 6 = .ok (.istore_n 3, 1) := by decide +kernel
theorem dX9_brown_7 : decode cX9_brown 7 = .ok (.iload_n 3, 1) := by decide +kernel
theorem dX9_brown_8 : decode cX9_brown 8 = .ok (.iconst 4, 1) := by decide +kernel
theorem dX9_brown_9 : decode cX9_brown 9 = .ok (.if_icmp .ne 9, 3) := by decide +kernel
theorem dX9_brown_12 : decode cX9_brown 12 = .ok (.aload_n 0, 1) := by decide +kernel
theorem dX9_brown_13 : decode cX9_brown 13 = .ok (.bipush 22, 2) := by decide +kernel
theorem dX9_brown_15 : decode cX9_brown 15 = .ok (.invokevirtual 55, 3) := by decide +kernel
theorem dX9_brown_18 : decode cX9_brown 18 = .ok (.iload_n 3, 1) := by decide +kernel
theorem dX9_brown_19 : decode cX9_brown 19 = .ok (.iconst 4, 1) := by decide +kernel
theorem dX9_brown_20 : decode cX9_brown 20 = .ok (.if_icmp .le 9, 3) := by decide +kernel
theorem dX9_brown_23 : decode cX9_brown 23 = .ok (.aload_n 0, 1) := by decide +kernel
theorem dX9_brown_24 : decode cX9_brown 24 = .ok (.bipush 23, 2) := by decide +kernel
theorem dX9_brown_26 : decode cX9_brown 26 = .ok (.invokevirtual 55, 3) := by decide +kernel
theorem dX9_brown_29 : decode cX9_brown 29 = .ok (.aload_n 0, 1) := by decide +kernel
theorem dX9_brown_30 : decode cX9_brown 30 = .ok (.bipush 21, 2) := by decide +kernel
theorem dX9_brown_32 : decode cX9_brown 32 = .ok (.invokevirtual 55, 3) := by decide +kernel
theorem dX9_brown_35 : decode cX9_brown 35 = .ok (.iload_n 2, 1) := by decide +kernel
theorem dX9_brown_36 : decode cX9_brown 36 = .ok (.bipush 50, 2) := by decide +kernel
theorem dX9_brown_38 : decode cX9_brown 38 = .ok (.idiv, 1) := by decide +kernel
theorem dX9_brown_39 : decode cX9_brown 39 = .ok (.istore 4, 2) := by decide +kernel
theorem dX9_brown_41 : decode cX9_brown 41 = .ok (.iload_n 3, 1) := by decide +kernel
theorem dX9_brown_42 : decode cX9_brown 42 = .ok (.iconst 4, 1) := by decide +kernel
theorem dX9_brown_43 : decode cX9_brown 43 = .ok (.if_icmp .ne 12, 3) := by decide +kernel
theorem dX9_brown_46 : decode cX9_brown 46 = .ok (.iload 4, 2) := by decide +kernel
theorem dX9_brown_48 : decode cX9_brown 48 = .ok (.iconst 2, 1) := by decide +kernel
theorem dX9_brown_49 : decode cX9_brown 49 = .ok (.iadd, 1) := by decide +kernel
theorem dX9_brown_50 : decode cX9_brown 50 = .ok (.iconst 3, 1) := by decide +kernel
theorem dX9_brown_51 : decode cX9_brown 51 = .ok (.idiv, 1) := by decide +kernel
theorem dX9_brown_52 : decode cX9_brown 52 = .ok (.goto 17, 3) := by decide +kernel
theorem dX9_brown_55 : decode cX9_brown 55 = .ok (.iload_n 3, 1) := by decide +kernel
theorem dX9_brown_56 : decode cX9_brown 56 = .ok (.iconst 4, 1) := by decide +kernel
theorem dX9_brown_57 : decode cX9_brown 57 = .ok (.if_icmp .le 10, 3) := by decide +kernel
theorem dX9_brown_60 : decode cX9_brown 60 = .ok (.iload 4, 2) := by decide +kernel
theorem dX9_brown_62 : decode cX9_brown 62 = .ok (.iconst 1, 1) := by decide +kernel
theorem dX9_brown_63 : decode cX9_brown 63 = .ok (.iadd, 1) := by decide +kernel
theorem dX9_brown_64 : decode cX9_brown 64 = .ok (.goto 5, 3) := by decide +kernel
theorem dX9_brown_67 : decode cX9_brown 67 = .ok (.iload 4, 2) := by decide +kernel
theorem dX9_brown_69 : decode cX9_brown 69 = .ok (.ireturn, 1) := by decide +kernel
theorem dX9_price_0 : decode cX9_price 0 = .ok (.aload_n 0, 1) := by decide +kernel
theorem dX9_price_1 : decode cX9_price 1 = .ok (.getfield 7, 3) := by decide +kernel
theorem dX9_price_4 : decode cX9_price 4 = .ok (.iload_n 1, 1) := by decide +kernel
theorem dX9_price_5 : decode cX9_price 5 = .ok (.iaload, 1) := by decide +kernel
theorem dX9_price_6 : decode cX9_price 6 = .ok (.istore_n 2, 1) := by decide +kernel
theorem dX9_price_7 : decode cX9_price 7 = .ok (.iload_n 2, 1) := by decide +kernel
theorem dX9_price_8 : decode cX9_price 8 = .ok (.iconst 4, 1) := by decide +kernel
theorem dX9_price_9 : decode cX9_price 9 = .ok (.if_icmp .ne 9, 3) := by decide +kernel
theorem dX9_price_12 : decode cX9_price 12 = .ok (.aload_n 0, 1) := by decide +kernel
theorem dX9_price_13 : decode cX9_price 13 = .ok (.bipush 33, 2) := by decide +kernel
theorem dX9_price_15 : decode cX9_price 15 = .ok (.invokevirtual 55, 3) := by decide +kernel
theorem dX9_price_18 : decode cX9_price 18 = .ok (.iload_n 2, 1) := by decide +kernel
theorem dX9_price_19 : decode cX9_price 19 = .ok (.iconst 3, 1) := by decide +kernel
theorem dX9_price_20 : decode cX9_price 20 = .ok (.iconst 4, 1) := by decide +kernel
theorem dX9_price_21 : decode cX9_price 21 = .ok (.invokestatic 44, 3) := by decide +kernel
theorem dX9_price_24 : decode cX9_price 24 = .ok (.ifCond .eq 9, 3) := by decide +kernel
theorem dX9_price_27 : decode cX9_price 27 = .ok (.aload_n 0, 1) := by decide +kernel
theorem dX9_price_28 : decode cX9_price 28 = .ok (.bipush 32, 2) := by decide +kernel
theorem dX9_price_30 : decode cX9_price 30 = .ok (.invokevirtual 55, 3) := by decide +kernel
theorem dX9_price_33 : decode cX9_price 33 = .ok (.iload_n 2, 1) := by decide +kernel
theorem dX9_price_34 : decode cX9_price 34 = .ok (.bipush 6, 2) := by decide +kernel
theorem dX9_price_36 : decode cX9_price 36 = .ok (.if_icmp .ne 9, 3) := by decide +kernel
theorem dX9_price_39 : decode cX9_price 39 = .ok (.aload_n 0, 1) := by decide +kernel
theorem dX9_price_40 : decode cX9_price 40 = .ok (.bipush 34, 2) := by decide +kernel
theorem dX9_price_42 : decode cX9_price 42 = .ok (.invokevirtual 55, 3) := by decide +kernel
theorem dX9_price_45 : decode cX9_price 45 = .ok (.aload_n 0, 1) := by decide +kernel
theorem dX9_price_46 : decode cX9_price 46 = .ok (.bipush 31, 2) := by decide +kernel
theorem dX9_price_48 : decode cX9_price 48 = .ok (.invokevirtual 55, 3) := by decide +kernel
theorem dX9_price_51 : decode cX9_price 51 = .ok (.bipush 10, 2) := by decide +kernel
theorem dX9_price_53 : decode cX9_price 53 = .ok (.aload_n 0, 1) := by decide +kernel
theorem dX9_price_54 : decode cX9_price 54 = .ok (.getfield 13, 3) := by decide +kernel
theorem dX9_price_57 : decode cX9_price 57 = .ok (.iload_n 1, 1) := by decide +kernel
theorem dX9_price_58 : decode cX9_price 58 = .ok (.iaload, 1) := by decide +kernel
theorem dX9_price_59 : decode cX9_price 59 = .ok (.iconst 5, 1) := by decide +kernel
theorem dX9_price_60 : decode cX9_price 60 = .ok (.idiv, 1) := by decide +kernel
theorem dX9_price_61 : decode cX9_price 61 = .ok (.iadd, 1) := by decide +kernel
theorem dX9_price_62 : decode cX9_price 62 = .ok (.iload_n 2, 1) := by decide +kernel
theorem dX9_price_63 : decode cX9_price 63 = .ok (.iconst 3, 1) := by decide +kernel
theorem dX9_price_64 : decode cX9_price 64 = .ok (.iconst 4, 1) := by decide +kernel
theorem dX9_price_65 : decode cX9_price 65 = .ok (.invokestatic 44, 3) := by decide +kernel
theorem dX9_price_68 : decode cX9_price 68 = .ok (.ifCond .eq 8, 3) := by decide +kernel
theorem dX9_price_71 : decode cX9_price 71 = .ok (.bipush 40, 2) := by decide +kernel
theorem dX9_price_73 : decode cX9_price 73 = .ok (.goto 4, 3) := by decide +kernel
theorem dX9_price_76 : decode cX9_price 76 = .ok (.iconst 0, 1) := by decide +kernel
theorem dX9_price_77 : decode cX9_price 77 = .ok (.iadd, 1) := by decide +kernel
theorem dX9_price_78 : decode cX9_price 78 = .ok (.istore_n 3, 1) := by decide +kernel
theorem dX9_price_79 : decode cX9_price 79 = .ok (.iload_n 2, 1) := by decide +kernel
theorem dX9_price_80 : decode cX9_price 80 = .ok (.iconst 4, 1) := by decide +kernel
theorem dX9_price_81 : decode cX9_price 81 = .ok (.if_icmp .ne 13, 3) := by decide +kernel
theorem dX9_price_84 : decode cX9_price 84 = .ok (.iload_n 3, 1) := by decide +kernel
theorem dX9_price_85 : decode cX9_price 85 = .ok (.aload_n 0, 1) := by decide +kernel
theorem dX9_price_86 : decode cX9_price 86 = .ok (.iload_n 1, 1) := by decide +kernel
theorem dX9_price_87 : decode cX9_price 87 = .ok (.invokevirtual 63, 3) := by decide +kernel
theorem dX9_price_90 : decode cX9_price 90 = .ok (.iadd, 1) := by decide +kernel
theorem dX9_price_91 : decode cX9_price 91 = .ok (.goto 16, 3) := by decide +kernel
theorem dX9_price_94 : decode cX9_price 94 = .ok (.iload_n 2, 1) := by decide +kernel
theorem dX9_price_95 : decode cX9_price 95 = .ok (.bipush 6, 2) := by decide +kernel
theorem dX9_price_97 : decode cX9_price 97 = .ok (.if_icmp .ne 9, 3) := by decide +kernel
theorem dX9_price_100 : decode cX9_price 100 = .ok (.iconst 2, 1) := by decide +kernel
theorem dX9_price_101 : decode cX9_price 101 = .ok (.iload_n 3, 1) := by decide +kernel
theorem dX9_price_102 : decode cX9_price 102 = .ok (.imul, 1) := by decide +kernel
theorem dX9_price_103 : decode cX9_price 103 = .ok (.goto 4, 3) := by decide +kernel
theorem dX9_price_106 : decode cX9_price 106 = .ok (.iload_n 3, 1) := by decide +kernel
theorem dX9_price_107 : decode cX9_price 107 = .ok (.ireturn, 1) := by decide +kernel
theorem dX9_isKeeping_0 : decode cX9_isKeeping 0 = .ok (.iload_n 0, 1) := by decide +kernel
theorem dX9_isKeeping_1 : decode cX9_isKeeping 1 = .ok (.iconst 2, 1) := by decide +kernel
theorem dX9_isKeeping_2 : decode cX9_isKeeping 2 = .ok (.iconst 4, 1) := by decide +kernel
theorem dX9_isKeeping_3 : decode cX9_isKeeping 3 = .ok (.invokestatic 44, 3) := by decide +kernel
theorem dX9_isKeeping_6 : decode cX9_isKeeping 6 = .ok (.ireturn, 1) := by decide +kernel
theorem dX9_isGlazed_0 : decode cX9_isGlazed 0 = .ok (.iload_n 0, 1) := by decide +kernel
theorem dX9_isGlazed_1 : decode cX9_isGlazed 1 = .ok (.iconst 4, 1) := by decide +kernel
theorem dX9_isGlazed_2 : decode cX9_isGlazed 2 = .ok (.if_icmp .le 7, 3) := by decide +kernel
theorem dX9_isGlazed_5 : decode cX9_isGlazed 5 = .ok (.iconst 1, 1) := by decide +kernel
theorem dX9_isGlazed_6 : decode cX9_isGlazed 6 = .ok (.goto 4, 3) := by decide +kernel
theorem dX9_isGlazed_9 : decode cX9_isGlazed 9 = .ok (.iconst 0, 1) := by decide +kernel
theorem dX9_isGlazed_10 : decode cX9_isGlazed 10 = .ok (.ireturn, 1) := by decide +kernel
theorem dX9_keeps_0 : decode cX9_keeps 0 = .ok (.aload_n 0, 1) := by decide +kernel
theorem dX9_keeps_1 : decode cX9_keeps 1 = .ok (.getfield 7, 3) := by decide +kernel
theorem dX9_keeps_4 : decode cX9_keeps 4 = .ok (.iload_n 1, 1) := by decide +kernel
theorem dX9_keeps_5 : decode cX9_keeps 5 = .ok (.iaload, 1) := by decide +kernel
theorem dX9_keeps_6 : decode cX9_keeps 6 = .ok (.iconst 4, 1) := by decide +kernel
theorem dX9_keeps_7 : decode cX9_keeps 7 = .ok (.if_icmp .ne 20, 3) := by decide +kernel
theorem dX9_keeps_10 : decode cX9_keeps 10 = .ok (.aload_n 0, 1) := by decide +kernel
theorem dX9_keeps_11 : decode cX9_keeps 11 = .ok (.bipush 42, 2) := by decide +kernel
theorem dX9_keeps_13 : decode cX9_keeps 13 = .ok (.invokevirtual 55, 3) := by decide +kernel
theorem dX9_keeps_16 : decode cX9_keeps 16 = .ok (.aload_n 0, 1) := by decide +kernel
theorem dX9_keeps_17 : decode cX9_keeps 17 = .ok (.iload_n 1, 1) := by decide +kernel
theorem dX9_keeps_18 : decode cX9_keeps 18 = .ok (.invokevirtual 67, 3) := by decide +kernel
theorem dX9_keeps_21 : decode cX9_keeps 21 = .ok (.bipush 50, 2) := by decide +kernel
theorem dX9_keeps_23 : decode cX9_keeps 23 = .ok (.idiv, 1) := by decide +kernel
theorem dX9_keeps_24 : decode cX9_keeps 24 = .ok (.iconst 2, 1) := by decide +kernel
theorem dX9_keeps_25 : decode cX9_keeps 25 = .ok (.iadd, 1) := by decide +kernel
theorem dX9_keeps_26 : decode cX9_keeps 26 = .ok (.ireturn, 1) := by decide +kernel
theorem dX9_keeps_27 : decode cX9_keeps 27 = .ok (.aload_n 0, 1) := by decide +kernel
theorem dX9_keeps_28 : decode cX9_keeps 28 = .ok (.bipush 41, 2) := by decide +kernel
theorem dX9_keeps_30 : decode cX9_keeps 30 = .ok (.invokevirtual 55, 3) := by decide +kernel
theorem dX9_keeps_33 : decode cX9_keeps 33 = .ok (.iconst 1, 1) := by decide +kernel
theorem dX9_keeps_34 : decode cX9_keeps 34 = .ok (.aload_n 0, 1) := by decide +kernel
theorem dX9_keeps_35 : decode cX9_keeps 35 = .ok (.iload_n 1, 1) := by decide +kernel
theorem dX9_keeps_36 : decode cX9_keeps 36 = .ok (.invokevirtual 63, 3) := by decide +kernel
theorem dX9_keeps_39 : decode cX9_keeps 39 = .ok (.bipush 100, 2) := by decide +kernel
theorem dX9_keeps_41 : decode cX9_keeps 41 = .ok (.idiv, 1) := by decide +kernel
theorem dX9_keeps_42 : decode cX9_keeps 42 = .ok (.iadd, 1) := by decide +kernel
theorem dX9_keeps_43 : decode cX9_keeps 43 = .ok (.ireturn, 1) := by decide +kernel
theorem dX9_glaze_0 : decode cX9_glaze 0 = .ok (.aload_n 0, 1) := by decide +kernel
theorem dX9_glaze_1 : decode cX9_glaze 1 = .ok (.getfield 7, 3) := by decide +kernel
theorem dX9_glaze_4 : decode cX9_glaze 4 = .ok (.iload_n 1, 1) := by decide +kernel
theorem dX9_glaze_5 : decode cX9_glaze 5 = .ok (.iaload, 1) := by decide +kernel
theorem dX9_glaze_6 : decode cX9_glaze 6 = .ok (.bipush 6, 2) := by decide +kernel
theorem dX9_glaze_8 : decode cX9_glaze 8 = .ok (.if_icmp .ne 21, 3) := by decide +kernel
theorem dX9_glaze_11 : decode cX9_glaze 11 = .ok (.aload_n 0, 1) := by decide +kernel
theorem dX9_glaze_12 : decode cX9_glaze 12 = .ok (.bipush 52, 2) := by decide +kernel
theorem dX9_glaze_14 : decode cX9_glaze 14 = .ok (.invokevirtual 55, 3) := by decide +kernel
theorem dX9_glaze_17 : decode cX9_glaze 17 = .ok (.aload_n 0, 1) := by decide +kernel
theorem dX9_glaze_18 : decode cX9_glaze 18 = .ok (.iload_n 1, 1) := by decide +kernel
theorem dX9_glaze_19 : decode cX9_glaze 19 = .ok (.sipush 200, 3) := by decide +kernel
theorem dX9_glaze_22 : decode cX9_glaze 22 = .ok (.invokevirtual 70, 3) := by decide +kernel
theorem dX9_glaze_25 : decode cX9_glaze 25 = .ok (.bipush 20, 2) := by decide +kernel
theorem dX9_glaze_27 : decode cX9_glaze 27 = .ok (.iadd, 1) := by decide +kernel
theorem dX9_glaze_28 : decode cX9_glaze 28 = .ok (.ireturn, 1) := by decide +kernel
theorem dX9_glaze_29 : decode cX9_glaze 29 = .ok (.aload_n 0, 1) := by decide +kernel
theorem dX9_glaze_30 : decode cX9_glaze 30 = .ok (.bipush 51, 2) := by decide +kernel
theorem dX9_glaze_32 : decode cX9_glaze 32 = .ok (.invokevirtual 55, 3) := by decide +kernel
theorem dX9_glaze_35 : decode cX9_glaze 35 = .ok (.aload_n 0, 1) := by decide +kernel
theorem dX9_glaze_36 : decode cX9_glaze 36 = .ok (.iload_n 1, 1) := by decide +kernel
theorem dX9_glaze_37 : decode cX9_glaze 37 = .ok (.invokevirtual 67, 3) := by decide +kernel
theorem dX9_glaze_40 : decode cX9_glaze 40 = .ok (.bipush 10, 2) := by decide +kernel
theorem dX9_glaze_42 : decode cX9_glaze 42 = .ok (.idiv, 1) := by decide +kernel
theorem dX9_glaze_43 : decode cX9_glaze 43 = .ok (.iconst 5, 1) := by decide +kernel
theorem dX9_glaze_44 : decode cX9_glaze 44 = .ok (.iadd, 1) := by decide +kernel
theorem dX9_glaze_45 : decode cX9_glaze 45 = .ok (.ireturn, 1) := by decide +kernel
theorem dX9_answer_0 : decode cX9_answer 0 = .ok (.iload_n 2, 1) := by decide +kernel
theorem dX9_answer_1 : decode cX9_answer 1 = .ok (.tableswitch 84 0 4 #[35, 42, 48, 55, 61], 35) := by decide +kernel
theorem dX9_answer_36 : decode cX9_answer 36 = .ok (.aload_n 0, 1) := by decide +kernel
theorem dX9_answer_37 : decode cX9_answer 37 = .ok (.iload_n 1, 1) := by decide +kernel
theorem dX9_answer_38 : decode cX9_answer 38 = .ok (.iload_n 3, 1) := by decide +kernel
theorem dX9_answer_39 : decode cX9_answer 39 = .ok (.invokevirtual 59, 3) := by decide +kernel
theorem dX9_answer_42 : decode cX9_answer 42 = .ok (.ireturn, 1) := by decide +kernel
theorem dX9_answer_43 : decode cX9_answer 43 = .ok (.aload_n 0, 1) := by decide +kernel
theorem dX9_answer_44 : decode cX9_answer 44 = .ok (.iload_n 1, 1) := by decide +kernel
theorem dX9_answer_45 : decode cX9_answer 45 = .ok (.invokevirtual 63, 3) := by decide +kernel
theorem dX9_answer_48 : decode cX9_answer 48 = .ok (.ireturn, 1) := by decide +kernel
theorem dX9_answer_49 : decode cX9_answer 49 = .ok (.aload_n 0, 1) := by decide +kernel
theorem dX9_answer_50 : decode cX9_answer 50 = .ok (.iload_n 1, 1) := by decide +kernel
theorem dX9_answer_51 : decode cX9_answer 51 = .ok (.iload_n 3, 1) := by decide +kernel
theorem dX9_answer_52 : decode cX9_answer 52 = .ok (.invokevirtual 70, 3) := by decide +kernel
theorem dX9_answer_55 : decode cX9_answer 55 = .ok (.ireturn, 1) := by decide +kernel
theorem dX9_answer_56 : decode cX9_answer 56 = .ok (.aload_n 0, 1) := by decide +kernel
theorem dX9_answer_57 : decode cX9_answer 57 = .ok (.iload_n 1, 1) := by decide +kernel
theorem dX9_answer_58 : decode cX9_answer 58 = .ok (.invokevirtual 67, 3) := by decide +kernel
theorem dX9_answer_61 : decode cX9_answer 61 = .ok (.ireturn, 1) := by decide +kernel
theorem dX9_answer_62 : decode cX9_answer 62 = .ok (.aload_n 0, 1) := by decide +kernel
theorem dX9_answer_63 : decode cX9_answer 63 = .ok (.getfield 7, 3) := by decide +kernel
theorem dX9_answer_66 : decode cX9_answer 66 = .ok (.iload_n 1, 1) := by decide +kernel
theorem dX9_answer_67 : decode cX9_answer 67 = .ok (.iaload, 1) := by decide +kernel
theorem dX9_answer_68 : decode cX9_answer 68 = .ok (.invokestatic 73, 3) := by decide +kernel
theorem dX9_answer_71 : decode cX9_answer 71 = .ok (.ifCond .eq 11, 3) := by decide +kernel
theorem dX9_answer_74 : decode cX9_answer 74 = .ok (.aload_n 0, 1) := by decide +kernel
theorem dX9_answer_75 : decode cX9_answer 75 = .ok (.iload_n 1, 1) := by decide +kernel
theorem dX9_answer_76 : decode cX9_answer 76 = .ok (.invokevirtual 77, 3) := by decide +kernel
theorem dX9_answer_79 : decode cX9_answer 79 = .ok (.goto 5, 3) := by decide +kernel
theorem dX9_answer_82 : decode cX9_answer 82 = .ok (.bipush (-3), 2) := by decide +kernel
theorem dX9_answer_84 : decode cX9_answer 84 = .ok (.ireturn, 1) := by decide +kernel
theorem dX9_answer_85 : decode cX9_answer 85 = .ok (.aload_n 0, 1) := by decide +kernel
theorem dX9_answer_86 : decode cX9_answer 86 = .ok (.getfield 7, 3) := by decide +kernel
theorem dX9_answer_89 : decode cX9_answer 89 = .ok (.iload_n 1, 1) := by decide +kernel
theorem dX9_answer_90 : decode cX9_answer 90 = .ok (.iaload, 1) := by decide +kernel
theorem dX9_answer_91 : decode cX9_answer 91 = .ok (.invokestatic 80, 3) := by decide +kernel
theorem dX9_answer_94 : decode cX9_answer 94 = .ok (.ifCond .eq 11, 3) := by decide +kernel
theorem dX9_answer_97 : decode cX9_answer 97 = .ok (.aload_n 0, 1) := by decide +kernel
theorem dX9_answer_98 : decode cX9_answer 98 = .ok (.iload_n 1, 1) := by decide +kernel
theorem dX9_answer_99 : decode cX9_answer 99 = .ok (.invokevirtual 83, 3) := by decide +kernel
theorem dX9_answer_102 : decode cX9_answer 102 = .ok (.goto 5, 3) := by decide +kernel
theorem dX9_answer_105 : decode cX9_answer 105 = .ok (.bipush (-3), 2) := by decide +kernel
theorem dX9_answer_107 : decode cX9_answer 107 = .ok (.ireturn, 1) := by decide +kernel
theorem dX9_ask_0 : decode cX9_ask 0 = .ok (.aload_n 0, 1) := by decide +kernel
theorem dX9_ask_1 : decode cX9_ask 1 = .ok (.iload_n 1, 1) := by decide +kernel
theorem dX9_ask_2 : decode cX9_ask 2 = .ok (.invokevirtual 86, 3) := by decide +kernel
theorem dX9_ask_5 : decode cX9_ask 5 = .ok (.ifCond .eq 42, 3) := by decide +kernel
theorem dX9_ask_8 : decode cX9_ask 8 = .ok (.iload_n 2, 1) := by decide +kernel
theorem dX9_ask_9 : decode cX9_ask 9 = .ok (.iconst 0, 1) := by decide +kernel
theorem dX9_ask_10 : decode cX9_ask 10 = .ok (.iconst 5, 1) := by decide +kernel
theorem dX9_ask_11 : decode cX9_ask 11 = .ok (.invokestatic 44, 3) := by decide +kernel
theorem dX9_ask_14 : decode cX9_ask 14 = .ok (.ifCond .eq 33, 3) := by decide +kernel
theorem dX9_ask_17 : decode cX9_ask 17 = .ok (.iload_n 2, 1) := by decide +kernel
theorem dX9_ask_18 : decode cX9_ask 18 = .ok (.ifCond .ne 13, 3) := by decide +kernel
theorem dX9_ask_21 : decode cX9_ask 21 = .ok (.iload_n 3, 1) := by decide +kernel
theorem dX9_ask_22 : decode cX9_ask 22 = .ok (.iconst 0, 1) := by decide +kernel
theorem dX9_ask_23 : decode cX9_ask 23 = .ok (.bipush 60, 2) := by decide +kernel
theorem dX9_ask_25 : decode cX9_ask 25 = .ok (.invokestatic 44, 3) := by decide +kernel
theorem dX9_ask_28 : decode cX9_ask 28 = .ok (.ifCond .eq 19, 3) := by decide +kernel
theorem dX9_ask_31 : decode cX9_ask 31 = .ok (.iload_n 2, 1) := by decide +kernel
theorem dX9_ask_32 : decode cX9_ask 32 = .ok (.iconst 2, 1) := by decide +kernel
theorem dX9_ask_33 : decode cX9_ask 33 = .ok (.if_icmp .ne 17, 3) := by decide +kernel
theorem dX9_ask_36 : decode cX9_ask 36 = .ok (.iload_n 3, 1) := by decide +kernel
theorem dX9_ask_37 : decode cX9_ask 37 = .ok (.iconst 0, 1) := by decide +kernel
theorem dX9_ask_38 : decode cX9_ask 38 = .ok (.sipush 400, 3) := by decide +kernel
theorem dX9_ask_41 : decode cX9_ask 41 = .ok (.invokestatic 44, 3) := by decide +kernel
theorem dX9_ask_44 : decode cX9_ask 44 = .ok (.ifCond .ne 6, 3) := by decide +kernel
theorem dX9_ask_47 : decode cX9_ask 47 = .ok (.bipush (-2), 2) := by decide +kernel
theorem dX9_ask_49 : decode cX9_ask 49 = .ok (.ireturn, 1) := by decide +kernel
theorem dX9_ask_50 : decode cX9_ask 50 = .ok (.aload_n 0, 1) := by decide +kernel
theorem dX9_ask_51 : decode cX9_ask 51 = .ok (.iconst 0, 1) := by decide +kernel
theorem dX9_ask_52 : decode cX9_ask 52 = .ok (.putfield 52, 3) := by decide +kernel
theorem dX9_ask_55 : decode cX9_ask 55 = .ok (.aload_n 0, 1) := by decide +kernel
theorem dX9_ask_56 : decode cX9_ask 56 = .ok (.iconst 1, 1) := by decide +kernel
theorem dX9_ask_57 : decode cX9_ask 57 = .ok (.putfield 48, 3) := by decide +kernel
theorem dX9_ask_60 : decode cX9_ask 60 = .ok (.aload_n 0, 1) := by decide +kernel
theorem dX9_ask_61 : decode cX9_ask 61 = .ok (.iload_n 1, 1) := by decide +kernel
theorem dX9_ask_62 : decode cX9_ask 62 = .ok (.iload_n 2, 1) := by decide +kernel
theorem dX9_ask_63 : decode cX9_ask 63 = .ok (.iload_n 3, 1) := by decide +kernel
theorem dX9_ask_64 : decode cX9_ask 64 = .ok (.invokevirtual 89, 3) := by decide +kernel
theorem dX9_ask_67 : decode cX9_ask 67 = .ok (.istore 4, 2) := by decide +kernel
theorem dX9_ask_69 : decode cX9_ask 69 = .ok (.aload_n 0, 1) := by decide +kernel
theorem dX9_ask_70 : decode cX9_ask 70 = .ok (.iconst 0, 1) := by decide +kernel
theorem dX9_ask_71 : decode cX9_ask 71 = .ok (.putfield 48, 3) := by decide +kernel
theorem dX9_ask_74 : decode cX9_ask 74 = .ok (.iload 4, 2) := by decide +kernel
theorem dX9_ask_76 : decode cX9_ask 76 = .ok (.ireturn, 1) := by decide +kernel
theorem dX9_trace_0 : decode cX9_trace 0 = .ok (.iload_n 1, 1) := by decide +kernel
theorem dX9_trace_1 : decode cX9_trace 1 = .ok (.iconst 0, 1) := by decide +kernel
theorem dX9_trace_2 : decode cX9_trace 2 = .ok (.aload_n 0, 1) := by decide +kernel
theorem dX9_trace_3 : decode cX9_trace 3 = .ok (.getfield 52, 3) := by decide +kernel
theorem dX9_trace_6 : decode cX9_trace 6 = .ok (.iconst 1, 1) := by decide +kernel
theorem dX9_trace_7 : decode cX9_trace 7 = .ok (.isub, 1) := by decide +kernel
theorem dX9_trace_8 : decode cX9_trace 8 = .ok (.invokestatic 44, 3) := by decide +kernel
theorem dX9_trace_11 : decode cX9_trace 11 = .ok (.ifCond .eq 12, 3) := by decide +kernel
theorem dX9_trace_14 : decode cX9_trace 14 = .ok (.aload_n 0, 1) := by decide +kernel
theorem dX9_trace_15 : decode cX9_trace 15 = .ok (.getfield 38, 3) := by decide +kernel
theorem dX9_trace_18 : decode cX9_trace 18 = .ok (.iload_n 1, 1) := by decide +kernel
theorem dX9_trace_19 : decode cX9_trace 19 = .ok (.iaload, 1) := by decide +kernel
theorem dX9_trace_20 : decode cX9_trace 20 = .ok (.goto 4, 3) := by decide +kernel
theorem dX9_trace_23 : decode cX9_trace 23 = .ok (.iconst (-1), 1) := by decide +kernel
theorem dX9_trace_24 : decode cX9_trace 24 = .ok (.ireturn, 1) := by decide +kernel
theorem dX9_room_0 : decode cX9_room 0 = .ok (.iload_n 1, 1) := by decide +kernel
theorem dX9_room_1 : decode cX9_room 1 = .ok (.iconst 0, 1) := by decide +kernel
theorem dX9_room_2 : decode cX9_room 2 = .ok (.bipush 60, 2) := by decide +kernel
theorem dX9_room_4 : decode cX9_room 4 = .ok (.invokestatic 44, 3) := by decide +kernel
theorem dX9_room_7 : decode cX9_room 7 = .ok (.ifCond .ne 6, 3) := by decide +kernel
theorem dX9_room_10 : decode cX9_room 10 = .ok (.bipush (-2), 2) := by decide +kernel
theorem dX9_room_12 : decode cX9_room 12 = .ok (.ireturn, 1) := by decide +kernel
theorem dX9_room_13 : decode cX9_room 13 = .ok (.aload_n 0, 1) := by decide +kernel
theorem dX9_room_14 : decode cX9_room 14 = .ok (.getfield 31, 3) := by decide +kernel
theorem dX9_room_17 : decode cX9_room 17 = .ok (.istore_n 2, 1) := by decide +kernel
theorem dX9_room_18 : decode cX9_room 18 = .ok (.aload_n 0, 1) := by decide +kernel
theorem dX9_room_19 : decode cX9_room 19 = .ok (.iload_n 1, 1) := by decide +kernel
theorem dX9_room_20 : decode cX9_room 20 = .ok (.putfield 31, 3) := by decide +kernel
theorem dX9_room_23 : decode cX9_room 23 = .ok (.iload_n 2, 1) := by decide +kernel
theorem dX9_room_24 : decode cX9_room 24 = .ok (.ireturn, 1) := by decide +kernel
theorem dX9_heat_0 : decode cX9_heat 0 = .ok (.iload_n 1, 1) := by decide +kernel
theorem dX9_heat_1 : decode cX9_heat 1 = .ok (.iconst 0, 1) := by decide +kernel
theorem dX9_heat_2 : decode cX9_heat 2 = .ok (.iconst 2, 1) := by decide +kernel
theorem dX9_heat_3 : decode cX9_heat 3 = .ok (.invokestatic 44, 3) := by decide +kernel
theorem dX9_heat_6 : decode cX9_heat 6 = .ok (.ifCond .eq 14, 3) := by decide +kernel
theorem dX9_heat_9 : decode cX9_heat 9 = .ok (.iload_n 2, 1) := by decide +kernel
theorem dX9_heat_10 : decode cX9_heat 10 = .ok (.iconst 0, 1) := by decide +kernel
theorem dX9_heat_11 : decode cX9_heat 11 = .ok (.sipush 400, 3) := by decide +kernel
theorem dX9_heat_14 : decode cX9_heat 14 = .ok (.invokestatic 44, 3) := by decide +kernel
theorem dX9_heat_17 : decode cX9_heat 17 = .ok (.ifCond .ne 6, 3) := by decide +kernel
theorem dX9_heat_20 : decode cX9_heat 20 = .ok (.bipush (-2), 2) := by decide +kernel
theorem dX9_heat_22 : decode cX9_heat 22 = .ok (.ireturn, 1) := by decide +kernel
theorem dX9_heat_23 : decode cX9_heat 23 = .ok (.aload_n 0, 1) := by decide +kernel
theorem dX9_heat_24 : decode cX9_heat 24 = .ok (.getfield 35, 3) := by decide +kernel
theorem dX9_heat_27 : decode cX9_heat 27 = .ok (.iload_n 1, 1) := by decide +kernel
theorem dX9_heat_28 : decode cX9_heat 28 = .ok (.iaload, 1) := by decide +kernel
theorem dX9_heat_29 : decode cX9_heat 29 = .ok (.istore_n 3, 1) := by decide +kernel
theorem dX9_heat_30 : decode cX9_heat 30 = .ok (.aload_n 0, 1) := by decide +kernel
theorem dX9_heat_31 : decode cX9_heat 31 = .ok (.getfield 35, 3) := by decide +kernel
theorem dX9_heat_34 : decode cX9_heat 34 = .ok (.iload_n 1, 1) := by decide +kernel
theorem dX9_heat_35 : decode cX9_heat 35 = .ok (.iload_n 2, 1) := by decide +kernel
theorem dX9_heat_36 : decode cX9_heat 36 = .ok (.iastore, 1) := by decide +kernel
theorem dX9_heat_37 : decode cX9_heat 37 = .ok (.iload_n 3, 1) := by decide +kernel
theorem dX9_heat_38 : decode cX9_heat 38 = .ok (.ireturn, 1) := by decide +kernel
theorem dX9_minute_0 : decode cX9_minute 0 = .ok (.iconst 0, 1) := by decide +kernel
theorem dX9_minute_1 : decode cX9_minute 1 = .ok (.istore_n 1, 1) := by decide +kernel
theorem dX9_minute_2 : decode cX9_minute 2 = .ok (.iconst 0, 1) := by decide +kernel
theorem dX9_minute_3 : decode cX9_minute 3 = .ok (.istore_n 2, 1) := by decide +kernel
theorem dX9_minute_4 : decode cX9_minute 4 = .ok (.iload_n 2, 1) := by decide +kernel
theorem dX9_minute_5 : decode cX9_minute 5 = .ok (.aload_n 0, 1) := by decide +kernel
theorem dX9_minute_6 : decode cX9_minute 6 = .ok (.getfield 41, 3) := by decide +kernel
theorem dX9_minute_9 : decode cX9_minute 9 = .ok (.if_icmp .ge 121, 3) := by decide +kernel
theorem dX9_minute_12 : decode cX9_minute 12 = .ok (.aload_n 0, 1) := by decide +kernel
theorem dX9_minute_13 : decode cX9_minute 13 = .ok (.getfield 16, 3) := by decide +kernel
theorem dX9_minute_16 : decode cX9_minute 16 = .ok (.iload_n 2, 1) := by decide +kernel
theorem dX9_minute_17 : decode cX9_minute 17 = .ok (.iaload, 1) := by decide +kernel
theorem dX9_minute_18 : decode cX9_minute 18 = .ok (.ifCond .ne 50, 3) := by decide +kernel
theorem dX9_minute_21 : decode cX9_minute 21 = .ok (.aload_n 0, 1) := by decide +kernel
theorem dX9_minute_22 : decode cX9_minute 22 = .ok (.getfield 19, 3) := by decide +kernel
theorem dX9_minute_25 : decode cX9_minute 25 = .ok (.iload_n 2, 1) := by decide +kernel
theorem dX9_minute_26 : decode cX9_minute 26 = .ok (.dup2, 1) := by decide +kernel
theorem dX9_minute_27 : decode cX9_minute 27 = .ok (.iaload, 1) := by decide +kernel
theorem dX9_minute_28 : decode cX9_minute 28 = .ok (.aload_n 0, 1) := by decide +kernel
theorem dX9_minute_29 : decode cX9_minute 29 = .ok (.iload_n 2, 1) := by decide +kernel
theorem dX9_minute_30 : decode cX9_minute 30 = .ok (.aload_n 0, 1) := by decide +kernel
theorem dX9_minute_31 : decode cX9_minute 31 = .ok (.getfield 31, 3) := by decide +kernel
theorem dX9_minute_34 : decode cX9_minute 34 = .ok (.invokevirtual 59, 3) := by decide +kernel
theorem dX9_minute_37 : decode cX9_minute 37 = .ok (.iadd, 1) := by decide +kernel
theorem dX9_minute_38 : decode cX9_minute 38 = .ok (.iastore, 1) := by decide +kernel
theorem dX9_minute_39 : decode cX9_minute 39 = .ok (.aload_n 0, 1) := by decide +kernel
theorem dX9_minute_40 : decode cX9_minute 40 = .ok (.getfield 19, 3) := by decide +kernel
theorem dX9_minute_43 : decode cX9_minute 43 = .ok (.iload_n 2, 1) := by decide +kernel
theorem dX9_minute_44 : decode cX9_minute 44 = .ok (.iaload, 1) := by decide +kernel
theorem dX9_minute_45 : decode cX9_minute 45 = .ok (.iconst 2, 1) := by decide +kernel
theorem dX9_minute_46 : decode cX9_minute 46 = .ok (.aload_n 0, 1) := by decide +kernel
theorem dX9_minute_47 : decode cX9_minute 47 = .ok (.iload_n 2, 1) := by decide +kernel
theorem dX9_minute_48 : decode cX9_minute 48 = .ok (.invokevirtual 63, 3) := by decide +kernel
theorem dX9_minute_51 : decode cX9_minute 51 = .ok (.imul, 1) := by decide +kernel
theorem dX9_minute_52 : decode cX9_minute 52 = .ok (.if_icmp .le 72, 3) := by decide +kernel
theorem dX9_minute_55 : decode cX9_minute 55 = .ok (.aload_n 0, 1) := by decide +kernel
theorem dX9_minute_56 : decode cX9_minute 56 = .ok (.getfield 16, 3) := by decide +kernel
theorem dX9_minute_59 : decode cX9_minute 59 = .ok (.iload_n 2, 1) := by decide +kernel
theorem dX9_minute_60 : decode cX9_minute 60 = .ok (.iconst 4, 1) := by decide +kernel
theorem dX9_minute_61 : decode cX9_minute 61 = .ok (.iastore, 1) := by decide +kernel
theorem dX9_minute_62 : decode cX9_minute 62 = .ok (.iinc 1 1, 3) := by decide +kernel
theorem dX9_minute_65 : decode cX9_minute 65 = .ok (.goto 59, 3) := by decide +kernel
theorem dX9_minute_68 : decode cX9_minute 68 = .ok (.aload_n 0, 1) := by decide +kernel
theorem dX9_minute_69 : decode cX9_minute 69 = .ok (.getfield 16, 3) := by decide +kernel
theorem dX9_minute_72 : decode cX9_minute 72 = .ok (.iload_n 2, 1) := by decide +kernel
theorem dX9_minute_73 : decode cX9_minute 73 = .ok (.iaload, 1) := by decide +kernel
theorem dX9_minute_74 : decode cX9_minute 74 = .ok (.iconst 1, 1) := by decide +kernel
theorem dX9_minute_75 : decode cX9_minute 75 = .ok (.if_icmp .ne 49, 3) := by decide +kernel
theorem dX9_minute_78 : decode cX9_minute 78 = .ok (.aload_n 0, 1) := by decide +kernel
theorem dX9_minute_79 : decode cX9_minute 79 = .ok (.getfield 22, 3) := by decide +kernel
theorem dX9_minute_82 : decode cX9_minute 82 = .ok (.iload_n 2, 1) := by decide +kernel
theorem dX9_minute_83 : decode cX9_minute 83 = .ok (.dup2, 1) := by decide +kernel
theorem dX9_minute_84 : decode cX9_minute 84 = .ok (.iaload, 1) := by decide +kernel
theorem dX9_minute_85 : decode cX9_minute 85 = .ok (.aload_n 0, 1) := by decide +kernel
theorem dX9_minute_86 : decode cX9_minute 86 = .ok (.iload_n 2, 1) := by decide +kernel
theorem dX9_minute_87 : decode cX9_minute 87 = .ok (.aload_n 0, 1) := by decide +kernel
theorem dX9_minute_88 : decode cX9_minute 88 = .ok (.getfield 35, 3) := by decide +kernel
theorem dX9_minute_91 : decode cX9_minute 91 = .ok (.aload_n 0, 1) := by decide +kernel
theorem dX9_minute_92 : decode cX9_minute 92 = .ok (.getfield 25, 3) := by decide +kernel
theorem dX9_minute_95 : decode cX9_minute 95 = .ok (.iload_n 2, 1) := by decide +kernel
theorem dX9_minute_96 : decode cX9_minute 96 = .ok (.iaload, 1) := by decide +kernel
theorem dX9_minute_97 : decode cX9_minute 97 = .ok (.iaload, 1) := by decide +kernel
theorem dX9_minute_98 : decode cX9_minute 98 = .ok (.invokevirtual 70, 3) := by decide +kernel
theorem dX9_minute_101 : decode cX9_minute 101 = .ok (.iadd, 1) := by decide +kernel
theorem dX9_minute_102 : decode cX9_minute 102 = .ok (.iastore, 1) := by decide +kernel
theorem dX9_minute_103 : decode cX9_minute 103 = .ok (.aload_n 0, 1) := by decide +kernel
theorem dX9_minute_104 : decode cX9_minute 104 = .ok (.getfield 22, 3) := by decide +kernel
theorem dX9_minute_107 : decode cX9_minute 107 = .ok (.iload_n 2, 1) := by decide +kernel
theorem dX9_minute_108 : decode cX9_minute 108 = .ok (.iaload, 1) := by decide +kernel
theorem dX9_minute_109 : decode cX9_minute 109 = .ok (.bipush 100, 2) := by decide +kernel
theorem dX9_minute_111 : decode cX9_minute 111 = .ok (.if_icmp .le 13, 3) := by decide +kernel
theorem dX9_minute_114 : decode cX9_minute 114 = .ok (.aload_n 0, 1) := by decide +kernel
theorem dX9_minute_115 : decode cX9_minute 115 = .ok (.getfield 16, 3) := by decide +kernel
theorem dX9_minute_118 : decode cX9_minute 118 = .ok (.iload_n 2, 1) := by decide +kernel
theorem dX9_minute_119 : decode cX9_minute 119 = .ok (.iconst 4, 1) := by decide +kernel
theorem dX9_minute_120 : decode cX9_minute 120 = .ok (.iastore, 1) := by decide +kernel
theorem dX9_minute_121 : decode cX9_minute 121 = .ok (.iinc 1 1, 3) := by decide +kernel
theorem dX9_minute_124 : decode cX9_minute 124 = .ok (.iinc 2 1, 3) := by decide +kernel
theorem dX9_minute_127 : decode cX9_minute 127 = .ok (.goto (-123), 3) := by decide +kernel
theorem dX9_minute_130 : decode cX9_minute 130 = .ok (.iload_n 1, 1) := by decide +kernel
theorem dX9_minute_131 : decode cX9_minute 131 = .ok (.ireturn, 1) := by decide +kernel
theorem dX9_minutes_0 : decode cX9_minutes 0 = .ok (.iload_n 1, 1) := by decide +kernel
theorem dX9_minutes_1 : decode cX9_minutes 1 = .ok (.iconst 1, 1) := by decide +kernel
theorem dX9_minutes_2 : decode cX9_minutes 2 = .ok (.sipush 200, 3) := by decide +kernel
theorem dX9_minutes_5 : decode cX9_minutes 5 = .ok (.invokestatic 44, 3) := by decide +kernel
theorem dX9_minutes_8 : decode cX9_minutes 8 = .ok (.ifCond .ne 6, 3) := by decide +kernel
theorem dX9_minutes_11 : decode cX9_minutes 11 = .ok (.bipush (-2), 2) := by decide +kernel
theorem dX9_minutes_13 : decode cX9_minutes 13 = .ok (.ireturn, 1) := by decide +kernel
theorem dX9_minutes_14 : decode cX9_minutes 14 = .ok (.iconst 0, 1) := by decide +kernel
theorem dX9_minutes_15 : decode cX9_minutes 15 = .ok (.istore_n 2, 1) := by decide +kernel
theorem dX9_minutes_16 : decode cX9_minutes 16 = .ok (.iconst 0, 1) := by decide +kernel
theorem dX9_minutes_17 : decode cX9_minutes 17 = .ok (.istore_n 3, 1) := by decide +kernel
theorem dX9_minutes_18 : decode cX9_minutes 18 = .ok (.iload_n 3, 1) := by decide +kernel
theorem dX9_minutes_19 : decode cX9_minutes 19 = .ok (.iload_n 1, 1) := by decide +kernel
theorem dX9_minutes_20 : decode cX9_minutes 20 = .ok (.if_icmp .ge 16, 3) := by decide +kernel
theorem dX9_minutes_23 : decode cX9_minutes 23 = .ok (.iload_n 2, 1) := by decide +kernel
theorem dX9_minutes_24 : decode cX9_minutes 24 = .ok (.aload_n 0, 1) := by decide +kernel
theorem dX9_minutes_25 : decode cX9_minutes 25 = .ok (.invokevirtual 93, 3) := by decide +kernel
theorem dX9_minutes_28 : decode cX9_minutes 28 = .ok (.iadd, 1) := by decide +kernel
theorem dX9_minutes_29 : decode cX9_minutes 29 = .ok (.istore_n 2, 1) := by decide +kernel
theorem dX9_minutes_30 : decode cX9_minutes 30 = .ok (.iinc 3 1, 3) := by decide +kernel
theorem dX9_minutes_33 : decode cX9_minutes 33 = .ok (.goto (-15), 3) := by decide +kernel
theorem dX9_minutes_36 : decode cX9_minutes 36 = .ok (.iload_n 2, 1) := by decide +kernel
theorem dX9_minutes_37 : decode cX9_minutes 37 = .ok (.ireturn, 1) := by decide +kernel
theorem dX9_massIn_0 : decode cX9_massIn 0 = .ok (.iconst 0, 1) := by decide +kernel
theorem dX9_massIn_1 : decode cX9_massIn 1 = .ok (.istore_n 2, 1) := by decide +kernel
theorem dX9_massIn_2 : decode cX9_massIn 2 = .ok (.iconst 0, 1) := by decide +kernel
theorem dX9_massIn_3 : decode cX9_massIn 3 = .ok (.istore_n 3, 1) := by decide +kernel
theorem dX9_massIn_4 : decode cX9_massIn 4 = .ok (.iload_n 3, 1) := by decide +kernel
theorem dX9_massIn_5 : decode cX9_massIn 5 = .ok (.aload_n 0, 1) := by decide +kernel
theorem dX9_massIn_6 : decode cX9_massIn 6 = .ok (.getfield 41, 3) := by decide +kernel
theorem dX9_massIn_9 : decode cX9_massIn 9 = .ok (.if_icmp .ge 42, 3) := by decide +kernel
theorem dX9_massIn_12 : decode cX9_massIn 12 = .ok (.iload_n 2, 1) := by decide +kernel
theorem dX9_massIn_13 : decode cX9_massIn 13 = .ok (.aload_n 0, 1) := by decide +kernel
theorem dX9_massIn_14 : decode cX9_massIn 14 = .ok (.getfield 16, 3) := by decide +kernel
theorem dX9_massIn_17 : decode cX9_massIn 17 = .ok (.iload_n 3, 1) := by decide +kernel
theorem dX9_massIn_18 : decode cX9_massIn 18 = .ok (.iaload, 1) := by decide +kernel
theorem dX9_massIn_19 : decode cX9_massIn 19 = .ok (.iconst 1, 1) := by decide +kernel
theorem dX9_massIn_20 : decode cX9_massIn 20 = .ok (.if_icmp .ne 22, 3) := by decide +kernel
theorem dX9_massIn_23 : decode cX9_massIn 23 = .ok (.aload_n 0, 1) := by decide +kernel
theorem dX9_massIn_24 : decode cX9_massIn 24 = .ok (.getfield 25, 3) := by decide +kernel
theorem dX9_massIn_27 : decode cX9_massIn 27 = .ok (.iload_n 3, 1) := by decide +kernel
theorem dX9_massIn_28 : decode cX9_massIn 28 = .ok (.iaload, 1) := by decide +kernel
theorem dX9_massIn_29 : decode cX9_massIn 29 = .ok (.iload_n 1, 1) := by decide +kernel
theorem dX9_massIn_30 : decode cX9_massIn 30 = .ok (.if_icmp .ne 12, 3) := by decide +kernel
theorem dX9_massIn_33 : decode cX9_massIn 33 = .ok (.aload_n 0, 1) := by decide +kernel
theorem dX9_massIn_34 : decode cX9_massIn 34 = .ok (.getfield 13, 3) := by decide +kernel
theorem dX9_massIn_37 : decode cX9_massIn 37 = .ok (.iload_n 3, 1) := by decide +kernel
theorem dX9_massIn_38 : decode cX9_massIn 38 = .ok (.iaload, 1) := by decide +kernel
theorem dX9_massIn_39 : decode cX9_massIn 39 = .ok (.goto 4, 3) := by decide +kernel
theorem dX9_massIn_42 : decode cX9_massIn 42 = .ok (.iconst 0, 1) := by decide +kernel
theorem dX9_massIn_43 : decode cX9_massIn 43 = .ok (.iadd, 1) := by decide +kernel
theorem dX9_massIn_44 : decode cX9_massIn 44 = .ok (.istore_n 2, 1) := by decide +kernel
theorem dX9_massIn_45 : decode cX9_massIn 45 = .ok (.iinc 3 1, 3) := by decide +kernel
theorem dX9_massIn_48 : decode cX9_massIn 48 = .ok (.goto (-44), 3) := by decide +kernel
theorem dX9_massIn_51 : decode cX9_massIn 51 = .ok (.iload_n 2, 1) := by decide +kernel
theorem dX9_massIn_52 : decode cX9_massIn 52 = .ok (.ireturn, 1) := by decide +kernel
theorem dX9_bake_0 : decode cX9_bake 0 = .ok (.aload_n 0, 1) := by decide +kernel
theorem dX9_bake_1 : decode cX9_bake 1 = .ok (.iload_n 1, 1) := by decide +kernel
theorem dX9_bake_2 : decode cX9_bake 2 = .ok (.invokevirtual 86, 3) := by decide +kernel
theorem dX9_bake_5 : decode cX9_bake 5 = .ok (.ifCond .eq 12, 3) := by decide +kernel
theorem dX9_bake_8 : decode cX9_bake 8 = .ok (.iload_n 2, 1) := by decide +kernel
theorem dX9_bake_9 : decode cX9_bake 9 = .ok (.iconst 0, 1) := by decide +kernel
theorem dX9_bake_10 : decode cX9_bake 10 = .ok (.iconst 2, 1) := by decide +kernel
theorem dX9_bake_11 : decode cX9_bake 11 = .ok (.invokestatic 44, 3) := by decide +kernel
theorem dX9_bake_14 : decode cX9_bake 14 = .ok (.ifCond .ne 6, 3) := by decide +kernel
theorem dX9_bake_17 : decode cX9_bake 17 = .ok (.bipush (-2), 2) := by decide +kernel
theorem dX9_bake_19 : decode cX9_bake 19 = .ok (.ireturn, 1) := by decide +kernel
theorem dX9_bake_20 : decode cX9_bake 20 = .ok (.aload_n 0, 1) := by decide +kernel
theorem dX9_bake_21 : decode cX9_bake 21 = .ok (.getfield 16, 3) := by decide +kernel
theorem dX9_bake_24 : decode cX9_bake 24 = .ok (.iload_n 1, 1) := by decide +kernel
theorem dX9_bake_25 : decode cX9_bake 25 = .ok (.iaload, 1) := by decide +kernel
theorem dX9_bake_26 : decode cX9_bake 26 = .ok (.ifCond .ne 17, 3) := by decide +kernel
theorem dX9_bake_29 : decode cX9_bake 29 = .ok (.aload_n 0, 1) := by decide +kernel
theorem dX9_bake_30 : decode cX9_bake 30 = .ok (.getfield 19, 3) := by decide +kernel
theorem dX9_bake_33 : decode cX9_bake 33 = .ok (.iload_n 1, 1) := by decide +kernel
theorem dX9_bake_34 : decode cX9_bake 34 = .ok (.iaload, 1) := by decide +kernel
theorem dX9_bake_35 : decode cX9_bake 35 = .ok (.aload_n 0, 1) := by decide +kernel
theorem dX9_bake_36 : decode cX9_bake 36 = .ok (.iload_n 1, 1) := by decide +kernel
theorem dX9_bake_37 : decode cX9_bake 37 = .ok (.invokevirtual 63, 3) := by decide +kernel
theorem dX9_bake_40 : decode cX9_bake 40 = .ok (.if_icmp .ge 6, 3) := by decide +kernel
theorem dX9_bake_43 : decode cX9_bake 43 = .ok (.bipush (-3), 2) := by decide +kernel
theorem dX9_bake_45 : decode cX9_bake 45 = .ok (.ireturn, 1) := by decide +kernel
theorem dX9_bake_46 : decode cX9_bake 46 = .ok (.aload_n 0, 1) := by decide +kernel
theorem dX9_bake_47 : decode cX9_bake 47 = .ok (.iload_n 2, 1) := by decide +kernel
theorem dX9_bake_48 : decode cX9_bake 48 = .ok (.invokevirtual 97, 3) := by decide +kernel
theorem dX9_bake_51 : decode cX9_bake 51 = .ok (.aload_n 0, 1) := by decide +kernel
theorem dX9_bake_52 : decode cX9_bake 52 = .ok (.getfield 13, 3) := by decide +kernel
theorem dX9_bake_55 : decode cX9_bake 55 = .ok (.iload_n 1, 1) := by decide +kernel
theorem dX9_bake_56 : decode cX9_bake 56 = .ok (.iaload, 1) := by decide +kernel
theorem dX9_bake_57 : decode cX9_bake 57 = .ok (.iadd, 1) := by decide +kernel
theorem dX9_bake_58 : decode cX9_bake 58 = .ok (.sipush 800, 3) := by decide +kernel
theorem dX9_bake_61 : decode cX9_bake 61 = .ok (.if_icmp .le 6, 3) := by decide +kernel
theorem dX9_bake_64 : decode cX9_bake 64 = .ok (.bipush (-4), 2) := by decide +kernel
theorem dX9_bake_66 : decode cX9_bake 66 = .ok (.ireturn, 1) := by decide +kernel
theorem dX9_bake_67 : decode cX9_bake 67 = .ok (.aload_n 0, 1) := by decide +kernel
theorem dX9_bake_68 : decode cX9_bake 68 = .ok (.getfield 16, 3) := by decide +kernel
theorem dX9_bake_71 : decode cX9_bake 71 = .ok (.iload_n 1, 1) := by decide +kernel
theorem dX9_bake_72 : decode cX9_bake 72 = .ok (.iconst 1, 1) := by decide +kernel
theorem dX9_bake_73 : decode cX9_bake 73 = .ok (.iastore, 1) := by decide +kernel
theorem dX9_bake_74 : decode cX9_bake 74 = .ok (.aload_n 0, 1) := by decide +kernel
theorem dX9_bake_75 : decode cX9_bake 75 = .ok (.getfield 25, 3) := by decide +kernel
theorem dX9_bake_78 : decode cX9_bake 78 = .ok (.iload_n 1, 1) := by decide +kernel
theorem dX9_bake_79 : decode cX9_bake 79 = .ok (.iload_n 2, 1) := by decide +kernel
theorem dX9_bake_80 : decode cX9_bake 80 = .ok (.iastore, 1) := by decide +kernel
theorem dX9_bake_81 : decode cX9_bake 81 = .ok (.aload_n 0, 1) := by decide +kernel
theorem dX9_bake_82 : decode cX9_bake 82 = .ok (.iload_n 2, 1) := by decide +kernel
theorem dX9_bake_83 : decode cX9_bake 83 = .ok (.invokevirtual 97, 3) := by decide +kernel
theorem dX9_bake_86 : decode cX9_bake 86 = .ok (.ireturn, 1) := by decide +kernel
theorem dX9_out_0 : decode cX9_out 0 = .ok (.aload_n 0, 1) := by decide +kernel
theorem dX9_out_1 : decode cX9_out 1 = .ok (.iload_n 1, 1) := by decide +kernel
theorem dX9_out_2 : decode cX9_out 2 = .ok (.invokevirtual 86, 3) := by decide +kernel
theorem dX9_out_5 : decode cX9_out 5 = .ok (.ifCond .ne 6, 3) := by decide +kernel
theorem dX9_out_8 : decode cX9_out 8 = .ok (.bipush (-2), 2) := by decide +kernel
theorem dX9_out_10 : decode cX9_out 10 = .ok (.ireturn, 1) := by decide +kernel
theorem dX9_out_11 : decode cX9_out 11 = .ok (.aload_n 0, 1) := by decide +kernel
theorem dX9_out_12 : decode cX9_out 12 = .ok (.getfield 16, 3) := by decide +kernel
theorem dX9_out_15 : decode cX9_out 15 = .ok (.iload_n 1, 1) := by decide +kernel
theorem dX9_out_16 : decode cX9_out 16 = .ok (.iaload, 1) := by decide +kernel
theorem dX9_out_17 : decode cX9_out 17 = .ok (.iconst 1, 1) := by decide +kernel
theorem dX9_out_18 : decode cX9_out 18 = .ok (.if_icmp .eq 6, 3) := by decide +kernel
theorem dX9_out_21 : decode cX9_out 21 = .ok (.bipush (-3), 2) := by decide +kernel
theorem dX9_out_23 : decode cX9_out 23 = .ok (.ireturn, 1) := by decide +kernel
theorem dX9_out_24 : decode cX9_out 24 = .ok (.aload_n 0, 1) := by decide +kernel
theorem dX9_out_25 : decode cX9_out 25 = .ok (.getfield 16, 3) := by decide +kernel
theorem dX9_out_28 : decode cX9_out 28 = .ok (.iload_n 1, 1) := by decide +kernel
theorem dX9_out_29 : decode cX9_out 29 = .ok (.aload_n 0, 1) := by decide +kernel
theorem dX9_out_30 : decode cX9_out 30 = .ok (.getfield 22, 3) := by decide +kernel
theorem dX9_out_33 : decode cX9_out 33 = .ok (.iload_n 1, 1) := by decide +kernel
theorem dX9_out_34 : decode cX9_out 34 = .ok (.iaload, 1) := by decide +kernel
theorem dX9_out_35 : decode cX9_out 35 = .ok (.bipush 40, 2) := by decide +kernel
theorem dX9_out_37 : decode cX9_out 37 = .ok (.if_icmp .lt 7, 3) := by decide +kernel
theorem dX9_out_40 : decode cX9_out 40 = .ok (.iconst 2, 1) := by decide +kernel
theorem dX9_out_41 : decode cX9_out 41 = .ok (.goto 4, 3) := by decide +kernel
theorem dX9_out_44 : decode cX9_out 44 = .ok (.iconst 4, 1) := by decide +kernel
theorem dX9_out_45 : decode cX9_out 45 = .ok (.iastore, 1) := by decide +kernel
theorem dX9_out_46 : decode cX9_out 46 = .ok (.aload_n 0, 1) := by decide +kernel
theorem dX9_out_47 : decode cX9_out 47 = .ok (.getfield 28, 3) := by decide +kernel
theorem dX9_out_50 : decode cX9_out 50 = .ok (.iload_n 1, 1) := by decide +kernel
theorem dX9_out_51 : decode cX9_out 51 = .ok (.aload_n 0, 1) := by decide +kernel
theorem dX9_out_52 : decode cX9_out 52 = .ok (.getfield 100, 3) := by decide +kernel
theorem dX9_out_55 : decode cX9_out 55 = .ok (.iastore, 1) := by decide +kernel
theorem dX9_out_56 : decode cX9_out 56 = .ok (.aload_n 0, 1) := by decide +kernel
theorem dX9_out_57 : decode cX9_out 57 = .ok (.getfield 22, 3) := by decide +kernel
theorem dX9_out_60 : decode cX9_out 60 = .ok (.iload_n 1, 1) := by decide +kernel
theorem dX9_out_61 : decode cX9_out 61 = .ok (.iaload, 1) := by decide +kernel
theorem dX9_out_62 : decode cX9_out 62 = .ok (.ireturn, 1) := by decide +kernel
theorem dX9_sell_0 : decode cX9_sell 0 = .ok (.aload_n 0, 1) := by decide +kernel
theorem dX9_sell_1 : decode cX9_sell 1 = .ok (.iload_n 1, 1) := by decide +kernel
theorem dX9_sell_2 : decode cX9_sell 2 = .ok (.invokevirtual 86, 3) := by decide +kernel
theorem dX9_sell_5 : decode cX9_sell 5 = .ok (.ifCond .ne 6, 3) := by decide +kernel
theorem dX9_sell_8 : decode cX9_sell 8 = .ok (.bipush (-2), 2) := by decide +kernel
theorem dX9_sell_10 : decode cX9_sell 10 = .ok (.ireturn, 1) := by decide +kernel
theorem dX9_sell_11 : decode cX9_sell 11 = .ok (.aload_n 0, 1) := by decide +kernel
theorem dX9_sell_12 : decode cX9_sell 12 = .ok (.getfield 16, 3) := by decide +kernel
theorem dX9_sell_15 : decode cX9_sell 15 = .ok (.iload_n 1, 1) := by decide +kernel
theorem dX9_sell_16 : decode cX9_sell 16 = .ok (.iaload, 1) := by decide +kernel
theorem dX9_sell_17 : decode cX9_sell 17 = .ok (.iconst 2, 1) := by decide +kernel
theorem dX9_sell_18 : decode cX9_sell 18 = .ok (.if_icmp .eq 6, 3) := by decide +kernel
theorem dX9_sell_21 : decode cX9_sell 21 = .ok (.bipush (-3), 2) := by decide +kernel
theorem dX9_sell_23 : decode cX9_sell 23 = .ok (.ireturn, 1) := by decide +kernel
theorem dX9_sell_24 : decode cX9_sell 24 = .ok (.aload_n 0, 1) := by decide +kernel
theorem dX9_sell_25 : decode cX9_sell 25 = .ok (.iload_n 1, 1) := by decide +kernel
theorem dX9_sell_26 : decode cX9_sell 26 = .ok (.invokevirtual 67, 3) := by decide +kernel
theorem dX9_sell_29 : decode cX9_sell 29 = .ok (.aload_n 0, 1) := by decide +kernel
theorem dX9_sell_30 : decode cX9_sell 30 = .ok (.getfield 7, 3) := by decide +kernel
theorem dX9_sell_33 : decode cX9_sell 33 = .ok (.iload_n 1, 1) := by decide +kernel
theorem dX9_sell_34 : decode cX9_sell 34 = .ok (.iaload, 1) := by decide +kernel
theorem dX9_sell_35 : decode cX9_sell 35 = .ok (.invokestatic 80, 3) := by decide +kernel
theorem dX9_sell_38 : decode cX9_sell 38 = .ok (.ifCond .eq 11, 3) := by decide +kernel
theorem dX9_sell_41 : decode cX9_sell 41 = .ok (.aload_n 0, 1) := by decide +kernel
theorem dX9_sell_42 : decode cX9_sell 42 = .ok (.iload_n 1, 1) := by decide +kernel
theorem dX9_sell_43 : decode cX9_sell 43 = .ok (.invokevirtual 83, 3) := by decide +kernel
theorem dX9_sell_46 : decode cX9_sell 46 = .ok (.goto 4, 3) := by decide +kernel
theorem dX9_sell_49 : decode cX9_sell 49 = .ok (.iconst 0, 1) := by decide +kernel
theorem dX9_sell_50 : decode cX9_sell 50 = .ok (.iadd, 1) := by decide +kernel
theorem dX9_sell_51 : decode cX9_sell 51 = .ok (.aload_n 0, 1) := by decide +kernel
theorem dX9_sell_52 : decode cX9_sell 52 = .ok (.getfield 100, 3) := by decide +kernel
theorem dX9_sell_55 : decode cX9_sell 55 = .ok (.aload_n 0, 1) := by decide +kernel
theorem dX9_sell_56 : decode cX9_sell 56 = .ok (.getfield 28, 3) := by decide +kernel
theorem dX9_sell_59 : decode cX9_sell 59 = .ok (.iload_n 1, 1) := by decide +kernel
theorem dX9_sell_60 : decode cX9_sell 60 = .ok (.iaload, 1) := by decide +kernel
theorem dX9_sell_61 : decode cX9_sell 61 = .ok (.isub, 1) := by decide +kernel
theorem dX9_sell_62 : decode cX9_sell 62 = .ok (.isub, 1) := by decide +kernel
theorem dX9_sell_63 : decode cX9_sell 63 = .ok (.istore_n 2, 1) := by decide +kernel
theorem dX9_sell_64 : decode cX9_sell 64 = .ok (.iload_n 2, 1) := by decide +kernel
theorem dX9_sell_65 : decode cX9_sell 65 = .ok (.iconst 1, 1) := by decide +kernel
theorem dX9_sell_66 : decode cX9_sell 66 = .ok (.if_icmp .ge 7, 3) := by decide +kernel
theorem dX9_sell_69 : decode cX9_sell 69 = .ok (.iconst 1, 1) := by decide +kernel
theorem dX9_sell_70 : decode cX9_sell 70 = .ok (.goto 4, 3) := by decide +kernel
theorem dX9_sell_73 : decode cX9_sell 73 = .ok (.iload_n 2, 1) := by decide +kernel
theorem dX9_sell_74 : decode cX9_sell 74 = .ok (.istore_n 2, 1) := by decide +kernel
theorem dX9_sell_75 : decode cX9_sell 75 = .ok (.aload_n 0, 1) := by decide +kernel
theorem dX9_sell_76 : decode cX9_sell 76 = .ok (.dup, 1) := by decide +kernel
theorem dX9_sell_77 : decode cX9_sell 77 = .ok (.getfield 103, 3) := by decide +kernel
theorem dX9_sell_80 : decode cX9_sell 80 = .ok (.iload_n 2, 1) := by decide +kernel
theorem dX9_sell_81 : decode cX9_sell 81 = .ok (.iadd, 1) := by decide +kernel
theorem dX9_sell_82 : decode cX9_sell 82 = .ok (.putfield 103, 3) := by decide +kernel
theorem dX9_sell_85 : decode cX9_sell 85 = .ok (.aload_n 0, 1) := by decide +kernel
theorem dX9_sell_86 : decode cX9_sell 86 = .ok (.getfield 16, 3) := by decide +kernel
theorem dX9_sell_89 : decode cX9_sell 89 = .ok (.iload_n 1, 1) := by decide +kernel
theorem dX9_sell_90 : decode cX9_sell 90 = .ok (.iconst 3, 1) := by decide +kernel
theorem dX9_sell_91 : decode cX9_sell 91 = .ok (.iastore, 1) := by decide +kernel
theorem dX9_sell_92 : decode cX9_sell 92 = .ok (.iload_n 2, 1) := by decide +kernel
theorem dX9_sell_93 : decode cX9_sell 93 = .ok (.ireturn, 1) := by decide +kernel
theorem dX9_day_0 : decode cX9_day 0 = .ok (.aload_n 0, 1) := by decide +kernel
theorem dX9_day_1 : decode cX9_day 1 = .ok (.getfield 100, 3) := by decide +kernel
theorem dX9_day_4 : decode cX9_day 4 = .ok (.sipush 10000, 3) := by decide +kernel
theorem dX9_day_7 : decode cX9_day 7 = .ok (.if_icmp .ne 6, 3) := by decide +kernel
theorem dX9_day_10 : decode cX9_day 10 = .ok (.bipush (-4), 2) := by decide +kernel
theorem dX9_day_12 : decode cX9_day 12 = .ok (.ireturn, 1) := by decide +kernel
theorem dX9_day_13 : decode cX9_day 13 = .ok (.iconst 0, 1) := by decide +kernel
theorem dX9_day_14 : decode cX9_day 14 = .ok (.istore_n 1, 1) := by decide +kernel
theorem dX9_day_15 : decode cX9_day 15 = .ok (.iconst 0, 1) := by decide +kernel
theorem dX9_day_16 : decode cX9_day 16 = .ok (.istore_n 2, 1) := by decide +kernel
theorem dX9_day_17 : decode cX9_day 17 = .ok (.iload_n 2, 1) := by decide +kernel
theorem dX9_day_18 : decode cX9_day 18 = .ok (.aload_n 0, 1) := by decide +kernel
theorem dX9_day_19 : decode cX9_day 19 = .ok (.getfield 41, 3) := by decide +kernel
theorem dX9_day_22 : decode cX9_day 22 = .ok (.if_icmp .ge 76, 3) := by decide +kernel
theorem dX9_day_25 : decode cX9_day 25 = .ok (.aload_n 0, 1) := by decide +kernel
theorem dX9_day_26 : decode cX9_day 26 = .ok (.getfield 16, 3) := by decide +kernel
theorem dX9_day_29 : decode cX9_day 29 = .ok (.iload_n 2, 1) := by decide +kernel
theorem dX9_day_30 : decode cX9_day 30 = .ok (.iaload, 1) := by decide +kernel
theorem dX9_day_31 : decode cX9_day 31 = .ok (.iconst 2, 1) := by decide +kernel
theorem dX9_day_32 : decode cX9_day 32 = .ok (.if_icmp .ne 23, 3) := by decide +kernel
theorem dX9_day_35 : decode cX9_day 35 = .ok (.aload_n 0, 1) := by decide +kernel
theorem dX9_day_36 : decode cX9_day 36 = .ok (.getfield 7, 3) := by decide +kernel
theorem dX9_day_39 : decode cX9_day 39 = .ok (.iload_n 2, 1) := by decide +kernel
theorem dX9_day_40 : decode cX9_day 40 = .ok (.iaload, 1) := by decide +kernel
theorem dX9_day_41 : decode cX9_day 41 = .ok (.invokestatic 73, 3) := by decide +kernel
theorem dX9_day_44 : decode cX9_day 44 = .ok (.ifCond .eq 11, 3) := by decide +kernel
theorem dX9_day_47 : decode cX9_day 47 = .ok (.aload_n 0, 1) := by decide +kernel
theorem dX9_day_48 : decode cX9_day 48 = .ok (.iload_n 2, 1) := by decide +kernel
theorem dX9_day_49 : decode cX9_day 49 = .ok (.invokevirtual 77, 3) := by decide +kernel
theorem dX9_day_52 : decode cX9_day 52 = .ok (.goto 4, 3) := by decide +kernel
theorem dX9_day_55 : decode cX9_day 55 = .ok (.iconst 1, 1) := by decide +kernel
theorem dX9_day_56 : decode cX9_day 56 = .ok (.istore_n 3, 1) := by decide +kernel
theorem dX9_day_57 : decode cX9_day 57 = .ok (.aload_n 0, 1) := by decide +kernel
theorem dX9_day_58 : decode cX9_day 58 = .ok (.getfield 16, 3) := by decide +kernel
theorem dX9_day_61 : decode cX9_day 61 = .ok (.iload_n 2, 1) := by decide +kernel
theorem dX9_day_62 : decode cX9_day 62 = .ok (.iaload, 1) := by decide +kernel
theorem dX9_day_63 : decode cX9_day 63 = .ok (.iconst 2, 1) := by decide +kernel
theorem dX9_day_64 : decode cX9_day 64 = .ok (.if_icmp .ne 28, 3) := by decide +kernel
theorem dX9_day_67 : decode cX9_day 67 = .ok (.aload_n 0, 1) := by decide +kernel
theorem dX9_day_68 : decode cX9_day 68 = .ok (.getfield 100, 3) := by decide +kernel
theorem dX9_day_71 : decode cX9_day 71 = .ok (.aload_n 0, 1) := by decide +kernel
theorem dX9_day_72 : decode cX9_day 72 = .ok (.getfield 28, 3) := by decide +kernel
theorem dX9_day_75 : decode cX9_day 75 = .ok (.iload_n 2, 1) := by decide +kernel
theorem dX9_day_76 : decode cX9_day 76 = .ok (.iaload, 1) := by decide +kernel
theorem dX9_day_77 : decode cX9_day 77 = .ok (.isub, 1) := by decide +kernel
theorem dX9_day_78 : decode cX9_day 78 = .ok (.iload_n 3, 1) := by decide +kernel
theorem dX9_day_79 : decode cX9_day 79 = .ok (.if_icmp .lt 13, 3) := by decide +kernel
theorem dX9_day_82 : decode cX9_day 82 = .ok (.aload_n 0, 1) := by decide +kernel
theorem dX9_day_83 : decode cX9_day 83 = .ok (.getfield 16, 3) := by decide +kernel
theorem dX9_day_86 : decode cX9_day 86 = .ok (.iload_n 2, 1) := by decide +kernel
theorem dX9_day_87 : decode cX9_day 87 = .ok (.iconst 4, 1) := by decide +kernel
theorem dX9_day_88 : decode cX9_day 88 = .ok (.iastore, 1) := by decide +kernel
theorem dX9_day_89 : decode cX9_day 89 = .ok (.iinc 1 1, 3) := by decide +kernel
theorem dX9_day_92 : decode cX9_day 92 = .ok (.iinc 2 1, 3) := by decide +kernel
theorem dX9_day_95 : decode cX9_day 95 = .ok (.goto (-78), 3) := by decide +kernel
theorem dX9_day_98 : decode cX9_day 98 = .ok (.aload_n 0, 1) := by decide +kernel
theorem dX9_day_99 : decode cX9_day 99 = .ok (.dup, 1) := by decide +kernel
theorem dX9_day_100 : decode cX9_day 100 = .ok (.getfield 100, 3) := by decide +kernel
theorem dX9_day_103 : decode cX9_day 103 = .ok (.iconst 1, 1) := by decide +kernel
theorem dX9_day_104 : decode cX9_day 104 = .ok (.iadd, 1) := by decide +kernel
theorem dX9_day_105 : decode cX9_day 105 = .ok (.putfield 100, 3) := by decide +kernel
theorem dX9_day_108 : decode cX9_day 108 = .ok (.iload_n 1, 1) := by decide +kernel
theorem dX9_day_109 : decode cX9_day 109 = .ok (.ireturn, 1) := by decide +kernel
theorem dX9_told_0 : decode cX9_told 0 = .ok (.aload_n 0, 1) := by decide +kernel
theorem dX9_told_1 : decode cX9_told 1 = .ok (.iload_n 1, 1) := by decide +kernel
theorem dX9_told_2 : decode cX9_told 2 = .ok (.invokevirtual 86, 3) := by decide +kernel
theorem dX9_told_5 : decode cX9_told 5 = .ok (.ifCond .eq 13, 3) := by decide +kernel
theorem dX9_told_8 : decode cX9_told 8 = .ok (.iload_n 2, 1) := by decide +kernel
theorem dX9_told_9 : decode cX9_told 9 = .ok (.iconst 0, 1) := by decide +kernel
theorem dX9_told_10 : decode cX9_told 10 = .ok (.bipush 7, 2) := by decide +kernel
theorem dX9_told_12 : decode cX9_told 12 = .ok (.invokestatic 44, 3) := by decide +kernel
theorem dX9_told_15 : decode cX9_told 15 = .ok (.ifCond .ne 6, 3) := by decide +kernel
theorem dX9_told_18 : decode cX9_told 18 = .ok (.bipush (-2), 2) := by decide +kernel
theorem dX9_told_20 : decode cX9_told 20 = .ok (.ireturn, 1) := by decide +kernel
theorem dX9_told_21 : decode cX9_told 21 = .ok (.iload_n 2, 1) := by decide +kernel
theorem dX9_told_22 : decode cX9_told 22 = .ok (.tableswitch 130 0 6 #[42, 49, 56, 63, 70, 91, 112], 42) := by decide +kernel
theorem dX9_told_64 : decode cX9_told 64 = .ok (.aload_n 0, 1) := by decide +kernel
theorem dX9_told_65 : decode cX9_told 65 = .ok (.getfield 7, 3) := by decide +kernel
theorem dX9_told_68 : decode cX9_told 68 = .ok (.iload_n 1, 1) := by decide +kernel
theorem dX9_told_69 : decode cX9_told 69 = .ok (.iaload, 1) := by decide +kernel
theorem dX9_told_70 : decode cX9_told 70 = .ok (.ireturn, 1) := by decide +kernel
theorem dX9_told_71 : decode cX9_told 71 = .ok (.aload_n 0, 1) := by decide +kernel
theorem dX9_told_72 : decode cX9_told 72 = .ok (.getfield 16, 3) := by decide +kernel
theorem dX9_told_75 : decode cX9_told 75 = .ok (.iload_n 1, 1) := by decide +kernel
theorem dX9_told_76 : decode cX9_told 76 = .ok (.iaload, 1) := by decide +kernel
theorem dX9_told_77 : decode cX9_told 77 = .ok (.ireturn, 1) := by decide +kernel
theorem dX9_told_78 : decode cX9_told 78 = .ok (.aload_n 0, 1) := by decide +kernel
theorem dX9_told_79 : decode cX9_told 79 = .ok (.getfield 19, 3) := by decide +kernel
theorem dX9_told_82 : decode cX9_told 82 = .ok (.iload_n 1, 1) := by decide +kernel
theorem dX9_told_83 : decode cX9_told 83 = .ok (.iaload, 1) := by decide +kernel
theorem dX9_told_84 : decode cX9_told 84 = .ok (.ireturn, 1) := by decide +kernel
theorem dX9_told_85 : decode cX9_told 85 = .ok (.aload_n 0, 1) := by decide +kernel
theorem dX9_told_86 : decode cX9_told 86 = .ok (.getfield 22, 3) := by decide +kernel
theorem dX9_told_89 : decode cX9_told 89 = .ok (.iload_n 1, 1) := by decide +kernel
theorem dX9_told_90 : decode cX9_told 90 = .ok (.iaload, 1) := by decide +kernel
theorem dX9_told_91 : decode cX9_told 91 = .ok (.ireturn, 1) := by decide +kernel
theorem dX9_told_92 : decode cX9_told 92 = .ok (.aload_n 0, 1) := by decide +kernel
theorem dX9_told_93 : decode cX9_told 93 = .ok (.getfield 16, 3) := by decide +kernel
theorem dX9_told_96 : decode cX9_told 96 = .ok (.iload_n 1, 1) := by decide +kernel
theorem dX9_told_97 : decode cX9_told 97 = .ok (.iaload, 1) := by decide +kernel
theorem dX9_told_98 : decode cX9_told 98 = .ok (.iconst 1, 1) := by decide +kernel
theorem dX9_told_99 : decode cX9_told 99 = .ok (.if_icmp .ne 12, 3) := by decide +kernel
theorem dX9_told_102 : decode cX9_told 102 = .ok (.aload_n 0, 1) := by decide +kernel
theorem dX9_told_103 : decode cX9_told 103 = .ok (.getfield 25, 3) := by decide +kernel
theorem dX9_told_106 : decode cX9_told 106 = .ok (.iload_n 1, 1) := by decide +kernel
theorem dX9_told_107 : decode cX9_told 107 = .ok (.iaload, 1) := by decide +kernel
theorem dX9_told_108 : decode cX9_told 108 = .ok (.goto 4, 3) := by decide +kernel
theorem dX9_told_111 : decode cX9_told 111 = .ok (.iconst (-1), 1) := by decide +kernel
theorem dX9_told_112 : decode cX9_told 112 = .ok (.ireturn, 1) := by decide +kernel
theorem dX9_told_113 : decode cX9_told 113 = .ok (.aload_n 0, 1) := by decide +kernel
theorem dX9_told_114 : decode cX9_told 114 = .ok (.getfield 16, 3) := by decide +kernel
theorem dX9_told_117 : decode cX9_told 117 = .ok (.iload_n 1, 1) := by decide +kernel
theorem dX9_told_118 : decode cX9_told 118 = .ok (.iaload, 1) := by decide +kernel
theorem dX9_told_119 : decode cX9_told 119 = .ok (.iconst 2, 1) := by decide +kernel
theorem dX9_told_120 : decode cX9_told 120 = .ok (.if_icmp .ne 12, 3) := by decide +kernel
theorem dX9_told_123 : decode cX9_told 123 = .ok (.aload_n 0, 1) := by decide +kernel
theorem dX9_told_124 : decode cX9_told 124 = .ok (.getfield 28, 3) := by decide +kernel
theorem dX9_told_127 : decode cX9_told 127 = .ok (.iload_n 1, 1) := by decide +kernel
theorem dX9_told_128 : decode cX9_told 128 = .ok (.iaload, 1) := by decide +kernel
theorem dX9_told_129 : decode cX9_told 129 = .ok (.goto 4, 3) := by decide +kernel
theorem dX9_told_132 : decode cX9_told 132 = .ok (.iconst (-1), 1) := by decide +kernel
theorem dX9_told_133 : decode cX9_told 133 = .ok (.ireturn, 1) := by decide +kernel
theorem dX9_told_134 : decode cX9_told 134 = .ok (.aload_n 0, 1) := by decide +kernel
theorem dX9_told_135 : decode cX9_told 135 = .ok (.getfield 7, 3) := by decide +kernel
theorem dX9_told_138 : decode cX9_told 138 = .ok (.iload_n 1, 1) := by decide +kernel
theorem dX9_told_139 : decode cX9_told 139 = .ok (.iaload, 1) := by decide +kernel
theorem dX9_told_140 : decode cX9_told 140 = .ok (.invokestatic 73, 3) := by decide +kernel
theorem dX9_told_143 : decode cX9_told 143 = .ok (.ifCond .eq 7, 3) := by decide +kernel
theorem dX9_told_146 : decode cX9_told 146 = .ok (.iconst 1, 1) := by decide +kernel
theorem dX9_told_147 : decode cX9_told 147 = .ok (.goto 4, 3) := by decide +kernel
theorem dX9_told_150 : decode cX9_told 150 = .ok (.iconst 0, 1) := by decide +kernel
theorem dX9_told_151 : decode cX9_told 151 = .ok (.ireturn, 1) := by decide +kernel
theorem dX9_told_152 : decode cX9_told 152 = .ok (.aload_n 0, 1) := by decide +kernel
theorem dX9_told_153 : decode cX9_told 153 = .ok (.getfield 7, 3) := by decide +kernel
theorem dX9_told_156 : decode cX9_told 156 = .ok (.iload_n 1, 1) := by decide +kernel
theorem dX9_told_157 : decode cX9_told 157 = .ok (.iaload, 1) := by decide +kernel
theorem dX9_told_158 : decode cX9_told 158 = .ok (.invokestatic 80, 3) := by decide +kernel
theorem dX9_told_161 : decode cX9_told 161 = .ok (.ifCond .eq 7, 3) := by decide +kernel
theorem dX9_told_164 : decode cX9_told 164 = .ok (.iconst 1, 1) := by decide +kernel
theorem dX9_told_165 : decode cX9_told 165 = .ok (.goto 4, 3) := by decide +kernel
theorem dX9_told_168 : decode cX9_told 168 = .ok (.iconst 0, 1) := by decide +kernel
theorem dX9_told_169 : decode cX9_told 169 = .ok (.ireturn, 1) := by decide +kernel
theorem dX9_count_0 : decode cX9_count 0 = .ok (.iload_n 1, 1) := by decide +kernel
theorem dX9_count_1 : decode cX9_count 1 = .ok (.iconst 0, 1) := by decide +kernel
theorem dX9_count_2 : decode cX9_count 2 = .ok (.bipush 7, 2) := by decide +kernel
theorem dX9_count_4 : decode cX9_count 4 = .ok (.invokestatic 44, 3) := by decide +kernel
theorem dX9_count_7 : decode cX9_count 7 = .ok (.ifCond .ne 6, 3) := by decide +kernel
theorem dX9_count_10 : decode cX9_count 10 = .ok (.bipush (-2), 2) := by decide +kernel
theorem dX9_count_12 : decode cX9_count 12 = .ok (.ireturn, 1) := by decide +kernel
theorem dX9_count_13 : decode cX9_count 13 = .ok (.iconst 0, 1) := by decide +kernel
theorem dX9_count_14 : decode cX9_count 14 = .ok (.istore_n 2, 1) := by decide +kernel
theorem dX9_count_15 : decode cX9_count 15 = .ok (.iconst 0, 1) := by decide +kernel
theorem dX9_count_16 : decode cX9_count 16 = .ok (.istore_n 3, 1) := by decide +kernel
theorem dX9_count_17 : decode cX9_count 17 = .ok (.iload_n 3, 1) := by decide +kernel
theorem dX9_count_18 : decode cX9_count 18 = .ok (.aload_n 0, 1) := by decide +kernel
theorem dX9_count_19 : decode cX9_count 19 = .ok (.getfield 41, 3) := by decide +kernel
theorem dX9_count_22 : decode cX9_count 22 = .ok (.if_icmp .ge 29, 3) := by decide +kernel
theorem dX9_count_25 : decode cX9_count 25 = .ok (.iload_n 2, 1) := by decide +kernel
theorem dX9_count_26 : decode cX9_count 26 = .ok (.aload_n 0, 1) := by decide +kernel
theorem dX9_count_27 : decode cX9_count 27 = .ok (.getfield 16, 3) := by decide +kernel
theorem dX9_count_30 : decode cX9_count 30 = .ok (.iload_n 3, 1) := by decide +kernel
theorem dX9_count_31 : decode cX9_count 31 = .ok (.iaload, 1) := by decide +kernel
theorem dX9_count_32 : decode cX9_count 32 = .ok (.iload_n 1, 1) := by decide +kernel
theorem dX9_count_33 : decode cX9_count 33 = .ok (.iconst 1, 1) := by decide +kernel
theorem dX9_count_34 : decode cX9_count 34 = .ok (.isub, 1) := by decide +kernel
theorem dX9_count_35 : decode cX9_count 35 = .ok (.if_icmp .ne 7, 3) := by decide +kernel
theorem dX9_count_38 : decode cX9_count 38 = .ok (.iconst 1, 1) := by decide +kernel
theorem dX9_count_39 : decode cX9_count 39 = .ok (.goto 4, 3) := by decide +kernel
theorem dX9_count_42 : decode cX9_count 42 = .ok (.iconst 0, 1) := by decide +kernel
theorem dX9_count_43 : decode cX9_count 43 = .ok (.iadd, 1) := by decide +kernel
theorem dX9_count_44 : decode cX9_count 44 = .ok (.istore_n 2, 1) := by decide +kernel
theorem dX9_count_45 : decode cX9_count 45 = .ok (.iinc 3 1, 3) := by decide +kernel
theorem dX9_count_48 : decode cX9_count 48 = .ok (.goto (-31), 3) := by decide +kernel
theorem dX9_count_51 : decode cX9_count 51 = .ok (.iload_n 1, 1) := by decide +kernel
theorem dX9_count_52 : decode cX9_count 52 = .ok (.ifCond .ne 10, 3) := by decide +kernel
theorem dX9_count_55 : decode cX9_count 55 = .ok (.aload_n 0, 1) := by decide +kernel
theorem dX9_count_56 : decode cX9_count 56 = .ok (.getfield 41, 3) := by decide +kernel
theorem dX9_count_59 : decode cX9_count 59 = .ok (.goto 30, 3) := by decide +kernel
theorem dX9_count_62 : decode cX9_count 62 = .ok (.iload_n 1, 1) := by decide +kernel
theorem dX9_count_63 : decode cX9_count 63 = .ok (.bipush 6, 2) := by decide +kernel
theorem dX9_count_65 : decode cX9_count 65 = .ok (.if_icmp .ne 10, 3) := by decide +kernel
theorem dX9_count_68 : decode cX9_count 68 = .ok (.aload_n 0, 1) := by decide +kernel
theorem dX9_count_69 : decode cX9_count 69 = .ok (.getfield 100, 3) := by decide +kernel
theorem dX9_count_72 : decode cX9_count 72 = .ok (.goto 17, 3) := by decide +kernel
theorem dX9_count_75 : decode cX9_count 75 = .ok (.iload_n 1, 1) := by decide +kernel
theorem dX9_count_76 : decode cX9_count 76 = .ok (.bipush 7, 2) := by decide +kernel
theorem dX9_count_78 : decode cX9_count 78 = .ok (.if_icmp .ne 10, 3) := by decide +kernel
theorem dX9_count_81 : decode cX9_count 81 = .ok (.aload_n 0, 1) := by decide +kernel
theorem dX9_count_82 : decode cX9_count 82 = .ok (.getfield 103, 3) := by decide +kernel
theorem dX9_count_85 : decode cX9_count 85 = .ok (.goto 4, 3) := by decide +kernel
theorem dX9_count_88 : decode cX9_count 88 = .ok (.iload_n 2, 1) := by decide +kernel
theorem dX9_count_89 : decode cX9_count 89 = .ok (.ireturn, 1) := by decide +kernel

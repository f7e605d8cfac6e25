/-! DECODE ROWS of MoveRowsModel -/
theorem d_m_init_0 : decode b_m_init 0 = .ok (.aload_n 0, 1) := by decide +kernel
theorem d_m_init_1 : decode b_m_init 1 = .ok (.invokespecial 1, 3) := by decide +kernel
theorem d_m_init_4 : decode b_m_init 4 = .ok (.aload_n 0, 1) := by decide +kernel
theorem d_m_init_5 : decode b_m_init 5 = .ok (.bipush 40, 2) := by decide +kernel
theorem d_m_init_7 : decode b_m_init 7 = .ok (.newarray .int, 2) := by decide +kernel
theorem d_m_init_9 : decode b_m_init 9 = .ok (.putfield 7, 3) := by decide +kernel
theorem d_m_init_12 : decode b_m_init 12 = .ok (.aload_n 0, 1) := by decide +kernel
theorem d_m_init_13 : decode b_m_init 13 = .ok (.bipush 40, 2) := by decide +kernel
theorem d_m_init_15 : decode b_m_init 15 = .ok (.newarray .int, 2) := by decide +kernel
theorem d_m_init_17 : decode b_m_init 17 = .ok (.putfield 13, 3) := by decide +kernel
theorem d_m_init_20 : decode b_m_init 20 = .ok (.aload_n 0, 1) := by decide +kernel
theorem d_m_init_21 : decode b_m_init 21 = .ok (.bipush 40, 2) := by decide +kernel
theorem d_m_init_23 : decode b_m_init 23 = .ok (.newarray .int, 2) := by decide +kernel
theorem d_m_init_25 : decode b_m_init 25 = .ok (.putfield 16, 3) := by decide +kernel
theorem d_m_init_28 : decode b_m_init 28 = .ok (.aload_n 0, 1) := by decide +kernel
theorem d_m_init_29 : decode b_m_init 29 = .ok (.bipush 40, 2) := by decide +kernel
theorem d_m_init_31 : decode b_m_init 31 = .ok (.newarray .int, 2) := by decide +kernel
theorem d_m_init_33 : decode b_m_init 33 = .ok (.putfield 19, 3) := by decide +kernel
theorem d_m_init_36 : decode b_m_init 36 = .ok (.aload_n 0, 1) := by decide +kernel
theorem d_m_init_37 : decode b_m_init 37 = .ok (.bipush 40, 2) := by decide +kernel
theorem d_m_init_39 : decode b_m_init 39 = .ok (.newarray .int, 2) := by decide +kernel
theorem d_m_init_41 : decode b_m_init 41 = .ok (.putfield 22, 3) := by decide +kernel
theorem d_m_init_44 : decode b_m_init 44 = .ok (.aload_n 0, 1) := by decide +kernel
theorem d_m_init_45 : decode b_m_init 45 = .ok (.sipush 320, 3) := by decide +kernel
theorem d_m_init_48 : decode b_m_init 48 = .ok (.newarray .int, 2) := by decide +kernel
theorem d_m_init_50 : decode b_m_init 50 = .ok (.putfield 25, 3) := by decide +kernel
theorem d_m_init_53 : decode b_m_init 53 = .ok (.aload_n 0, 1) := by decide +kernel
theorem d_m_init_54 : decode b_m_init 54 = .ok (.sipush 320, 3) := by decide +kernel
theorem d_m_init_57 : decode b_m_init 57 = .ok (.newarray .int, 2) := by decide +kernel
theorem d_m_init_59 : decode b_m_init 59 = .ok (.putfield 28, 3) := by decide +kernel
theorem d_m_init_62 : decode b_m_init 62 = .ok (.aload_n 0, 1) := by decide +kernel
theorem d_m_init_63 : decode b_m_init 63 = .ok (.sipush 320, 3) := by decide +kernel
theorem d_m_init_66 : decode b_m_init 66 = .ok (.newarray .int, 2) := by decide +kernel
theorem d_m_init_68 : decode b_m_init 68 = .ok (.putfield 31, 3) := by decide +kernel
theorem d_m_init_71 : decode b_m_init 71 = .ok (.aload_n 0, 1) := by decide +kernel
theorem d_m_init_72 : decode b_m_init 72 = .ok (.bipush 40, 2) := by decide +kernel
theorem d_m_init_74 : decode b_m_init 74 = .ok (.newarray .int, 2) := by decide +kernel
theorem d_m_init_76 : decode b_m_init 76 = .ok (.putfield 34, 3) := by decide +kernel
theorem d_m_init_79 : decode b_m_init 79 = .ok (.aload_n 0, 1) := by decide +kernel
theorem d_m_init_80 : decode b_m_init 80 = .ok (.iconst (-1), 1) := by decide +kernel
theorem d_m_init_81 : decode b_m_init 81 = .ok (.putfield 37, 3) := by decide +kernel
theorem d_m_init_84 : decode b_m_init 84 = .ok (.aload_n 0, 1) := by decide +kernel
theorem d_m_init_85 : decode b_m_init 85 = .ok (.bipush 6, 2) := by decide +kernel
theorem d_m_init_87 : decode b_m_init 87 = .ok (.newarray .int, 2) := by decide +kernel
theorem d_m_init_89 : decode b_m_init 89 = .ok (.dup, 1) := by decide +kernel
theorem d_m_init_90 : decode b_m_init 90 = .ok (.iconst 0, 1) := by decide +kernel
theorem d_m_init_91 : decode b_m_init 91 = .ok (.iconst 1, 1) := by decide +kernel
theorem d_m_init_92 : decode b_m_init 92 = .ok (.iastore, 1) := by decide +kernel
theorem d_m_init_93 : decode b_m_init 93 = .ok (.dup, 1) := by decide +kernel
theorem d_m_init_94 : decode b_m_init 94 = .ok (.iconst 1, 1) := by decide +kernel
theorem d_m_init_95 : decode b_m_init 95 = .ok (.iconst 1, 1) := by decide +kernel
theorem d_m_init_96 : decode b_m_init 96 = .ok (.iastore, 1) := by decide +kernel
theorem d_m_init_97 : decode b_m_init 97 = .ok (.dup, 1) := by decide +kernel
theorem d_m_init_98 : decode b_m_init 98 = .ok (.iconst 2, 1) := by decide +kernel
theorem d_m_init_99 : decode b_m_init 99 = .ok (.iconst 1, 1) := by decide +kernel
theorem d_m_init_100 : decode b_m_init 100 = .ok (.iastore, 1) := by decide +kernel
theorem d_m_init_101 : decode b_m_init 101 = .ok (.dup, 1) := by decide +kernel
theorem d_m_init_102 : decode b_m_init 102 = .ok (.iconst 3, 1) := by decide +kernel
theorem d_m_init_103 : decode b_m_init 103 = .ok (.iconst 1, 1) := by decide +kernel
theorem d_m_init_104 : decode b_m_init 104 = .ok (.iastore, 1) := by decide +kernel
theorem d_m_init_105 : decode b_m_init 105 = .ok (.dup, 1) := by decide +kernel
theorem d_m_init_106 : decode b_m_init 106 = .ok (.iconst 4, 1) := by decide +kernel
theorem d_m_init_107 : decode b_m_init 107 = .ok (.iconst 1, 1) := by decide +kernel
theorem d_m_init_108 : decode b_m_init 108 = .ok (.iastore, 1) := by decide +kernel
theorem d_m_init_109 : decode b_m_init 109 = .ok (.dup, 1) := by decide +kernel
theorem d_m_init_110 : decode b_m_init 110 = .ok (.iconst 5, 1) := by decide +kernel
theorem d_m_init_111 : decode b_m_init 111 = .ok (.iconst 1, 1) := by decide +kernel
theorem d_m_init_112 : decode b_m_init 112 = .ok (.iastore, 1) := by decide +kernel
theorem d_m_init_113 : decode b_m_init 113 = .ok (.putfield 41, 3) := by decide +kernel
theorem d_m_init_116 : decode b_m_init 116 = .ok (.return_, 1) := by decide +kernel
theorem d_m_thrown_0 : decode b_m_thrown 0 = .ok (.aload_n 0, 1) := by decide +kernel
theorem d_m_thrown_1 : decode b_m_thrown 1 = .ok (.getfield 44, 3) := by decide +kernel
theorem d_m_thrown_4 : decode b_m_thrown 4 = .ok (.ireturn, 1) := by decide +kernel
theorem d_m_in_0 : decode b_m_in 0 = .ok (.iload_n 0, 1) := by decide +kernel
theorem d_m_in_1 : decode b_m_in 1 = .ok (.iload_n 1, 1) := by decide +kernel
theorem d_m_in_2 : decode b_m_in 2 = .ok (.if_icmp .lt 12, 3) := by decide +kernel
theorem d_m_in_5 : decode b_m_in 5 = .ok (.iload_n 0, 1) := by decide +kernel
theorem d_m_in_6 : decode b_m_in 6 = .ok (.iload_n 2, 1) := by decide +kernel
theorem d_m_in_7 : decode b_m_in 7 = .ok (.if_icmp .gt 7, 3) := by decide +kernel
theorem d_m_in_10 : decode b_m_in 10 = .ok (.iconst 1, 1) := by decide +kernel
theorem d_m_in_11 : decode b_m_in 11 = .ok (.goto 4, 3) := by decide +kernel
theorem d_m_in_14 : decode b_m_in 14 = .ok (.iconst 0, 1) := by decide +kernel
theorem d_m_in_15 : decode b_m_in 15 = .ok (.ireturn, 1) := by decide +kernel
theorem d_m_isBatch_0 : decode b_m_isBatch 0 = .ok (.iload_n 1, 1) := by decide +kernel
theorem d_m_isBatch_1 : decode b_m_isBatch 1 = .ok (.iconst 0, 1) := by decide +kernel
theorem d_m_isBatch_2 : decode b_m_isBatch 2 = .ok (.aload_n 0, 1) := by decide +kernel
theorem d_m_isBatch_3 : decode b_m_isBatch 3 = .ok (.getfield 47, 3) := by decide +kernel
theorem d_m_isBatch_6 : decode b_m_isBatch 6 = .ok (.iconst 1, 1) := by decide +kernel
theorem d_m_isBatch_7 : decode b_m_isBatch 7 = .ok (.isub, 1) := by decide +kernel
theorem d_m_isBatch_8 : decode b_m_isBatch 8 = .ok (.invokestatic 50, 3) := by decide +kernel
theorem d_m_isBatch_11 : decode b_m_isBatch 11 = .ok (.ireturn, 1) := by decide +kernel
theorem d_m_batch_0 : decode b_m_batch 0 = .ok (.aload_n 0, 1) := by decide +kernel
theorem d_m_batch_1 : decode b_m_batch 1 = .ok (.aload_n 0, 1) := by decide +kernel
theorem d_m_batch_2 : decode b_m_batch 2 = .ok (.getfield 47, 3) := by decide +kernel
theorem d_m_batch_5 : decode b_m_batch 5 = .ok (.bipush 40, 2) := by decide +kernel
theorem d_m_batch_7 : decode b_m_batch 7 = .ok (.if_icmp .ne 7, 3) := by decide +kernel
theorem d_m_batch_10 : decode b_m_batch 10 = .ok (.iconst 1, 1) := by decide +kernel
theorem d_m_batch_11 : decode b_m_batch 11 = .ok (.goto 4, 3) := by decide +kernel
theorem d_m_batch_14 : decode b_m_batch 14 = .ok (.iconst 0, 1) := by decide +kernel
theorem d_m_batch_15 : decode b_m_batch 15 = .ok (.putfield 44, 3) := by decide +kernel
theorem d_m_batch_18 : decode b_m_batch 18 = .ok (.aload_n 0, 1) := by decide +kernel
theorem d_m_batch_19 : decode b_m_batch 19 = .ok (.getfield 44, 3) := by decide +kernel
theorem d_m_batch_22 : decode b_m_batch 22 = .ok (.ifCond .le 7, 3) := by decide +kernel
theorem d_m_batch_25 : decode b_m_batch 25 = .ok (.iconst 0, 1) := by decide +kernel
theorem d_m_batch_26 : decode b_m_batch 26 = .ok (.goto 7, 3) := by decide +kernel
theorem d_m_batch_29 : decode b_m_batch 29 = .ok (.aload_n 0, 1) := by decide +kernel
theorem d_m_batch_30 : decode b_m_batch 30 = .ok (.invokevirtual 54, 3) := by decide +kernel
theorem d_m_batch_33 : decode b_m_batch 33 = .ok (.ireturn, 1) := by decide +kernel
theorem d_m_open_0 : decode b_m_open 0 = .ok (.aload_n 0, 1) := by decide +kernel
theorem d_m_open_1 : decode b_m_open 1 = .ok (.getfield 47, 3) := by decide +kernel
theorem d_m_open_4 : decode b_m_open 4 = .ok (.istore_n 1, 1) := by decide +kernel
theorem d_m_open_5 : decode b_m_open 5 = .ok (.aload_n 0, 1) := by decide +kernel
theorem d_m_open_6 : decode b_m_open 6 = .ok (.getfield 7, 3) := by decide +kernel
theorem d_m_open_9 : decode b_m_open 9 = .ok (.iload_n 1, 1) := by decide +kernel
theorem d_m_open_10 : decode b_m_open 10 = .ok (.iconst 0, 1) := by decide +kernel
theorem d_m_open_11 : decode b_m_open 11 = .ok (.iastore, 1) := by decide +kernel
theorem d_m_open_12 : decode b_m_open 12 = .ok (.aload_n 0, 1) := by decide +kernel
theorem d_m_open_13 : decode b_m_open 13 = .ok (.getfield 13, 3) := by decide +kernel
theorem d_m_open_16 : decode b_m_open 16 = .ok (.iload_n 1, 1) := by decide +kernel
theorem d_m_open_17 : decode b_m_open 17 = .ok (.iconst 0, 1) := by decide +kernel
theorem d_m_open_18 : decode b_m_open 18 = .ok (.iastore, 1) := by decide +kernel
theorem d_m_open_19 : decode b_m_open 19 = .ok (.aload_n 0, 1) := by decide +kernel
theorem d_m_open_20 : decode b_m_open 20 = .ok (.getfield 16, 3) := by decide +kernel
theorem d_m_open_23 : decode b_m_open 23 = .ok (.iload_n 1, 1) := by decide +kernel
theorem d_m_open_24 : decode b_m_open 24 = .ok (.iconst (-1), 1) := by decide +kernel
theorem d_m_open_25 : decode b_m_open 25 = .ok (.iastore, 1) := by decide +kernel
theorem d_m_open_26 : decode b_m_open 26 = .ok (.aload_n 0, 1) := by decide +kernel
theorem d_m_open_27 : decode b_m_open 27 = .ok (.getfield 19, 3) := by decide +kernel
theorem d_m_open_30 : decode b_m_open 30 = .ok (.iload_n 1, 1) := by decide +kernel
theorem d_m_open_31 : decode b_m_open 31 = .ok (.iconst (-1), 1) := by decide +kernel
theorem d_m_open_32 : decode b_m_open 32 = .ok (.iastore, 1) := by decide +kernel
theorem d_m_open_33 : decode b_m_open 33 = .ok (.aload_n 0, 1) := by decide +kernel
theorem d_m_open_34 : decode b_m_open 34 = .ok (.getfield 22, 3) := by decide +kernel
theorem d_m_open_37 : decode b_m_open 37 = .ok (.iload_n 1, 1) := by decide +kernel
theorem d_m_open_38 : decode b_m_open 38 = .ok (.iconst (-1), 1) := by decide +kernel
theorem d_m_open_39 : decode b_m_open 39 = .ok (.iastore, 1) := by decide +kernel
theorem d_m_open_40 : decode b_m_open 40 = .ok (.aload_n 0, 1) := by decide +kernel
theorem d_m_open_41 : decode b_m_open 41 = .ok (.dup, 1) := by decide +kernel
theorem d_m_open_42 : decode b_m_open 42 = .ok (.getfield 47, 3) := by decide +kernel
theorem d_m_open_45 : decode b_m_open 45 = .ok (.iconst 1, 1) := by decide +kernel
theorem d_m_open_46 : decode b_m_open 46 = .ok (.iadd, 1) := by decide +kernel
theorem d_m_open_47 : decode b_m_open 47 = .ok (.putfield 47, 3) := by decide +kernel
theorem d_m_open_50 : decode b_m_open 50 = .ok (.iload_n 1, 1) := by decide +kernel
theorem d_m_open_51 : decode b_m_open 51 = .ok (.ireturn, 1) := by decide +kernel
theorem d_m_entry_0 : decode b_m_entry 0 = .ok (.aload_n 0, 1) := by decide +kernel
theorem d_m_entry_1 : decode b_m_entry 1 = .ok (.aload_n 0, 1) := by decide +kernel
theorem d_m_entry_2 : decode b_m_entry 2 = .ok (.iload_n 1, 1) := by decide +kernel
theorem d_m_entry_3 : decode b_m_entry 3 = .ok (.invokevirtual 58, 3) := by decide +kernel
theorem d_m_entry_6 : decode b_m_entry 6 = .ok (.ifCond .ne 7, 3) := by decide +kernel
theorem d_m_entry_9 : decode b_m_entry 9 = .ok (.iconst 1, 1) := by decide +kernel
theorem d_m_entry_10 : decode b_m_entry 10 = .ok (.goto 45, 3) := by decide +kernel
theorem d_m_entry_13 : decode b_m_entry 13 = .ok (.iload_n 2, 1) := by decide +kernel
theorem d_m_entry_14 : decode b_m_entry 14 = .ok (.iconst 0, 1) := by decide +kernel
theorem d_m_entry_15 : decode b_m_entry 15 = .ok (.bipush 15, 2) := by decide +kernel
theorem d_m_entry_17 : decode b_m_entry 17 = .ok (.invokestatic 50, 3) := by decide +kernel
theorem d_m_entry_20 : decode b_m_entry 20 = .ok (.ifCond .eq 30, 3) := by decide +kernel
theorem d_m_entry_23 : decode b_m_entry 23 = .ok (.iload_n 3, 1) := by decide +kernel
theorem d_m_entry_24 : decode b_m_entry 24 = .ok (.iconst 0, 1) := by decide +kernel
theorem d_m_entry_25 : decode b_m_entry 25 = .ok (.bipush 7, 2) := by decide +kernel
theorem d_m_entry_27 : decode b_m_entry 27 = .ok (.invokestatic 50, 3) := by decide +kernel
theorem d_m_entry_30 : decode b_m_entry 30 = .ok (.ifCond .eq 20, 3) := by decide +kernel
theorem d_m_entry_33 : decode b_m_entry 33 = .ok (.iload 4, 2) := by decide +kernel
theorem d_m_entry_35 : decode b_m_entry 35 = .ok (.ifCond .eq 15, 3) := by decide +kernel
theorem d_m_entry_38 : decode b_m_entry 38 = .ok (.iload 4, 2) := by decide +kernel
theorem d_m_entry_40 : decode b_m_entry 40 = .ok (.ldc 62, 2) := by decide +kernel
theorem d_m_entry_42 : decode b_m_entry 42 = .ok (.ldc 63, 2) := by decide +kernel
theorem d_m_entry_44 : decode b_m_entry 44 = .ok (.invokestatic 50, 3) := by decide +kernel
theorem d_m_entry_47 : decode b_m_entry 47 = .ok (.ifCond .ne 7, 3) := by decide +kernel
theorem d_m_entry_50 : decode b_m_entry 50 = .ok (.iconst 2, 1) := by decide +kernel
theorem d_m_entry_51 : decode b_m_entry 51 = .ok (.goto 4, 3) := by decide +kernel
theorem d_m_entry_54 : decode b_m_entry 54 = .ok (.iconst 0, 1) := by decide +kernel
theorem d_m_entry_55 : decode b_m_entry 55 = .ok (.putfield 44, 3) := by decide +kernel
theorem d_m_entry_58 : decode b_m_entry 58 = .ok (.aload_n 0, 1) := by decide +kernel
theorem d_m_entry_59 : decode b_m_entry 59 = .ok (.getfield 44, 3) := by decide +kernel
theorem d_m_entry_62 : decode b_m_entry 62 = .ok (.ifCond .ne 36, 3) := by decide +kernel
theorem d_m_entry_65 : decode b_m_entry 65 = .ok (.aload_n 0, 1) := by decide +kernel
theorem d_m_entry_66 : decode b_m_entry 66 = .ok (.aload_n 0, 1) := by decide +kernel
theorem d_m_entry_67 : decode b_m_entry 67 = .ok (.getfield 7, 3) := by decide +kernel
theorem d_m_entry_70 : decode b_m_entry 70 = .ok (.iload_n 1, 1) := by decide +kernel
theorem d_m_entry_71 : decode b_m_entry 71 = .ok (.iaload, 1) := by decide +kernel
theorem d_m_entry_72 : decode b_m_entry 72 = .ok (.ifCond .eq 7, 3) := by decide +kernel
theorem d_m_entry_75 : decode b_m_entry 75 = .ok (.iconst 3, 1) := by decide +kernel
theorem d_m_entry_76 : decode b_m_entry 76 = .ok (.goto 19, 3) := by decide +kernel
theorem d_m_entry_79 : decode b_m_entry 79 = .ok (.aload_n 0, 1) := by decide +kernel
theorem d_m_entry_80 : decode b_m_entry 80 = .ok (.getfield 13, 3) := by decide +kernel
theorem d_m_entry_83 : decode b_m_entry 83 = .ok (.iload_n 1, 1) := by decide +kernel
theorem d_m_entry_84 : decode b_m_entry 84 = .ok (.iaload, 1) := by decide +kernel
theorem d_m_entry_85 : decode b_m_entry 85 = .ok (.bipush 8, 2) := by decide +kernel
theorem d_m_entry_87 : decode b_m_entry 87 = .ok (.if_icmp .ne 7, 3) := by decide +kernel
theorem d_m_entry_90 : decode b_m_entry 90 = .ok (.iconst 4, 1) := by decide +kernel
theorem d_m_entry_91 : decode b_m_entry 91 = .ok (.goto 4, 3) := by decide +kernel
theorem d_m_entry_94 : decode b_m_entry 94 = .ok (.iconst 0, 1) := by decide +kernel
theorem d_m_entry_95 : decode b_m_entry 95 = .ok (.putfield 44, 3) := by decide +kernel
theorem d_m_entry_98 : decode b_m_entry 98 = .ok (.aload_n 0, 1) := by decide +kernel
theorem d_m_entry_99 : decode b_m_entry 99 = .ok (.getfield 44, 3) := by decide +kernel
theorem d_m_entry_102 : decode b_m_entry 102 = .ok (.ifCond .le 5, 3) := by decide +kernel
theorem d_m_entry_105 : decode b_m_entry 105 = .ok (.iconst 0, 1) := by decide +kernel
theorem d_m_entry_106 : decode b_m_entry 106 = .ok (.ireturn, 1) := by decide +kernel
theorem d_m_entry_107 : decode b_m_entry 107 = .ok (.aload_n 0, 1) := by decide +kernel
theorem d_m_entry_108 : decode b_m_entry 108 = .ok (.iload_n 1, 1) := by decide +kernel
theorem d_m_entry_109 : decode b_m_entry 109 = .ok (.iload_n 2, 1) := by decide +kernel
theorem d_m_entry_110 : decode b_m_entry 110 = .ok (.iload_n 3, 1) := by decide +kernel
theorem d_m_entry_111 : decode b_m_entry 111 = .ok (.iload 4, 2) := by decide +kernel
theorem d_m_entry_113 : decode b_m_entry 113 = .ok (.invokevirtual 64, 3) := by decide +kernel
theorem d_m_entry_116 : decode b_m_entry 116 = .ok (.aload_n 0, 1) := by decide +kernel
theorem d_m_entry_117 : decode b_m_entry 117 = .ok (.getfield 13, 3) := by decide +kernel
theorem d_m_entry_120 : decode b_m_entry 120 = .ok (.iload_n 1, 1) := by decide +kernel
theorem d_m_entry_121 : decode b_m_entry 121 = .ok (.iaload, 1) := by decide +kernel
theorem d_m_entry_122 : decode b_m_entry 122 = .ok (.ireturn, 1) := by decide +kernel
theorem d_m_put_0 : decode b_m_put 0 = .ok (.bipush 8, 2) := by decide +kernel
theorem d_m_put_2 : decode b_m_put 2 = .ok (.iload_n 1, 1) := by decide +kernel
theorem d_m_put_3 : decode b_m_put 3 = .ok (.imul, 1) := by decide +kernel
theorem d_m_put_4 : decode b_m_put 4 = .ok (.aload_n 0, 1) := by decide +kernel
theorem d_m_put_5 : decode b_m_put 5 = .ok (.getfield 13, 3) := by decide +kernel
theorem d_m_put_8 : decode b_m_put 8 = .ok (.iload_n 1, 1) := by decide +kernel
theorem d_m_put_9 : decode b_m_put 9 = .ok (.iaload, 1) := by decide +kernel
theorem d_m_put_10 : decode b_m_put 10 = .ok (.iadd, 1) := by decide +kernel
theorem d_m_put_11 : decode b_m_put 11 = .ok (.istore 5, 2) := by decide +kernel
theorem d_m_put_13 : decode b_m_put 13 = .ok (.aload_n 0, 1) := by decide +kernel
theorem d_m_put_14 : decode b_m_put 14 = .ok (.getfield 25, 3) := by decide +kernel
theorem d_m_put_17 : decode b_m_put 17 = .ok (.iload 5, 2) := by decide +kernel
theorem d_m_put_19 : decode b_m_put 19 = .ok (.iload_n 2, 1) := by decide +kernel
theorem d_m_put_20 : decode b_m_put 20 = .ok (.iastore, 1) := by decide +kernel
theorem d_m_put_21 : decode b_m_put 21 = .ok (.aload_n 0, 1) := by decide +kernel
theorem d_m_put_22 : decode b_m_put 22 = .ok (.getfield 28, 3) := by decide +kernel
theorem d_m_put_25 : decode b_m_put 25 = .ok (.iload 5, 2) := by decide +kernel
theorem d_m_put_27 : decode b_m_put 27 = .ok (.iload_n 3, 1) := by decide +kernel
theorem d_m_put_28 : decode b_m_put 28 = .ok (.iastore, 1) := by decide +kernel
theorem d_m_put_29 : decode b_m_put 29 = .ok (.aload_n 0, 1) := by decide +kernel
theorem d_m_put_30 : decode b_m_put 30 = .ok (.getfield 31, 3) := by decide +kernel
theorem d_m_put_33 : decode b_m_put 33 = .ok (.iload 5, 2) := by decide +kernel
theorem d_m_put_35 : decode b_m_put 35 = .ok (.iload 4, 2) := by decide +kernel
theorem d_m_put_37 : decode b_m_put 37 = .ok (.iastore, 1) := by decide +kernel
theorem d_m_put_38 : decode b_m_put 38 = .ok (.aload_n 0, 1) := by decide +kernel
theorem d_m_put_39 : decode b_m_put 39 = .ok (.getfield 13, 3) := by decide +kernel
theorem d_m_put_42 : decode b_m_put 42 = .ok (.iload_n 1, 1) := by decide +kernel
theorem d_m_put_43 : decode b_m_put 43 = .ok (.dup2, 1) := by decide +kernel
theorem d_m_put_44 : decode b_m_put 44 = .ok (.iaload, 1) := by decide +kernel
theorem d_m_put_45 : decode b_m_put 45 = .ok (.iconst 1, 1) := by decide +kernel
theorem d_m_put_46 : decode b_m_put 46 = .ok (.iadd, 1) := by decide +kernel
theorem d_m_put_47 : decode b_m_put 47 = .ok (.iastore, 1) := by decide +kernel
theorem d_m_put_48 : decode b_m_put 48 = .ok (.return_, 1) := by decide +kernel
theorem d_m_net_0 : decode b_m_net 0 = .ok (.lconst 0, 1) := by decide +kernel
theorem d_m_net_1 : decode b_m_net 1 = .ok (.lstore 4, 2) := by decide +kernel
theorem d_m_net_3 : decode b_m_net 3 = .ok (.iconst 0, 1) := by decide +kernel
theorem d_m_net_4 : decode b_m_net 4 = .ok (.istore 6, 2) := by decide +kernel
theorem d_m_net_6 : decode b_m_net 6 = .ok (.iload 6, 2) := by decide +kernel
theorem d_m_net_8 : decode b_m_net 8 = .ok (.aload_n 0, 1) := by decide +kernel
theorem d_m_net_9 : decode b_m_net 9 = .ok (.getfield 13, 3) := by decide +kernel
theorem d_m_net_12 : decode b_m_net 12 = .ok (.iload_n 1, 1) := by decide +kernel
theorem d_m_net_13 : decode b_m_net 13 = .ok (.iaload, 1) := by decide +kernel
theorem d_m_net_14 : decode b_m_net 14 = .ok (.if_icmp .ge 58, 3) := by decide +kernel
theorem d_m_net_17 : decode b_m_net 17 = .ok (.bipush 8, 2) := by decide +kernel
theorem d_m_net_19 : decode b_m_net 19 = .ok (.iload_n 1, 1) := by decide +kernel
theorem d_m_net_20 : decode b_m_net 20 = .ok (.imul, 1) := by decide +kernel
theorem d_m_net_21 : decode b_m_net 21 = .ok (.iload 6, 2) := by decide +kernel
theorem d_m_net_23 : decode b_m_net 23 = .ok (.iadd, 1) := by decide +kernel
theorem d_m_net_24 : decode b_m_net 24 = .ok (.istore 7, 2) := by decide +kernel
theorem d_m_net_26 : decode b_m_net 26 = .ok (.iload_n 2, 1) := by decide +kernel
theorem d_m_net_27 : decode b_m_net 27 = .ok (.iconst (-1), 1) := by decide +kernel
theorem d_m_net_28 : decode b_m_net 28 = .ok (.if_icmp .eq 14, 3) := by decide +kernel
theorem d_m_net_31 : decode b_m_net 31 = .ok (.aload_n 0, 1) := by decide +kernel
theorem d_m_net_32 : decode b_m_net 32 = .ok (.getfield 25, 3) := by decide +kernel
theorem d_m_net_35 : decode b_m_net 35 = .ok (.iload 7, 2) := by decide +kernel
theorem d_m_net_37 : decode b_m_net 37 = .ok (.iaload, 1) := by decide +kernel
theorem d_m_net_38 : decode b_m_net 38 = .ok (.iload_n 2, 1) := by decide +kernel
theorem d_m_net_39 : decode b_m_net 39 = .ok (.if_icmp .ne 27, 3) := by decide +kernel
theorem d_m_net_42 : decode b_m_net 42 = .ok (.aload_n 0, 1) := by decide +kernel
theorem d_m_net_43 : decode b_m_net 43 = .ok (.getfield 28, 3) := by decide +kernel
theorem d_m_net_46 : decode b_m_net 46 = .ok (.iload 7, 2) := by decide +kernel
theorem d_m_net_48 : decode b_m_net 48 = .ok (.iaload, 1) := by decide +kernel
theorem d_m_net_49 : decode b_m_net 49 = .ok (.iload_n 3, 1) := by decide +kernel
theorem d_m_net_50 : decode b_m_net 50 = .ok (.if_icmp .ne 16, 3) := by decide +kernel
theorem d_m_net_53 : decode b_m_net 53 = .ok (.lload 4, 2) := by decide +kernel
theorem d_m_net_55 : decode b_m_net 55 = .ok (.aload_n 0, 1) := by decide +kernel
theorem d_m_net_56 : decode b_m_net 56 = .ok (.getfield 31, 3) := by decide +kernel
theorem d_m_net_59 : decode b_m_net 59 = .ok (.iload 7, 2) := by decide +kernel
theorem d_m_net_61 : decode b_m_net 61 = .ok (.iaload, 1) := by decide +kernel
theorem d_m_net_62 : decode b_m_net 62 = .ok (.i2l, 1) := by decide +kernel
theorem d_m_net_63 : decode b_m_net 63 = .ok (.ladd, 1) := by decide +kernel
theorem d_m_net_64 : decode b_m_net 64 = .ok (.lstore 4, 2) := by decide +kernel
theorem d_m_net_66 : decode b_m_net 66 = .ok (.iinc 6 1, 3) := by decide +kernel
theorem d_m_net_69 : decode b_m_net 69 = .ok (.goto (-63), 3) := by decide +kernel
theorem d_m_net_72 : decode b_m_net 72 = .ok (.lload 4, 2) := by decide +kernel
theorem d_m_net_74 : decode b_m_net 74 = .ok (.lreturn, 1) := by decide +kernel
theorem d_m_isSound_0 : decode b_m_isSound 0 = .ok (.aload_n 0, 1) := by decide +kernel
theorem d_m_isSound_1 : decode b_m_isSound 1 = .ok (.getfield 13, 3) := by decide +kernel
theorem d_m_isSound_4 : decode b_m_isSound 4 = .ok (.iload_n 1, 1) := by decide +kernel
theorem d_m_isSound_5 : decode b_m_isSound 5 = .ok (.iaload, 1) := by decide +kernel
theorem d_m_isSound_6 : decode b_m_isSound 6 = .ok (.ifCond .le 7, 3) := by decide +kernel
theorem d_m_isSound_9 : decode b_m_isSound 9 = .ok (.iconst 1, 1) := by decide +kernel
theorem d_m_isSound_10 : decode b_m_isSound 10 = .ok (.goto 4, 3) := by decide +kernel
theorem d_m_isSound_13 : decode b_m_isSound 13 = .ok (.iconst 0, 1) := by decide +kernel
theorem d_m_isSound_14 : decode b_m_isSound 14 = .ok (.istore_n 2, 1) := by decide +kernel
theorem d_m_isSound_15 : decode b_m_isSound 15 = .ok (.iconst 0, 1) := by decide +kernel
theorem d_m_isSound_16 : decode b_m_isSound 16 = .ok (.istore_n 3, 1) := by decide +kernel
theorem d_m_isSound_17 : decode b_m_isSound 17 = .ok (.iload_n 3, 1) := by decide +kernel
theorem d_m_isSound_18 : decode b_m_isSound 18 = .ok (.bipush 8, 2) := by decide +kernel
theorem d_m_isSound_20 : decode b_m_isSound 20 = .ok (.if_icmp .ge 31, 3) := by decide +kernel
theorem d_m_isSound_23 : decode b_m_isSound 23 = .ok (.iload_n 2, 1) := by decide +kernel
theorem d_m_isSound_24 : decode b_m_isSound 24 = .ok (.ifCond .eq 19, 3) := by decide +kernel
theorem d_m_isSound_27 : decode b_m_isSound 27 = .ok (.aload_n 0, 1) := by decide +kernel
theorem d_m_isSound_28 : decode b_m_isSound 28 = .ok (.iload_n 1, 1) := by decide +kernel
theorem d_m_isSound_29 : decode b_m_isSound 29 = .ok (.iconst (-1), 1) := by decide +kernel
theorem d_m_isSound_30 : decode b_m_isSound 30 = .ok (.iload_n 3, 1) := by decide +kernel
theorem d_m_isSound_31 : decode b_m_isSound 31 = .ok (.invokevirtual 68, 3) := by decide +kernel
theorem d_m_isSound_34 : decode b_m_isSound 34 = .ok (.lconst 0, 1) := by decide +kernel
theorem d_m_isSound_35 : decode b_m_isSound 35 = .ok (.lcmp, 1) := by decide +kernel
theorem d_m_isSound_36 : decode b_m_isSound 36 = .ok (.ifCond .ne 7, 3) := by decide +kernel
theorem d_m_isSound_39 : decode b_m_isSound 39 = .ok (.iconst 1, 1) := by decide +kernel
theorem d_m_isSound_40 : decode b_m_isSound 40 = .ok (.goto 4, 3) := by decide +kernel
theorem d_m_isSound_43 : decode b_m_isSound 43 = .ok (.iconst 0, 1) := by decide +kernel
theorem d_m_isSound_44 : decode b_m_isSound 44 = .ok (.istore_n 2, 1) := by decide +kernel
theorem d_m_isSound_45 : decode b_m_isSound 45 = .ok (.iinc 3 1, 3) := by decide +kernel
theorem d_m_isSound_48 : decode b_m_isSound 48 = .ok (.goto (-31), 3) := by decide +kernel
theorem d_m_isSound_51 : decode b_m_isSound 51 = .ok (.iload_n 2, 1) := by decide +kernel
theorem d_m_isSound_52 : decode b_m_isSound 52 = .ok (.ireturn, 1) := by decide +kernel
theorem d_m_stockAt_0 : decode b_m_stockAt 0 = .ok (.lconst 0, 1) := by decide +kernel
theorem d_m_stockAt_1 : decode b_m_stockAt 1 = .ok (.lstore 4, 2) := by decide +kernel
theorem d_m_stockAt_3 : decode b_m_stockAt 3 = .ok (.iconst 0, 1) := by decide +kernel
theorem d_m_stockAt_4 : decode b_m_stockAt 4 = .ok (.istore 6, 2) := by decide +kernel
theorem d_m_stockAt_6 : decode b_m_stockAt 6 = .ok (.iload 6, 2) := by decide +kernel
theorem d_m_stockAt_8 : decode b_m_stockAt 8 = .ok (.aload_n 0, 1) := by decide +kernel
theorem d_m_stockAt_9 : decode b_m_stockAt 9 = .ok (.getfield 72, 3) := by decide +kernel
theorem d_m_stockAt_12 : decode b_m_stockAt 12 = .ok (.if_icmp .ge 43, 3) := by decide +kernel
theorem d_m_stockAt_15 : decode b_m_stockAt 15 = .ok (.aload_n 0, 1) := by decide +kernel
theorem d_m_stockAt_16 : decode b_m_stockAt 16 = .ok (.getfield 16, 3) := by decide +kernel
theorem d_m_stockAt_19 : decode b_m_stockAt 19 = .ok (.aload_n 0, 1) := by decide +kernel
theorem d_m_stockAt_20 : decode b_m_stockAt 20 = .ok (.getfield 34, 3) := by decide +kernel
theorem d_m_stockAt_23 : decode b_m_stockAt 23 = .ok (.iload 6, 2) := by decide +kernel
theorem d_m_stockAt_25 : decode b_m_stockAt 25 = .ok (.iaload, 1) := by decide +kernel
theorem d_m_stockAt_26 : decode b_m_stockAt 26 = .ok (.iaload, 1) := by decide +kernel
theorem d_m_stockAt_27 : decode b_m_stockAt 27 = .ok (.iload_n 3, 1) := by decide +kernel
theorem d_m_stockAt_28 : decode b_m_stockAt 28 = .ok (.if_icmp .gt 21, 3) := by decide +kernel
theorem d_m_stockAt_31 : decode b_m_stockAt 31 = .ok (.lload 4, 2) := by decide +kernel
theorem d_m_stockAt_33 : decode b_m_stockAt 33 = .ok (.aload_n 0, 1) := by decide +kernel
theorem d_m_stockAt_34 : decode b_m_stockAt 34 = .ok (.aload_n 0, 1) := by decide +kernel
theorem d_m_stockAt_35 : decode b_m_stockAt 35 = .ok (.getfield 34, 3) := by decide +kernel
theorem d_m_stockAt_38 : decode b_m_stockAt 38 = .ok (.iload 6, 2) := by decide +kernel
theorem d_m_stockAt_40 : decode b_m_stockAt 40 = .ok (.iaload, 1) := by decide +kernel
theorem d_m_stockAt_41 : decode b_m_stockAt 41 = .ok (.iload_n 1, 1) := by decide +kernel
theorem d_m_stockAt_42 : decode b_m_stockAt 42 = .ok (.iload_n 2, 1) := by decide +kernel
theorem d_m_stockAt_43 : decode b_m_stockAt 43 = .ok (.invokevirtual 68, 3) := by decide +kernel
theorem d_m_stockAt_46 : decode b_m_stockAt 46 = .ok (.ladd, 1) := by decide +kernel
theorem d_m_stockAt_47 : decode b_m_stockAt 47 = .ok (.lstore 4, 2) := by decide +kernel
theorem d_m_stockAt_49 : decode b_m_stockAt 49 = .ok (.iinc 6 1, 3) := by decide +kernel
theorem d_m_stockAt_52 : decode b_m_stockAt 52 = .ok (.goto (-46), 3) := by decide +kernel
theorem d_m_stockAt_55 : decode b_m_stockAt 55 = .ok (.lload 4, 2) := by decide +kernel
theorem d_m_stockAt_57 : decode b_m_stockAt 57 = .ok (.lreturn, 1) := by decide +kernel
theorem d_m_held_0 : decode b_m_held 0 = .ok (.lconst 0, 1) := by decide +kernel
theorem d_m_held_1 : decode b_m_held 1 = .ok (.lstore 4, 2) := by decide +kernel
theorem d_m_held_3 : decode b_m_held 3 = .ok (.iconst 0, 1) := by decide +kernel
theorem d_m_held_4 : decode b_m_held 4 = .ok (.istore 6, 2) := by decide +kernel
theorem d_m_held_6 : decode b_m_held 6 = .ok (.iload 6, 2) := by decide +kernel
theorem d_m_held_8 : decode b_m_held 8 = .ok (.aload_n 0, 1) := by decide +kernel
theorem d_m_held_9 : decode b_m_held 9 = .ok (.getfield 47, 3) := by decide +kernel
theorem d_m_held_12 : decode b_m_held 12 = .ok (.if_icmp .ge 63, 3) := by decide +kernel
theorem d_m_held_15 : decode b_m_held 15 = .ok (.aload_n 0, 1) := by decide +kernel
theorem d_m_held_16 : decode b_m_held 16 = .ok (.getfield 7, 3) := by decide +kernel
theorem d_m_held_19 : decode b_m_held 19 = .ok (.iload 6, 2) := by decide +kernel
theorem d_m_held_21 : decode b_m_held 21 = .ok (.iaload, 1) := by decide +kernel
theorem d_m_held_22 : decode b_m_held 22 = .ok (.iconst 1, 1) := by decide +kernel
theorem d_m_held_23 : decode b_m_held 23 = .ok (.if_icmp .ne 24, 3) := by decide +kernel
theorem d_m_held_26 : decode b_m_held 26 = .ok (.iload 6, 2) := by decide +kernel
theorem d_m_held_28 : decode b_m_held 28 = .ok (.iload_n 3, 1) := by decide +kernel
theorem d_m_held_29 : decode b_m_held 29 = .ok (.if_icmp .eq 18, 3) := by decide +kernel
theorem d_m_held_32 : decode b_m_held 32 = .ok (.iload_n 1, 1) := by decide +kernel
theorem d_m_held_33 : decode b_m_held 33 = .ok (.ifCond .eq 14, 3) := by decide +kernel
theorem d_m_held_36 : decode b_m_held 36 = .ok (.aload_n 0, 1) := by decide +kernel
theorem d_m_held_37 : decode b_m_held 37 = .ok (.iload 6, 2) := by decide +kernel
theorem d_m_held_39 : decode b_m_held 39 = .ok (.iload_n 1, 1) := by decide +kernel
theorem d_m_held_40 : decode b_m_held 40 = .ok (.iload_n 2, 1) := by decide +kernel
theorem d_m_held_41 : decode b_m_held 41 = .ok (.invokevirtual 68, 3) := by decide +kernel
theorem d_m_held_44 : decode b_m_held 44 = .ok (.goto 4, 3) := by decide +kernel
theorem d_m_held_47 : decode b_m_held 47 = .ok (.lconst 0, 1) := by decide +kernel
theorem d_m_held_48 : decode b_m_held 48 = .ok (.lstore 7, 2) := by decide +kernel
theorem d_m_held_50 : decode b_m_held 50 = .ok (.lload 4, 2) := by decide +kernel
theorem d_m_held_52 : decode b_m_held 52 = .ok (.lload 7, 2) := by decide +kernel
theorem d_m_held_54 : decode b_m_held 54 = .ok (.lconst 0, 1) := by decide +kernel
theorem d_m_held_55 : decode b_m_held 55 = .ok (.lcmp, 1) := by decide +kernel
theorem d_m_held_56 : decode b_m_held 56 = .ok (.ifCond .ge 9, 3) := by decide +kernel
theorem d_m_held_59 : decode b_m_held 59 = .ok (.lload 7, 2) := by decide +kernel
theorem d_m_held_61 : decode b_m_held 61 = .ok (.lneg, 1) := by decide +kernel
theorem d_m_held_62 : decode b_m_held 62 = .ok (.goto 4, 3) := by decide +kernel
theorem d_m_held_65 : decode b_m_held 65 = .ok (.lconst 0, 1) := by decide +kernel
theorem d_m_held_66 : decode b_m_held 66 = .ok (.ladd, 1) := by decide +kernel
theorem d_m_held_67 : decode b_m_held 67 = .ok (.lstore 4, 2) := by decide +kernel
theorem d_m_held_69 : decode b_m_held 69 = .ok (.iinc 6 1, 3) := by decide +kernel
theorem d_m_held_72 : decode b_m_held 72 = .ok (.goto (-66), 3) := by decide +kernel
theorem d_m_held_75 : decode b_m_held 75 = .ok (.lload 4, 2) := by decide +kernel
theorem d_m_held_77 : decode b_m_held 77 = .ok (.lreturn, 1) := by decide +kernel
theorem d_m_isCovered_0 : decode b_m_isCovered 0 = .ok (.iconst 1, 1) := by decide +kernel
theorem d_m_isCovered_1 : decode b_m_isCovered 1 = .ok (.istore 4, 2) := by decide +kernel
theorem d_m_isCovered_3 : decode b_m_isCovered 3 = .ok (.iload 4, 2) := by decide +kernel
theorem d_m_isCovered_5 : decode b_m_isCovered 5 = .ok (.bipush 16, 2) := by decide +kernel
theorem d_m_isCovered_7 : decode b_m_isCovered 7 = .ok (.if_icmp .ge 91, 3) := by decide +kernel
theorem d_m_isCovered_10 : decode b_m_isCovered 10 = .ok (.iconst 0, 1) := by decide +kernel
theorem d_m_isCovered_11 : decode b_m_isCovered 11 = .ok (.istore 5, 2) := by decide +kernel
theorem d_m_isCovered_13 : decode b_m_isCovered 13 = .ok (.iload 5, 2) := by decide +kernel
theorem d_m_isCovered_15 : decode b_m_isCovered 15 = .ok (.bipush 8, 2) := by decide +kernel
theorem d_m_isCovered_17 : decode b_m_isCovered 17 = .ok (.if_icmp .ge 75, 3) := by decide +kernel
theorem d_m_isCovered_20 : decode b_m_isCovered 20 = .ok (.iload_n 3, 1) := by decide +kernel
theorem d_m_isCovered_21 : decode b_m_isCovered 21 = .ok (.i2l, 1) := by decide +kernel
theorem d_m_isCovered_22 : decode b_m_isCovered 22 = .ok (.aload_n 0, 1) := by decide +kernel
theorem d_m_isCovered_23 : decode b_m_isCovered 23 = .ok (.iload_n 1, 1) := by decide +kernel
theorem d_m_isCovered_24 : decode b_m_isCovered 24 = .ok (.iload 4, 2) := by decide +kernel
theorem d_m_isCovered_26 : decode b_m_isCovered 26 = .ok (.iload 5, 2) := by decide +kernel
theorem d_m_isCovered_28 : decode b_m_isCovered 28 = .ok (.invokevirtual 68, 3) := by decide +kernel
theorem d_m_isCovered_31 : decode b_m_isCovered 31 = .ok (.lmul, 1) := by decide +kernel
theorem d_m_isCovered_32 : decode b_m_isCovered 32 = .ok (.lstore 6, 2) := by decide +kernel
theorem d_m_isCovered_34 : decode b_m_isCovered 34 = .ok (.iload_n 2, 1) := by decide +kernel
theorem d_m_isCovered_35 : decode b_m_isCovered 35 = .ok (.ifCond .eq 13, 3) := by decide +kernel
theorem d_m_isCovered_38 : decode b_m_isCovered 38 = .ok (.lload 6, 2) := by decide +kernel
theorem d_m_isCovered_40 : decode b_m_isCovered 40 = .ok (.lconst 0, 1) := by decide +kernel
theorem d_m_isCovered_41 : decode b_m_isCovered 41 = .ok (.lcmp, 1) := by decide +kernel
theorem d_m_isCovered_42 : decode b_m_isCovered 42 = .ok (.ifCond .le 6, 3) := by decide +kernel
theorem d_m_isCovered_45 : decode b_m_isCovered 45 = .ok (.lconst 0, 1) := by decide +kernel
theorem d_m_isCovered_46 : decode b_m_isCovered 46 = .ok (.lstore 6, 2) := by decide +kernel
theorem d_m_isCovered_48 : decode b_m_isCovered 48 = .ok (.lload 6, 2) := by decide +kernel
theorem d_m_isCovered_50 : decode b_m_isCovered 50 = .ok (.lconst 0, 1) := by decide +kernel
theorem d_m_isCovered_51 : decode b_m_isCovered 51 = .ok (.lcmp, 1) := by decide +kernel
theorem d_m_isCovered_52 : decode b_m_isCovered 52 = .ok (.ifCond .eq 34, 3) := by decide +kernel
theorem d_m_isCovered_55 : decode b_m_isCovered 55 = .ok (.aload_n 0, 1) := by decide +kernel
theorem d_m_isCovered_56 : decode b_m_isCovered 56 = .ok (.iload 4, 2) := by decide +kernel
theorem d_m_isCovered_58 : decode b_m_isCovered 58 = .ok (.iload 5, 2) := by decide +kernel
theorem d_m_isCovered_60 : decode b_m_isCovered 60 = .ok (.sipush 1000, 3) := by decide +kernel
theorem d_m_isCovered_63 : decode b_m_isCovered 63 = .ok (.invokevirtual 75, 3) := by decide +kernel
theorem d_m_isCovered_66 : decode b_m_isCovered 66 = .ok (.aload_n 0, 1) := by decide +kernel
theorem d_m_isCovered_67 : decode b_m_isCovered 67 = .ok (.iload 4, 2) := by decide +kernel
theorem d_m_isCovered_69 : decode b_m_isCovered 69 = .ok (.iload 5, 2) := by decide +kernel
theorem d_m_isCovered_71 : decode b_m_isCovered 71 = .ok (.iload_n 1, 1) := by decide +kernel
theorem d_m_isCovered_72 : decode b_m_isCovered 72 = .ok (.invokevirtual 78, 3) := by decide +kernel
theorem d_m_isCovered_75 : decode b_m_isCovered 75 = .ok (.lsub, 1) := by decide +kernel
theorem d_m_isCovered_76 : decode b_m_isCovered 76 = .ok (.lload 6, 2) := by decide +kernel
theorem d_m_isCovered_78 : decode b_m_isCovered 78 = .ok (.ladd, 1) := by decide +kernel
theorem d_m_isCovered_79 : decode b_m_isCovered 79 = .ok (.lconst 0, 1) := by decide +kernel
theorem d_m_isCovered_80 : decode b_m_isCovered 80 = .ok (.lcmp, 1) := by decide +kernel
theorem d_m_isCovered_81 : decode b_m_isCovered 81 = .ok (.ifCond .ge 5, 3) := by decide +kernel
theorem d_m_isCovered_84 : decode b_m_isCovered 84 = .ok (.iconst 0, 1) := by decide +kernel
theorem d_m_isCovered_85 : decode b_m_isCovered 85 = .ok (.ireturn, 1) := by decide +kernel
theorem d_m_isCovered_86 : decode b_m_isCovered 86 = .ok (.iinc 5 1, 3) := by decide +kernel
theorem d_m_isCovered_89 : decode b_m_isCovered 89 = .ok (.goto (-76), 3) := by decide +kernel
theorem d_m_isCovered_92 : decode b_m_isCovered 92 = .ok (.iinc 4 1, 3) := by decide +kernel
theorem d_m_isCovered_95 : decode b_m_isCovered 95 = .ok (.goto (-92), 3) := by decide +kernel
theorem d_m_isCovered_98 : decode b_m_isCovered 98 = .ok (.iconst 1, 1) := by decide +kernel
theorem d_m_isCovered_99 : decode b_m_isCovered 99 = .ok (.ireturn, 1) := by decide +kernel
theorem d_m_hold_0 : decode b_m_hold 0 = .ok (.aload_n 0, 1) := by decide +kernel
theorem d_m_hold_1 : decode b_m_hold 1 = .ok (.aload_n 0, 1) := by decide +kernel
theorem d_m_hold_2 : decode b_m_hold 2 = .ok (.iload_n 1, 1) := by decide +kernel
theorem d_m_hold_3 : decode b_m_hold 3 = .ok (.invokevirtual 58, 3) := by decide +kernel
theorem d_m_hold_6 : decode b_m_hold 6 = .ok (.ifCond .ne 7, 3) := by decide +kernel
theorem d_m_hold_9 : decode b_m_hold 9 = .ok (.iconst 1, 1) := by decide +kernel
theorem d_m_hold_10 : decode b_m_hold 10 = .ok (.goto 4, 3) := by decide +kernel
theorem d_m_hold_13 : decode b_m_hold 13 = .ok (.iconst 0, 1) := by decide +kernel
theorem d_m_hold_14 : decode b_m_hold 14 = .ok (.putfield 44, 3) := by decide +kernel
theorem d_m_hold_17 : decode b_m_hold 17 = .ok (.aload_n 0, 1) := by decide +kernel
theorem d_m_hold_18 : decode b_m_hold 18 = .ok (.getfield 44, 3) := by decide +kernel
theorem d_m_hold_21 : decode b_m_hold 21 = .ok (.ifCond .ne 43, 3) := by decide +kernel
theorem d_m_hold_24 : decode b_m_hold 24 = .ok (.aload_n 0, 1) := by decide +kernel
theorem d_m_hold_25 : decode b_m_hold 25 = .ok (.aload_n 0, 1) := by decide +kernel
theorem d_m_hold_26 : decode b_m_hold 26 = .ok (.getfield 7, 3) := by decide +kernel
theorem d_m_hold_29 : decode b_m_hold 29 = .ok (.iload_n 1, 1) := by decide +kernel
theorem d_m_hold_30 : decode b_m_hold 30 = .ok (.iaload, 1) := by decide +kernel
theorem d_m_hold_31 : decode b_m_hold 31 = .ok (.ifCond .ne 11, 3) := by decide +kernel
theorem d_m_hold_34 : decode b_m_hold 34 = .ok (.aload_n 0, 1) := by decide +kernel
theorem d_m_hold_35 : decode b_m_hold 35 = .ok (.iload_n 1, 1) := by decide +kernel
theorem d_m_hold_36 : decode b_m_hold 36 = .ok (.invokevirtual 81, 3) := by decide +kernel
theorem d_m_hold_39 : decode b_m_hold 39 = .ok (.ifCond .ne 7, 3) := by decide +kernel
theorem d_m_hold_42 : decode b_m_hold 42 = .ok (.iconst 2, 1) := by decide +kernel
theorem d_m_hold_43 : decode b_m_hold 43 = .ok (.goto 18, 3) := by decide +kernel
theorem d_m_hold_46 : decode b_m_hold 46 = .ok (.aload_n 0, 1) := by decide +kernel
theorem d_m_hold_47 : decode b_m_hold 47 = .ok (.iload_n 1, 1) := by decide +kernel
theorem d_m_hold_48 : decode b_m_hold 48 = .ok (.iconst 1, 1) := by decide +kernel
theorem d_m_hold_49 : decode b_m_hold 49 = .ok (.iconst 1, 1) := by decide +kernel
theorem d_m_hold_50 : decode b_m_hold 50 = .ok (.invokevirtual 84, 3) := by decide +kernel
theorem d_m_hold_53 : decode b_m_hold 53 = .ok (.ifCond .ne 7, 3) := by decide +kernel
theorem d_m_hold_56 : decode b_m_hold 56 = .ok (.iconst 3, 1) := by decide +kernel
theorem d_m_hold_57 : decode b_m_hold 57 = .ok (.goto 4, 3) := by decide +kernel
theorem d_m_hold_60 : decode b_m_hold 60 = .ok (.iconst 0, 1) := by decide +kernel
theorem d_m_hold_61 : decode b_m_hold 61 = .ok (.putfield 44, 3) := by decide +kernel
theorem d_m_hold_64 : decode b_m_hold 64 = .ok (.aload_n 0, 1) := by decide +kernel
theorem d_m_hold_65 : decode b_m_hold 65 = .ok (.getfield 44, 3) := by decide +kernel
theorem d_m_hold_68 : decode b_m_hold 68 = .ok (.ifCond .ne 10, 3) := by decide +kernel
theorem d_m_hold_71 : decode b_m_hold 71 = .ok (.aload_n 0, 1) := by decide +kernel
theorem d_m_hold_72 : decode b_m_hold 72 = .ok (.getfield 7, 3) := by decide +kernel
theorem d_m_hold_75 : decode b_m_hold 75 = .ok (.iload_n 1, 1) := by decide +kernel
theorem d_m_hold_76 : decode b_m_hold 76 = .ok (.iconst 1, 1) := by decide +kernel
theorem d_m_hold_77 : decode b_m_hold 77 = .ok (.iastore, 1) := by decide +kernel
theorem d_m_hold_78 : decode b_m_hold 78 = .ok (.return_, 1) := by decide +kernel
theorem d_m_free_0 : decode b_m_free 0 = .ok (.aload_n 0, 1) := by decide +kernel
theorem d_m_free_1 : decode b_m_free 1 = .ok (.aload_n 0, 1) := by decide +kernel
theorem d_m_free_2 : decode b_m_free 2 = .ok (.iload_n 1, 1) := by decide +kernel
theorem d_m_free_3 : decode b_m_free 3 = .ok (.invokevirtual 58, 3) := by decide +kernel
theorem d_m_free_6 : decode b_m_free 6 = .ok (.ifCond .ne 7, 3) := by decide +kernel
theorem d_m_free_9 : decode b_m_free 9 = .ok (.iconst 1, 1) := by decide +kernel
theorem d_m_free_10 : decode b_m_free 10 = .ok (.goto 4, 3) := by decide +kernel
theorem d_m_free_13 : decode b_m_free 13 = .ok (.iconst 0, 1) := by decide +kernel
theorem d_m_free_14 : decode b_m_free 14 = .ok (.putfield 44, 3) := by decide +kernel
theorem d_m_free_17 : decode b_m_free 17 = .ok (.aload_n 0, 1) := by decide +kernel
theorem d_m_free_18 : decode b_m_free 18 = .ok (.getfield 44, 3) := by decide +kernel
theorem d_m_free_21 : decode b_m_free 21 = .ok (.ifCond .ne 22, 3) := by decide +kernel
theorem d_m_free_24 : decode b_m_free 24 = .ok (.aload_n 0, 1) := by decide +kernel
theorem d_m_free_25 : decode b_m_free 25 = .ok (.aload_n 0, 1) := by decide +kernel
theorem d_m_free_26 : decode b_m_free 26 = .ok (.getfield 7, 3) := by decide +kernel
theorem d_m_free_29 : decode b_m_free 29 = .ok (.iload_n 1, 1) := by decide +kernel
theorem d_m_free_30 : decode b_m_free 30 = .ok (.iaload, 1) := by decide +kernel
theorem d_m_free_31 : decode b_m_free 31 = .ok (.iconst 1, 1) := by decide +kernel
theorem d_m_free_32 : decode b_m_free 32 = .ok (.if_icmp .eq 7, 3) := by decide +kernel
theorem d_m_free_35 : decode b_m_free 35 = .ok (.iconst 2, 1) := by decide +kernel
theorem d_m_free_36 : decode b_m_free 36 = .ok (.goto 4, 3) := by decide +kernel
theorem d_m_free_39 : decode b_m_free 39 = .ok (.iconst 0, 1) := by decide +kernel
theorem d_m_free_40 : decode b_m_free 40 = .ok (.putfield 44, 3) := by decide +kernel
theorem d_m_free_43 : decode b_m_free 43 = .ok (.aload_n 0, 1) := by decide +kernel
theorem d_m_free_44 : decode b_m_free 44 = .ok (.getfield 44, 3) := by decide +kernel
theorem d_m_free_47 : decode b_m_free 47 = .ok (.ifCond .ne 10, 3) := by decide +kernel
theorem d_m_free_50 : decode b_m_free 50 = .ok (.aload_n 0, 1) := by decide +kernel
theorem d_m_free_51 : decode b_m_free 51 = .ok (.getfield 7, 3) := by decide +kernel
theorem d_m_free_54 : decode b_m_free 54 = .ok (.iload_n 1, 1) := by decide +kernel
theorem d_m_free_55 : decode b_m_free 55 = .ok (.iconst 0, 1) := by decide +kernel
theorem d_m_free_56 : decode b_m_free 56 = .ok (.iastore, 1) := by decide +kernel
theorem d_m_free_57 : decode b_m_free 57 = .ok (.return_, 1) := by decide +kernel
theorem d_m_drop_0 : decode b_m_drop 0 = .ok (.aload_n 0, 1) := by decide +kernel
theorem d_m_drop_1 : decode b_m_drop 1 = .ok (.aload_n 0, 1) := by decide +kernel
theorem d_m_drop_2 : decode b_m_drop 2 = .ok (.iload_n 1, 1) := by decide +kernel
theorem d_m_drop_3 : decode b_m_drop 3 = .ok (.invokevirtual 58, 3) := by decide +kernel
theorem d_m_drop_6 : decode b_m_drop 6 = .ok (.ifCond .ne 7, 3) := by decide +kernel
theorem d_m_drop_9 : decode b_m_drop 9 = .ok (.iconst 1, 1) := by decide +kernel
theorem d_m_drop_10 : decode b_m_drop 10 = .ok (.goto 4, 3) := by decide +kernel
theorem d_m_drop_13 : decode b_m_drop 13 = .ok (.iconst 0, 1) := by decide +kernel
theorem d_m_drop_14 : decode b_m_drop 14 = .ok (.putfield 44, 3) := by decide +kernel
theorem d_m_drop_17 : decode b_m_drop 17 = .ok (.aload_n 0, 1) := by decide +kernel
theorem d_m_drop_18 : decode b_m_drop 18 = .ok (.getfield 44, 3) := by decide +kernel
theorem d_m_drop_21 : decode b_m_drop 21 = .ok (.ifCond .ne 22, 3) := by decide +kernel
theorem d_m_drop_24 : decode b_m_drop 24 = .ok (.aload_n 0, 1) := by decide +kernel
theorem d_m_drop_25 : decode b_m_drop 25 = .ok (.aload_n 0, 1) := by decide +kernel
theorem d_m_drop_26 : decode b_m_drop 26 = .ok (.getfield 7, 3) := by decide +kernel
theorem d_m_drop_29 : decode b_m_drop 29 = .ok (.iload_n 1, 1) := by decide +kernel
theorem d_m_drop_30 : decode b_m_drop 30 = .ok (.iaload, 1) := by decide +kernel
theorem d_m_drop_31 : decode b_m_drop 31 = .ok (.iconst 1, 1) := by decide +kernel
theorem d_m_drop_32 : decode b_m_drop 32 = .ok (.if_icmp .le 7, 3) := by decide +kernel
theorem d_m_drop_35 : decode b_m_drop 35 = .ok (.iconst 2, 1) := by decide +kernel
theorem d_m_drop_36 : decode b_m_drop 36 = .ok (.goto 4, 3) := by decide +kernel
theorem d_m_drop_39 : decode b_m_drop 39 = .ok (.iconst 0, 1) := by decide +kernel
theorem d_m_drop_40 : decode b_m_drop 40 = .ok (.putfield 44, 3) := by decide +kernel
theorem d_m_drop_43 : decode b_m_drop 43 = .ok (.aload_n 0, 1) := by decide +kernel
theorem d_m_drop_44 : decode b_m_drop 44 = .ok (.getfield 44, 3) := by decide +kernel
theorem d_m_drop_47 : decode b_m_drop 47 = .ok (.ifCond .ne 10, 3) := by decide +kernel
theorem d_m_drop_50 : decode b_m_drop 50 = .ok (.aload_n 0, 1) := by decide +kernel
theorem d_m_drop_51 : decode b_m_drop 51 = .ok (.getfield 7, 3) := by decide +kernel
theorem d_m_drop_54 : decode b_m_drop 54 = .ok (.iload_n 1, 1) := by decide +kernel
theorem d_m_drop_55 : decode b_m_drop 55 = .ok (.iconst 4, 1) := by decide +kernel
theorem d_m_drop_56 : decode b_m_drop 56 = .ok (.iastore, 1) := by decide +kernel
theorem d_m_drop_57 : decode b_m_drop 57 = .ok (.return_, 1) := by decide +kernel
theorem d_m_enter_0 : decode b_m_enter 0 = .ok (.aload_n 0, 1) := by decide +kernel
theorem d_m_enter_1 : decode b_m_enter 1 = .ok (.getfield 7, 3) := by decide +kernel
theorem d_m_enter_4 : decode b_m_enter 4 = .ok (.iload_n 1, 1) := by decide +kernel
theorem d_m_enter_5 : decode b_m_enter 5 = .ok (.iconst 2, 1) := by decide +kernel
theorem d_m_enter_6 : decode b_m_enter 6 = .ok (.iastore, 1) := by decide +kernel
theorem d_m_enter_7 : decode b_m_enter 7 = .ok (.aload_n 0, 1) := by decide +kernel
theorem d_m_enter_8 : decode b_m_enter 8 = .ok (.getfield 16, 3) := by decide +kernel
theorem d_m_enter_11 : decode b_m_enter 11 = .ok (.iload_n 1, 1) := by decide +kernel
theorem d_m_enter_12 : decode b_m_enter 12 = .ok (.iload_n 2, 1) := by decide +kernel
theorem d_m_enter_13 : decode b_m_enter 13 = .ok (.iastore, 1) := by decide +kernel
theorem d_m_enter_14 : decode b_m_enter 14 = .ok (.aload_n 0, 1) := by decide +kernel
theorem d_m_enter_15 : decode b_m_enter 15 = .ok (.getfield 34, 3) := by decide +kernel
theorem d_m_enter_18 : decode b_m_enter 18 = .ok (.aload_n 0, 1) := by decide +kernel
theorem d_m_enter_19 : decode b_m_enter 19 = .ok (.getfield 72, 3) := by decide +kernel
theorem d_m_enter_22 : decode b_m_enter 22 = .ok (.iload_n 1, 1) := by decide +kernel
theorem d_m_enter_23 : decode b_m_enter 23 = .ok (.iastore, 1) := by decide +kernel
theorem d_m_enter_24 : decode b_m_enter 24 = .ok (.aload_n 0, 1) := by decide +kernel
theorem d_m_enter_25 : decode b_m_enter 25 = .ok (.dup, 1) := by decide +kernel
theorem d_m_enter_26 : decode b_m_enter 26 = .ok (.getfield 72, 3) := by decide +kernel
theorem d_m_enter_29 : decode b_m_enter 29 = .ok (.iconst 1, 1) := by decide +kernel
theorem d_m_enter_30 : decode b_m_enter 30 = .ok (.iadd, 1) := by decide +kernel
theorem d_m_enter_31 : decode b_m_enter 31 = .ok (.putfield 72, 3) := by decide +kernel
theorem d_m_enter_34 : decode b_m_enter 34 = .ok (.return_, 1) := by decide +kernel
theorem d_m_post_0 : decode b_m_post 0 = .ok (.aload_n 0, 1) := by decide +kernel
theorem d_m_post_1 : decode b_m_post 1 = .ok (.aload_n 0, 1) := by decide +kernel
theorem d_m_post_2 : decode b_m_post 2 = .ok (.iload_n 1, 1) := by decide +kernel
theorem d_m_post_3 : decode b_m_post 3 = .ok (.invokevirtual 58, 3) := by decide +kernel
theorem d_m_post_6 : decode b_m_post 6 = .ok (.ifCond .ne 7, 3) := by decide +kernel
theorem d_m_post_9 : decode b_m_post 9 = .ok (.iconst 1, 1) := by decide +kernel
theorem d_m_post_10 : decode b_m_post 10 = .ok (.goto 19, 3) := by decide +kernel
theorem d_m_post_13 : decode b_m_post 13 = .ok (.iload_n 2, 1) := by decide +kernel
theorem d_m_post_14 : decode b_m_post 14 = .ok (.iconst 0, 1) := by decide +kernel
theorem d_m_post_15 : decode b_m_post 15 = .ok (.sipush 1000, 3) := by decide +kernel
theorem d_m_post_18 : decode b_m_post 18 = .ok (.invokestatic 50, 3) := by decide +kernel
theorem d_m_post_21 : decode b_m_post 21 = .ok (.ifCond .ne 7, 3) := by decide +kernel
theorem d_m_post_24 : decode b_m_post 24 = .ok (.iconst 2, 1) := by decide +kernel
theorem d_m_post_25 : decode b_m_post 25 = .ok (.goto 4, 3) := by decide +kernel
theorem d_m_post_28 : decode b_m_post 28 = .ok (.iconst 0, 1) := by decide +kernel
theorem d_m_post_29 : decode b_m_post 29 = .ok (.putfield 44, 3) := by decide +kernel
theorem d_m_post_32 : decode b_m_post 32 = .ok (.aload_n 0, 1) := by decide +kernel
theorem d_m_post_33 : decode b_m_post 33 = .ok (.getfield 44, 3) := by decide +kernel
theorem d_m_post_36 : decode b_m_post 36 = .ok (.ifCond .ne 52, 3) := by decide +kernel
theorem d_m_post_39 : decode b_m_post 39 = .ok (.aload_n 0, 1) := by decide +kernel
theorem d_m_post_40 : decode b_m_post 40 = .ok (.aload_n 0, 1) := by decide +kernel
theorem d_m_post_41 : decode b_m_post 41 = .ok (.getfield 7, 3) := by decide +kernel
theorem d_m_post_44 : decode b_m_post 44 = .ok (.iload_n 1, 1) := by decide +kernel
theorem d_m_post_45 : decode b_m_post 45 = .ok (.iaload, 1) := by decide +kernel
theorem d_m_post_46 : decode b_m_post 46 = .ok (.iconst 1, 1) := by decide +kernel
theorem d_m_post_47 : decode b_m_post 47 = .ok (.if_icmp .gt 19, 3) := by decide +kernel
theorem d_m_post_50 : decode b_m_post 50 = .ok (.aload_n 0, 1) := by decide +kernel
theorem d_m_post_51 : decode b_m_post 51 = .ok (.iload_n 1, 1) := by decide +kernel
theorem d_m_post_52 : decode b_m_post 52 = .ok (.invokevirtual 81, 3) := by decide +kernel
theorem d_m_post_55 : decode b_m_post 55 = .ok (.ifCond .eq 11, 3) := by decide +kernel
theorem d_m_post_58 : decode b_m_post 58 = .ok (.iload_n 2, 1) := by decide +kernel
theorem d_m_post_59 : decode b_m_post 59 = .ok (.aload_n 0, 1) := by decide +kernel
theorem d_m_post_60 : decode b_m_post 60 = .ok (.getfield 37, 3) := by decide +kernel
theorem d_m_post_63 : decode b_m_post 63 = .ok (.if_icmp .gt 7, 3) := by decide +kernel
theorem d_m_post_66 : decode b_m_post 66 = .ok (.iconst 3, 1) := by decide +kernel
theorem d_m_post_67 : decode b_m_post 67 = .ok (.goto 18, 3) := by decide +kernel
theorem d_m_post_70 : decode b_m_post 70 = .ok (.aload_n 0, 1) := by decide +kernel
theorem d_m_post_71 : decode b_m_post 71 = .ok (.iload_n 1, 1) := by decide +kernel
theorem d_m_post_72 : decode b_m_post 72 = .ok (.iconst 0, 1) := by decide +kernel
theorem d_m_post_73 : decode b_m_post 73 = .ok (.iconst 1, 1) := by decide +kernel
theorem d_m_post_74 : decode b_m_post 74 = .ok (.invokevirtual 84, 3) := by decide +kernel
theorem d_m_post_77 : decode b_m_post 77 = .ok (.ifCond .ne 7, 3) := by decide +kernel
theorem d_m_post_80 : decode b_m_post 80 = .ok (.iconst 4, 1) := by decide +kernel
theorem d_m_post_81 : decode b_m_post 81 = .ok (.goto 4, 3) := by decide +kernel
theorem d_m_post_84 : decode b_m_post 84 = .ok (.iconst 0, 1) := by decide +kernel
theorem d_m_post_85 : decode b_m_post 85 = .ok (.putfield 44, 3) := by decide +kernel
theorem d_m_post_88 : decode b_m_post 88 = .ok (.aload_n 0, 1) := by decide +kernel
theorem d_m_post_89 : decode b_m_post 89 = .ok (.getfield 44, 3) := by decide +kernel
theorem d_m_post_92 : decode b_m_post 92 = .ok (.ifCond .ne 9, 3) := by decide +kernel
theorem d_m_post_95 : decode b_m_post 95 = .ok (.aload_n 0, 1) := by decide +kernel
theorem d_m_post_96 : decode b_m_post 96 = .ok (.iload_n 1, 1) := by decide +kernel
theorem d_m_post_97 : decode b_m_post 97 = .ok (.iload_n 2, 1) := by decide +kernel
theorem d_m_post_98 : decode b_m_post 98 = .ok (.invokevirtual 88, 3) := by decide +kernel
theorem d_m_post_101 : decode b_m_post 101 = .ok (.return_, 1) := by decide +kernel
theorem d_m_reversed_0 : decode b_m_reversed 0 = .ok (.aload_n 0, 1) := by decide +kernel
theorem d_m_reversed_1 : decode b_m_reversed 1 = .ok (.getfield 47, 3) := by decide +kernel
theorem d_m_reversed_4 : decode b_m_reversed 4 = .ok (.bipush 40, 2) := by decide +kernel
theorem d_m_reversed_6 : decode b_m_reversed 6 = .ok (.if_icmp .eq 13, 3) := by decide +kernel
theorem d_m_reversed_9 : decode b_m_reversed 9 = .ok (.aload_n 0, 1) := by decide +kernel
theorem d_m_reversed_10 : decode b_m_reversed 10 = .ok (.iload_n 1, 1) := by decide +kernel
theorem d_m_reversed_11 : decode b_m_reversed 11 = .ok (.iconst 0, 1) := by decide +kernel
theorem d_m_reversed_12 : decode b_m_reversed 12 = .ok (.iconst (-1), 1) := by decide +kernel
theorem d_m_reversed_13 : decode b_m_reversed 13 = .ok (.invokevirtual 84, 3) := by decide +kernel
theorem d_m_reversed_16 : decode b_m_reversed 16 = .ok (.ifCond .ne 5, 3) := by decide +kernel
theorem d_m_reversed_19 : decode b_m_reversed 19 = .ok (.iconst 0, 1) := by decide +kernel
theorem d_m_reversed_20 : decode b_m_reversed 20 = .ok (.ireturn, 1) := by decide +kernel
theorem d_m_reversed_21 : decode b_m_reversed 21 = .ok (.aload_n 0, 1) := by decide +kernel
theorem d_m_reversed_22 : decode b_m_reversed 22 = .ok (.invokevirtual 54, 3) := by decide +kernel
theorem d_m_reversed_25 : decode b_m_reversed 25 = .ok (.istore_n 3, 1) := by decide +kernel
theorem d_m_reversed_26 : decode b_m_reversed 26 = .ok (.iconst 0, 1) := by decide +kernel
theorem d_m_reversed_27 : decode b_m_reversed 27 = .ok (.istore 4, 2) := by decide +kernel
theorem d_m_reversed_29 : decode b_m_reversed 29 = .ok (.iload 4, 2) := by decide +kernel
theorem d_m_reversed_31 : decode b_m_reversed 31 = .ok (.aload_n 0, 1) := by decide +kernel
theorem d_m_reversed_32 : decode b_m_reversed 32 = .ok (.getfield 13, 3) := by decide +kernel
theorem d_m_reversed_35 : decode b_m_reversed 35 = .ok (.iload_n 1, 1) := by decide +kernel
theorem d_m_reversed_36 : decode b_m_reversed 36 = .ok (.iaload, 1) := by decide +kernel
theorem d_m_reversed_37 : decode b_m_reversed 37 = .ok (.if_icmp .ge 51, 3) := by decide +kernel
theorem d_m_reversed_40 : decode b_m_reversed 40 = .ok (.aload_n 0, 1) := by decide +kernel
theorem d_m_reversed_41 : decode b_m_reversed 41 = .ok (.iload_n 3, 1) := by decide +kernel
theorem d_m_reversed_42 : decode b_m_reversed 42 = .ok (.aload_n 0, 1) := by decide +kernel
theorem d_m_reversed_43 : decode b_m_reversed 43 = .ok (.getfield 25, 3) := by decide +kernel
theorem d_m_reversed_46 : decode b_m_reversed 46 = .ok (.bipush 8, 2) := by decide +kernel
theorem d_m_reversed_48 : decode b_m_reversed 48 = .ok (.iload_n 1, 1) := by decide +kernel
theorem d_m_reversed_49 : decode b_m_reversed 49 = .ok (.imul, 1) := by decide +kernel
theorem d_m_reversed_50 : decode b_m_reversed 50 = .ok (.iload 4, 2) := by decide +kernel
theorem d_m_reversed_52 : decode b_m_reversed 52 = .ok (.iadd, 1) := by decide +kernel
theorem d_m_reversed_53 : decode b_m_reversed 53 = .ok (.iaload, 1) := by decide +kernel
theorem d_m_reversed_54 : decode b_m_reversed 54 = .ok (.aload_n 0, 1) := by decide +kernel
theorem d_m_reversed_55 : decode b_m_reversed 55 = .ok (.getfield 28, 3) := by decide +kernel
theorem d_m_reversed_58 : decode b_m_reversed 58 = .ok (.bipush 8, 2) := by decide +kernel
theorem d_m_reversed_60 : decode b_m_reversed 60 = .ok (.iload_n 1, 1) := by decide +kernel
theorem d_m_reversed_61 : decode b_m_reversed 61 = .ok (.imul, 1) := by decide +kernel
theorem d_m_reversed_62 : decode b_m_reversed 62 = .ok (.iload 4, 2) := by decide +kernel
theorem d_m_reversed_64 : decode b_m_reversed 64 = .ok (.iadd, 1) := by decide +kernel
theorem d_m_reversed_65 : decode b_m_reversed 65 = .ok (.iaload, 1) := by decide +kernel
theorem d_m_reversed_66 : decode b_m_reversed 66 = .ok (.aload_n 0, 1) := by decide +kernel
theorem d_m_reversed_67 : decode b_m_reversed 67 = .ok (.getfield 31, 3) := by decide +kernel
theorem d_m_reversed_70 : decode b_m_reversed 70 = .ok (.bipush 8, 2) := by decide +kernel
theorem d_m_reversed_72 : decode b_m_reversed 72 = .ok (.iload_n 1, 1) := by decide +kernel
theorem d_m_reversed_73 : decode b_m_reversed 73 = .ok (.imul, 1) := by decide +kernel
theorem d_m_reversed_74 : decode b_m_reversed 74 = .ok (.iload 4, 2) := by decide +kernel
theorem d_m_reversed_76 : decode b_m_reversed 76 = .ok (.iadd, 1) := by decide +kernel
theorem d_m_reversed_77 : decode b_m_reversed 77 = .ok (.iaload, 1) := by decide +kernel
theorem d_m_reversed_78 : decode b_m_reversed 78 = .ok (.ineg, 1) := by decide +kernel
theorem d_m_reversed_79 : decode b_m_reversed 79 = .ok (.invokevirtual 64, 3) := by decide +kernel
theorem d_m_reversed_82 : decode b_m_reversed 82 = .ok (.iinc 4 1, 3) := by decide +kernel
theorem d_m_reversed_85 : decode b_m_reversed 85 = .ok (.goto (-56), 3) := by decide +kernel
theorem d_m_reversed_88 : decode b_m_reversed 88 = .ok (.aload_n 0, 1) := by decide +kernel
theorem d_m_reversed_89 : decode b_m_reversed 89 = .ok (.iload_n 3, 1) := by decide +kernel
theorem d_m_reversed_90 : decode b_m_reversed 90 = .ok (.iload_n 2, 1) := by decide +kernel
theorem d_m_reversed_91 : decode b_m_reversed 91 = .ok (.invokevirtual 88, 3) := by decide +kernel
theorem d_m_reversed_94 : decode b_m_reversed 94 = .ok (.aload_n 0, 1) := by decide +kernel
theorem d_m_reversed_95 : decode b_m_reversed 95 = .ok (.getfield 22, 3) := by decide +kernel
theorem d_m_reversed_98 : decode b_m_reversed 98 = .ok (.iload_n 3, 1) := by decide +kernel
theorem d_m_reversed_99 : decode b_m_reversed 99 = .ok (.iload_n 1, 1) := by decide +kernel
theorem d_m_reversed_100 : decode b_m_reversed 100 = .ok (.iastore, 1) := by decide +kernel
theorem d_m_reversed_101 : decode b_m_reversed 101 = .ok (.aload_n 0, 1) := by decide +kernel
theorem d_m_reversed_102 : decode b_m_reversed 102 = .ok (.getfield 19, 3) := by decide +kernel
theorem d_m_reversed_105 : decode b_m_reversed 105 = .ok (.iload_n 1, 1) := by decide +kernel
theorem d_m_reversed_106 : decode b_m_reversed 106 = .ok (.iload_n 3, 1) := by decide +kernel
theorem d_m_reversed_107 : decode b_m_reversed 107 = .ok (.iastore, 1) := by decide +kernel
theorem d_m_reversed_108 : decode b_m_reversed 108 = .ok (.aload_n 0, 1) := by decide +kernel
theorem d_m_reversed_109 : decode b_m_reversed 109 = .ok (.getfield 7, 3) := by decide +kernel
theorem d_m_reversed_112 : decode b_m_reversed 112 = .ok (.iload_n 1, 1) := by decide +kernel
theorem d_m_reversed_113 : decode b_m_reversed 113 = .ok (.iconst 3, 1) := by decide +kernel
theorem d_m_reversed_114 : decode b_m_reversed 114 = .ok (.iastore, 1) := by decide +kernel
theorem d_m_reversed_115 : decode b_m_reversed 115 = .ok (.iconst 1, 1) := by decide +kernel
theorem d_m_reversed_116 : decode b_m_reversed 116 = .ok (.ireturn, 1) := by decide +kernel
theorem d_m_reverse_0 : decode b_m_reverse 0 = .ok (.aload_n 0, 1) := by decide +kernel
theorem d_m_reverse_1 : decode b_m_reverse 1 = .ok (.aload_n 0, 1) := by decide +kernel
theorem d_m_reverse_2 : decode b_m_reverse 2 = .ok (.iload_n 1, 1) := by decide +kernel
theorem d_m_reverse_3 : decode b_m_reverse 3 = .ok (.invokevirtual 58, 3) := by decide +kernel
theorem d_m_reverse_6 : decode b_m_reverse 6 = .ok (.ifCond .ne 7, 3) := by decide +kernel
theorem d_m_reverse_9 : decode b_m_reverse 9 = .ok (.iconst 1, 1) := by decide +kernel
theorem d_m_reverse_10 : decode b_m_reverse 10 = .ok (.goto 19, 3) := by decide +kernel
theorem d_m_reverse_13 : decode b_m_reverse 13 = .ok (.iload_n 2, 1) := by decide +kernel
theorem d_m_reverse_14 : decode b_m_reverse 14 = .ok (.iconst 0, 1) := by decide +kernel
theorem d_m_reverse_15 : decode b_m_reverse 15 = .ok (.sipush 1000, 3) := by decide +kernel
theorem d_m_reverse_18 : decode b_m_reverse 18 = .ok (.invokestatic 50, 3) := by decide +kernel
theorem d_m_reverse_21 : decode b_m_reverse 21 = .ok (.ifCond .ne 7, 3) := by decide +kernel
theorem d_m_reverse_24 : decode b_m_reverse 24 = .ok (.iconst 2, 1) := by decide +kernel
theorem d_m_reverse_25 : decode b_m_reverse 25 = .ok (.goto 4, 3) := by decide +kernel
theorem d_m_reverse_28 : decode b_m_reverse 28 = .ok (.iconst 0, 1) := by decide +kernel

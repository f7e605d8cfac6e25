/-! DECODE ROWS of MoveRows -/
theorem d_init_0 : decode b_init 0 = .ok (.aload_n 0, 1) := by decide +kernel
theorem d_init_1 : decode b_init 1 = .ok (.invokespecial 3, 3) := by decide +kernel
theorem d_init_4 : decode b_init 4 = .ok (.aload_n 0, 1) := by decide +kernel
theorem d_init_5 : decode b_init 5 = .ok (.bipush 40, 2) := by decide +kernel
theorem d_init_7 : decode b_init 7 = .ok (.newarray .int, 2) := by decide +kernel
theorem d_init_9 : decode b_init 9 = .ok (.putfield 9, 3) := by decide +kernel
theorem d_init_12 : decode b_init 12 = .ok (.aload_n 0, 1) := by decide +kernel
theorem d_init_13 : decode b_init 13 = .ok (.bipush 40, 2) := by decide +kernel
theorem d_init_15 : decode b_init 15 = .ok (.newarray .int, 2) := by decide +kernel
theorem d_init_17 : decode b_init 17 = .ok (.putfield 13, 3) := by decide +kernel
theorem d_init_20 : decode b_init 20 = .ok (.aload_n 0, 1) := by decide +kernel
theorem d_init_21 : decode b_init 21 = .ok (.bipush 40, 2) := by decide +kernel
theorem d_init_23 : decode b_init 23 = .ok (.newarray .int, 2) := by decide +kernel
theorem d_init_25 : decode b_init 25 = .ok (.putfield 16, 3) := by decide +kernel
theorem d_init_28 : decode b_init 28 = .ok (.aload_n 0, 1) := by decide +kernel
theorem d_init_29 : decode b_init 29 = .ok (.bipush 40, 2) := by decide +kernel
theorem d_init_31 : decode b_init 31 = .ok (.newarray .int, 2) := by decide +kernel
theorem d_init_33 : decode b_init 33 = .ok (.putfield 19, 3) := by decide +kernel
theorem d_init_36 : decode b_init 36 = .ok (.aload_n 0, 1) := by decide +kernel
theorem d_init_37 : decode b_init 37 = .ok (.bipush 40, 2) := by decide +kernel
theorem d_init_39 : decode b_init 39 = .ok (.newarray .int, 2) := by decide +kernel
theorem d_init_41 : decode b_init 41 = .ok (.putfield 22, 3) := by decide +kernel
theorem d_init_44 : decode b_init 44 = .ok (.aload_n 0, 1) := by decide +kernel
theorem d_init_45 : decode b_init 45 = .ok (.iconst 0, 1) := by decide +kernel
theorem d_init_46 : decode b_init 46 = .ok (.putfield 25, 3) := by decide +kernel
theorem d_init_49 : decode b_init 49 = .ok (.aload_n 0, 1) := by decide +kernel
theorem d_init_50 : decode b_init 50 = .ok (.sipush 320, 3) := by decide +kernel
theorem d_init_53 : decode b_init 53 = .ok (.newarray .int, 2) := by decide +kernel
theorem d_init_55 : decode b_init 55 = .ok (.putfield 29, 3) := by decide +kernel
theorem d_init_58 : decode b_init 58 = .ok (.aload_n 0, 1) := by decide +kernel
theorem d_init_59 : decode b_init 59 = .ok (.sipush 320, 3) := by decide +kernel
theorem d_init_62 : decode b_init 62 = .ok (.newarray .int, 2) := by decide +kernel
theorem d_init_64 : decode b_init 64 = .ok (.putfield 32, 3) := by decide +kernel
theorem d_init_67 : decode b_init 67 = .ok (.aload_n 0, 1) := by decide +kernel
theorem d_init_68 : decode b_init 68 = .ok (.bipush 40, 2) := by decide +kernel
theorem d_init_70 : decode b_init 70 = .ok (.newarray .int, 2) := by decide +kernel
theorem d_init_72 : decode b_init 72 = .ok (.putfield 35, 3) := by decide +kernel
theorem d_init_75 : decode b_init 75 = .ok (.aload_n 0, 1) := by decide +kernel
theorem d_init_76 : decode b_init 76 = .ok (.iconst 0, 1) := by decide +kernel
theorem d_init_77 : decode b_init 77 = .ok (.putfield 38, 3) := by decide +kernel
theorem d_init_80 : decode b_init 80 = .ok (.aload_n 0, 1) := by decide +kernel
theorem d_init_81 : decode b_init 81 = .ok (.sipush 128, 3) := by decide +kernel
theorem d_init_84 : decode b_init 84 = .ok (.newarray .long, 2) := by decide +kernel
theorem d_init_86 : decode b_init 86 = .ok (.putfield 41, 3) := by decide +kernel
theorem d_init_89 : decode b_init 89 = .ok (.aload_n 0, 1) := by decide +kernel
theorem d_init_90 : decode b_init 90 = .ok (.sipush 128, 3) := by decide +kernel
theorem d_init_93 : decode b_init 93 = .ok (.newarray .long, 2) := by decide +kernel
theorem d_init_95 : decode b_init 95 = .ok (.putfield 45, 3) := by decide +kernel
theorem d_init_98 : decode b_init 98 = .ok (.aload_n 0, 1) := by decide +kernel
theorem d_init_99 : decode b_init 99 = .ok (.sipush 128, 3) := by decide +kernel
theorem d_init_102 : decode b_init 102 = .ok (.newarray .long, 2) := by decide +kernel
theorem d_init_104 : decode b_init 104 = .ok (.putfield 48, 3) := by decide +kernel
theorem d_init_107 : decode b_init 107 = .ok (.aload_n 0, 1) := by decide +kernel
theorem d_init_108 : decode b_init 108 = .ok (.bipush 6, 2) := by decide +kernel
theorem d_init_110 : decode b_init 110 = .ok (.newarray .int, 2) := by decide +kernel
theorem d_init_112 : decode b_init 112 = .ok (.putfield 51, 3) := by decide +kernel
theorem d_init_115 : decode b_init 115 = .ok (.aload_n 0, 1) := by decide +kernel
theorem d_init_116 : decode b_init 116 = .ok (.iconst 0, 1) := by decide +kernel
theorem d_init_117 : decode b_init 117 = .ok (.putfield 54, 3) := by decide +kernel
theorem d_init_120 : decode b_init 120 = .ok (.aload_n 0, 1) := by decide +kernel
theorem d_init_121 : decode b_init 121 = .ok (.getfield 51, 3) := by decide +kernel
theorem d_init_124 : decode b_init 124 = .ok (.iconst 1, 1) := by decide +kernel
theorem d_init_125 : decode b_init 125 = .ok (.invokestatic 57, 3) := by decide +kernel
theorem d_init_128 : decode b_init 128 = .ok (.return_, 1) := by decide +kernel
theorem d_batch_0 : decode b_batch 0 = .ok (.aload_n 0, 1) := by decide +kernel
theorem d_batch_1 : decode b_batch 1 = .ok (.iconst 1, 1) := by decide +kernel
theorem d_batch_2 : decode b_batch 2 = .ok (.invokevirtual 63, 3) := by decide +kernel
theorem d_batch_5 : decode b_batch 5 = .ok (.ifCond .ne 13, 3) := by decide +kernel
theorem d_batch_8 : decode b_batch 8 = .ok (.new 67, 3) := by decide +kernel
theorem d_batch_11 : decode b_batch 11 = .ok (.dup, 1) := by decide +kernel
theorem d_batch_12 : decode b_batch 12 = .ok (.ldc 69, 2) := by decide +kernel
theorem d_batch_14 : decode b_batch 14 = .ok (.invokespecial 71, 3) := by decide +kernel
theorem d_batch_17 : decode b_batch 17 = .ok (.athrow, 1) := by decide +kernel
theorem d_batch_18 : decode b_batch 18 = .ok (.aload_n 0, 1) := by decide +kernel
theorem d_batch_19 : decode b_batch 19 = .ok (.invokevirtual 74, 3) := by decide +kernel
theorem d_batch_22 : decode b_batch 22 = .ok (.ireturn, 1) := by decide +kernel
theorem d_entry_0 : decode b_entry 0 = .ok (.aload_n 0, 1) := by decide +kernel
theorem d_entry_1 : decode b_entry 1 = .ok (.iload_n 1, 1) := by decide +kernel
theorem d_entry_2 : decode b_entry 2 = .ok (.invokevirtual 78, 3) := by decide +kernel
theorem d_entry_5 : decode b_entry 5 = .ok (.iload_n 2, 1) := by decide +kernel
theorem d_entry_6 : decode b_entry 6 = .ok (.invokestatic 82, 3) := by decide +kernel
theorem d_entry_9 : decode b_entry 9 = .ok (.iload_n 3, 1) := by decide +kernel
theorem d_entry_10 : decode b_entry 10 = .ok (.invokestatic 85, 3) := by decide +kernel
theorem d_entry_13 : decode b_entry 13 = .ok (.iload 4, 2) := by decide +kernel
theorem d_entry_15 : decode b_entry 15 = .ok (.invokestatic 88, 3) := by decide +kernel
theorem d_entry_18 : decode b_entry 18 = .ok (.aload_n 0, 1) := by decide +kernel
theorem d_entry_19 : decode b_entry 19 = .ok (.getfield 9, 3) := by decide +kernel
theorem d_entry_22 : decode b_entry 22 = .ok (.iload_n 1, 1) := by decide +kernel
theorem d_entry_23 : decode b_entry 23 = .ok (.iaload, 1) := by decide +kernel
theorem d_entry_24 : decode b_entry 24 = .ok (.ifCond .eq 13, 3) := by decide +kernel
theorem d_entry_27 : decode b_entry 27 = .ok (.new 91, 3) := by decide +kernel
theorem d_entry_30 : decode b_entry 30 = .ok (.dup, 1) := by decide +kernel
theorem d_entry_31 : decode b_entry 31 = .ok (.ldc 93, 2) := by decide +kernel
theorem d_entry_33 : decode b_entry 33 = .ok (.invokespecial 95, 3) := by decide +kernel
theorem d_entry_36 : decode b_entry 36 = .ok (.athrow, 1) := by decide +kernel
theorem d_entry_37 : decode b_entry 37 = .ok (.aload_n 0, 1) := by decide +kernel
theorem d_entry_38 : decode b_entry 38 = .ok (.getfield 13, 3) := by decide +kernel
theorem d_entry_41 : decode b_entry 41 = .ok (.iload_n 1, 1) := by decide +kernel
theorem d_entry_42 : decode b_entry 42 = .ok (.iaload, 1) := by decide +kernel
theorem d_entry_43 : decode b_entry 43 = .ok (.bipush 8, 2) := by decide +kernel
theorem d_entry_45 : decode b_entry 45 = .ok (.if_icmp .lt 13, 3) := by decide +kernel
theorem d_entry_48 : decode b_entry 48 = .ok (.new 67, 3) := by decide +kernel
theorem d_entry_51 : decode b_entry 51 = .ok (.dup, 1) := by decide +kernel
theorem d_entry_52 : decode b_entry 52 = .ok (.ldc 96, 2) := by decide +kernel
theorem d_entry_54 : decode b_entry 54 = .ok (.invokespecial 71, 3) := by decide +kernel
theorem d_entry_57 : decode b_entry 57 = .ok (.athrow, 1) := by decide +kernel
theorem d_entry_58 : decode b_entry 58 = .ok (.aload_n 0, 1) := by decide +kernel
theorem d_entry_59 : decode b_entry 59 = .ok (.iload_n 1, 1) := by decide +kernel
theorem d_entry_60 : decode b_entry 60 = .ok (.iload_n 2, 1) := by decide +kernel
theorem d_entry_61 : decode b_entry 61 = .ok (.iload_n 3, 1) := by decide +kernel
theorem d_entry_62 : decode b_entry 62 = .ok (.invokestatic 98, 3) := by decide +kernel
theorem d_entry_65 : decode b_entry 65 = .ok (.iload 4, 2) := by decide +kernel
theorem d_entry_67 : decode b_entry 67 = .ok (.invokevirtual 102, 3) := by decide +kernel
theorem d_entry_70 : decode b_entry 70 = .ok (.aload_n 0, 1) := by decide +kernel
theorem d_entry_71 : decode b_entry 71 = .ok (.getfield 13, 3) := by decide +kernel
theorem d_entry_74 : decode b_entry 74 = .ok (.iload_n 1, 1) := by decide +kernel
theorem d_entry_75 : decode b_entry 75 = .ok (.iaload, 1) := by decide +kernel
theorem d_entry_76 : decode b_entry 76 = .ok (.ireturn, 1) := by decide +kernel
theorem d_hold_0 : decode b_hold 0 = .ok (.aload_n 0, 1) := by decide +kernel
theorem d_hold_1 : decode b_hold 1 = .ok (.iload_n 1, 1) := by decide +kernel
theorem d_hold_2 : decode b_hold 2 = .ok (.invokevirtual 78, 3) := by decide +kernel
theorem d_hold_5 : decode b_hold 5 = .ok (.aload_n 0, 1) := by decide +kernel
theorem d_hold_6 : decode b_hold 6 = .ok (.getfield 9, 3) := by decide +kernel
theorem d_hold_9 : decode b_hold 9 = .ok (.iload_n 1, 1) := by decide +kernel
theorem d_hold_10 : decode b_hold 10 = .ok (.iaload, 1) := by decide +kernel
theorem d_hold_11 : decode b_hold 11 = .ok (.ifCond .eq 13, 3) := by decide +kernel
theorem d_hold_14 : decode b_hold 14 = .ok (.new 91, 3) := by decide +kernel
theorem d_hold_17 : decode b_hold 17 = .ok (.dup, 1) := by decide +kernel
theorem d_hold_18 : decode b_hold 18 = .ok (.ldc 93, 2) := by decide +kernel
theorem d_hold_20 : decode b_hold 20 = .ok (.invokespecial 95, 3) := by decide +kernel
theorem d_hold_23 : decode b_hold 23 = .ok (.athrow, 1) := by decide +kernel
theorem d_hold_24 : decode b_hold 24 = .ok (.aload_n 0, 1) := by decide +kernel
theorem d_hold_25 : decode b_hold 25 = .ok (.iload_n 1, 1) := by decide +kernel
theorem d_hold_26 : decode b_hold 26 = .ok (.invokevirtual 106, 3) := by decide +kernel
theorem d_hold_29 : decode b_hold 29 = .ok (.aload_n 0, 1) := by decide +kernel
theorem d_hold_30 : decode b_hold 30 = .ok (.iload_n 1, 1) := by decide +kernel
theorem d_hold_31 : decode b_hold 31 = .ok (.iconst 1, 1) := by decide +kernel
theorem d_hold_32 : decode b_hold 32 = .ok (.invokevirtual 109, 3) := by decide +kernel
theorem d_hold_35 : decode b_hold 35 = .ok (.aload_n 0, 1) := by decide +kernel
theorem d_hold_36 : decode b_hold 36 = .ok (.iload_n 1, 1) := by decide +kernel
theorem d_hold_37 : decode b_hold 37 = .ok (.iconst 1, 1) := by decide +kernel
theorem d_hold_38 : decode b_hold 38 = .ok (.invokevirtual 113, 3) := by decide +kernel
theorem d_hold_41 : decode b_hold 41 = .ok (.aload_n 0, 1) := by decide +kernel
theorem d_hold_42 : decode b_hold 42 = .ok (.getfield 9, 3) := by decide +kernel
theorem d_hold_45 : decode b_hold 45 = .ok (.iload_n 1, 1) := by decide +kernel
theorem d_hold_46 : decode b_hold 46 = .ok (.iconst 1, 1) := by decide +kernel
theorem d_hold_47 : decode b_hold 47 = .ok (.iastore, 1) := by decide +kernel
theorem d_hold_48 : decode b_hold 48 = .ok (.return_, 1) := by decide +kernel
theorem d_free_0 : decode b_free 0 = .ok (.aload_n 0, 1) := by decide +kernel
theorem d_free_1 : decode b_free 1 = .ok (.iload_n 1, 1) := by decide +kernel
theorem d_free_2 : decode b_free 2 = .ok (.invokevirtual 78, 3) := by decide +kernel
theorem d_free_5 : decode b_free 5 = .ok (.aload_n 0, 1) := by decide +kernel
theorem d_free_6 : decode b_free 6 = .ok (.getfield 9, 3) := by decide +kernel
theorem d_free_9 : decode b_free 9 = .ok (.iload_n 1, 1) := by decide +kernel
theorem d_free_10 : decode b_free 10 = .ok (.iaload, 1) := by decide +kernel
theorem d_free_11 : decode b_free 11 = .ok (.iconst 1, 1) := by decide +kernel
theorem d_free_12 : decode b_free 12 = .ok (.if_icmp .eq 13, 3) := by decide +kernel
theorem d_free_15 : decode b_free 15 = .ok (.new 91, 3) := by decide +kernel
theorem d_free_18 : decode b_free 18 = .ok (.dup, 1) := by decide +kernel
theorem d_free_19 : decode b_free 19 = .ok (.ldc 116, 2) := by decide +kernel
theorem d_free_21 : decode b_free 21 = .ok (.invokespecial 95, 3) := by decide +kernel
theorem d_free_24 : decode b_free 24 = .ok (.athrow, 1) := by decide +kernel
theorem d_free_25 : decode b_free 25 = .ok (.aload_n 0, 1) := by decide +kernel
theorem d_free_26 : decode b_free 26 = .ok (.iload_n 1, 1) := by decide +kernel
theorem d_free_27 : decode b_free 27 = .ok (.iconst (-1), 1) := by decide +kernel
theorem d_free_28 : decode b_free 28 = .ok (.invokevirtual 113, 3) := by decide +kernel
theorem d_free_31 : decode b_free 31 = .ok (.aload_n 0, 1) := by decide +kernel
theorem d_free_32 : decode b_free 32 = .ok (.getfield 9, 3) := by decide +kernel
theorem d_free_35 : decode b_free 35 = .ok (.iload_n 1, 1) := by decide +kernel
theorem d_free_36 : decode b_free 36 = .ok (.iconst 0, 1) := by decide +kernel
theorem d_free_37 : decode b_free 37 = .ok (.iastore, 1) := by decide +kernel
theorem d_free_38 : decode b_free 38 = .ok (.return_, 1) := by decide +kernel
theorem d_drop_0 : decode b_drop 0 = .ok (.aload_n 0, 1) := by decide +kernel
theorem d_drop_1 : decode b_drop 1 = .ok (.iload_n 1, 1) := by decide +kernel
theorem d_drop_2 : decode b_drop 2 = .ok (.invokevirtual 78, 3) := by decide +kernel
theorem d_drop_5 : decode b_drop 5 = .ok (.aload_n 0, 1) := by decide +kernel
theorem d_drop_6 : decode b_drop 6 = .ok (.iload_n 1, 1) := by decide +kernel
theorem d_drop_7 : decode b_drop 7 = .ok (.invokevirtual 118, 3) := by decide +kernel
theorem d_drop_10 : decode b_drop 10 = .ok (.aload_n 0, 1) := by decide +kernel
theorem d_drop_11 : decode b_drop 11 = .ok (.getfield 9, 3) := by decide +kernel
theorem d_drop_14 : decode b_drop 14 = .ok (.iload_n 1, 1) := by decide +kernel
theorem d_drop_15 : decode b_drop 15 = .ok (.iaload, 1) := by decide +kernel
theorem d_drop_16 : decode b_drop 16 = .ok (.iconst 1, 1) := by decide +kernel
theorem d_drop_17 : decode b_drop 17 = .ok (.if_icmp .ne 9, 3) := by decide +kernel
theorem d_drop_20 : decode b_drop 20 = .ok (.aload_n 0, 1) := by decide +kernel
theorem d_drop_21 : decode b_drop 21 = .ok (.iload_n 1, 1) := by decide +kernel
theorem d_drop_22 : decode b_drop 22 = .ok (.iconst (-1), 1) := by decide +kernel
theorem d_drop_23 : decode b_drop 23 = .ok (.invokevirtual 113, 3) := by decide +kernel
theorem d_drop_26 : decode b_drop 26 = .ok (.aload_n 0, 1) := by decide +kernel
theorem d_drop_27 : decode b_drop 27 = .ok (.getfield 9, 3) := by decide +kernel
theorem d_drop_30 : decode b_drop 30 = .ok (.iload_n 1, 1) := by decide +kernel
theorem d_drop_31 : decode b_drop 31 = .ok (.iconst 4, 1) := by decide +kernel
theorem d_drop_32 : decode b_drop 32 = .ok (.iastore, 1) := by decide +kernel
theorem d_drop_33 : decode b_drop 33 = .ok (.return_, 1) := by decide +kernel
theorem d_post_0 : decode b_post 0 = .ok (.aload_n 0, 1) := by decide +kernel
theorem d_post_1 : decode b_post 1 = .ok (.iload_n 1, 1) := by decide +kernel
theorem d_post_2 : decode b_post 2 = .ok (.invokevirtual 78, 3) := by decide +kernel
theorem d_post_5 : decode b_post 5 = .ok (.iload_n 2, 1) := by decide +kernel
theorem d_post_6 : decode b_post 6 = .ok (.invokestatic 121, 3) := by decide +kernel
theorem d_post_9 : decode b_post 9 = .ok (.aload_n 0, 1) := by decide +kernel
theorem d_post_10 : decode b_post 10 = .ok (.iload_n 1, 1) := by decide +kernel
theorem d_post_11 : decode b_post 11 = .ok (.invokevirtual 118, 3) := by decide +kernel
theorem d_post_14 : decode b_post 14 = .ok (.aload_n 0, 1) := by decide +kernel
theorem d_post_15 : decode b_post 15 = .ok (.iload_n 1, 1) := by decide +kernel
theorem d_post_16 : decode b_post 16 = .ok (.invokevirtual 106, 3) := by decide +kernel
theorem d_post_19 : decode b_post 19 = .ok (.aload_n 0, 1) := by decide +kernel
theorem d_post_20 : decode b_post 20 = .ok (.iload_n 2, 1) := by decide +kernel
theorem d_post_21 : decode b_post 21 = .ok (.invokevirtual 124, 3) := by decide +kernel
theorem d_post_24 : decode b_post 24 = .ok (.aload_n 0, 1) := by decide +kernel
theorem d_post_25 : decode b_post 25 = .ok (.getfield 9, 3) := by decide +kernel
theorem d_post_28 : decode b_post 28 = .ok (.iload_n 1, 1) := by decide +kernel
theorem d_post_29 : decode b_post 29 = .ok (.iaload, 1) := by decide +kernel
theorem d_post_30 : decode b_post 30 = .ok (.iconst 1, 1) := by decide +kernel
theorem d_post_31 : decode b_post 31 = .ok (.if_icmp .ne 12, 3) := by decide +kernel
theorem d_post_34 : decode b_post 34 = .ok (.aload_n 0, 1) := by decide +kernel
theorem d_post_35 : decode b_post 35 = .ok (.iload_n 1, 1) := by decide +kernel
theorem d_post_36 : decode b_post 36 = .ok (.iconst (-1), 1) := by decide +kernel
theorem d_post_37 : decode b_post 37 = .ok (.invokevirtual 113, 3) := by decide +kernel
theorem d_post_40 : decode b_post 40 = .ok (.goto 9, 3) := by decide +kernel
theorem d_post_43 : decode b_post 43 = .ok (.aload_n 0, 1) := by decide +kernel
theorem d_post_44 : decode b_post 44 = .ok (.iload_n 1, 1) := by decide +kernel
theorem d_post_45 : decode b_post 45 = .ok (.iconst 1, 1) := by decide +kernel
theorem d_post_46 : decode b_post 46 = .ok (.invokevirtual 109, 3) := by decide +kernel
theorem d_post_49 : decode b_post 49 = .ok (.aload_n 0, 1) := by decide +kernel
theorem d_post_50 : decode b_post 50 = .ok (.iload_n 1, 1) := by decide +kernel
theorem d_post_51 : decode b_post 51 = .ok (.iload_n 2, 1) := by decide +kernel
theorem d_post_52 : decode b_post 52 = .ok (.invokevirtual 127, 3) := by decide +kernel
theorem d_post_55 : decode b_post 55 = .ok (.return_, 1) := by decide +kernel
theorem d_reverse_0 : decode b_reverse 0 = .ok (.aload_n 0, 1) := by decide +kernel
theorem d_reverse_1 : decode b_reverse 1 = .ok (.iload_n 1, 1) := by decide +kernel
theorem d_reverse_2 : decode b_reverse 2 = .ok (.invokevirtual 78, 3) := by decide +kernel
theorem d_reverse_5 : decode b_reverse 5 = .ok (.iload_n 2, 1) := by decide +kernel
theorem d_reverse_6 : decode b_reverse 6 = .ok (.invokestatic 121, 3) := by decide +kernel
theorem d_reverse_9 : decode b_reverse 9 = .ok (.aload_n 0, 1) := by decide +kernel
theorem d_reverse_10 : decode b_reverse 10 = .ok (.getfield 9, 3) := by decide +kernel
theorem d_reverse_13 : decode b_reverse 13 = .ok (.iload_n 1, 1) := by decide +kernel
theorem d_reverse_14 : decode b_reverse 14 = .ok (.iaload, 1) := by decide +kernel
theorem d_reverse_15 : decode b_reverse 15 = .ok (.iconst 2, 1) := by decide +kernel
theorem d_reverse_16 : decode b_reverse 16 = .ok (.if_icmp .eq 13, 3) := by decide +kernel
theorem d_reverse_19 : decode b_reverse 19 = .ok (.new 91, 3) := by decide +kernel
theorem d_reverse_22 : decode b_reverse 22 = .ok (.dup, 1) := by decide +kernel
theorem d_reverse_23 : decode b_reverse 23 = .ok (.ldc 130, 2) := by decide +kernel
theorem d_reverse_25 : decode b_reverse 25 = .ok (.invokespecial 95, 3) := by decide +kernel
theorem d_reverse_28 : decode b_reverse 28 = .ok (.athrow, 1) := by decide +kernel
theorem d_reverse_29 : decode b_reverse 29 = .ok (.aload_n 0, 1) := by decide +kernel
theorem d_reverse_30 : decode b_reverse 30 = .ok (.iload_n 2, 1) := by decide +kernel
theorem d_reverse_31 : decode b_reverse 31 = .ok (.invokevirtual 124, 3) := by decide +kernel
theorem d_reverse_34 : decode b_reverse 34 = .ok (.iload_n 2, 1) := by decide +kernel
theorem d_reverse_35 : decode b_reverse 35 = .ok (.aload_n 0, 1) := by decide +kernel
theorem d_reverse_36 : decode b_reverse 36 = .ok (.getfield 16, 3) := by decide +kernel
theorem d_reverse_39 : decode b_reverse 39 = .ok (.iload_n 1, 1) := by decide +kernel
theorem d_reverse_40 : decode b_reverse 40 = .ok (.iaload, 1) := by decide +kernel
theorem d_reverse_41 : decode b_reverse 41 = .ok (.if_icmp .ge 13, 3) := by decide +kernel
theorem d_reverse_44 : decode b_reverse 44 = .ok (.new 91, 3) := by decide +kernel
theorem d_reverse_47 : decode b_reverse 47 = .ok (.dup, 1) := by decide +kernel
theorem d_reverse_48 : decode b_reverse 48 = .ok (.ldc 132, 2) := by decide +kernel
theorem d_reverse_50 : decode b_reverse 50 = .ok (.invokespecial 95, 3) := by decide +kernel
theorem d_reverse_53 : decode b_reverse 53 = .ok (.athrow, 1) := by decide +kernel
theorem d_reverse_54 : decode b_reverse 54 = .ok (.aload_n 0, 1) := by decide +kernel
theorem d_reverse_55 : decode b_reverse 55 = .ok (.iconst 1, 1) := by decide +kernel
theorem d_reverse_56 : decode b_reverse 56 = .ok (.invokevirtual 63, 3) := by decide +kernel
theorem d_reverse_59 : decode b_reverse 59 = .ok (.ifCond .ne 13, 3) := by decide +kernel
theorem d_reverse_62 : decode b_reverse 62 = .ok (.new 67, 3) := by decide +kernel
theorem d_reverse_65 : decode b_reverse 65 = .ok (.dup, 1) := by decide +kernel
theorem d_reverse_66 : decode b_reverse 66 = .ok (.ldc 69, 2) := by decide +kernel
theorem d_reverse_68 : decode b_reverse 68 = .ok (.invokespecial 71, 3) := by decide +kernel
theorem d_reverse_71 : decode b_reverse 71 = .ok (.athrow, 1) := by decide +kernel
theorem d_reverse_72 : decode b_reverse 72 = .ok (.aload_n 0, 1) := by decide +kernel
theorem d_reverse_73 : decode b_reverse 73 = .ok (.iload_n 1, 1) := by decide +kernel
theorem d_reverse_74 : decode b_reverse 74 = .ok (.iconst (-1), 1) := by decide +kernel
theorem d_reverse_75 : decode b_reverse 75 = .ok (.invokevirtual 109, 3) := by decide +kernel
theorem d_reverse_78 : decode b_reverse 78 = .ok (.aload_n 0, 1) := by decide +kernel
theorem d_reverse_79 : decode b_reverse 79 = .ok (.iload_n 1, 1) := by decide +kernel
theorem d_reverse_80 : decode b_reverse 80 = .ok (.iload_n 2, 1) := by decide +kernel
theorem d_reverse_81 : decode b_reverse 81 = .ok (.invokevirtual 134, 3) := by decide +kernel
theorem d_reverse_84 : decode b_reverse 84 = .ok (.ireturn, 1) := by decide +kernel
theorem d_undo_0 : decode b_undo 0 = .ok (.iload_n 1, 1) := by decide +kernel
theorem d_undo_1 : decode b_undo 1 = .ok (.invokestatic 121, 3) := by decide +kernel
theorem d_undo_4 : decode b_undo 4 = .ok (.aload_n 0, 1) := by decide +kernel
theorem d_undo_5 : decode b_undo 5 = .ok (.iload_n 1, 1) := by decide +kernel
theorem d_undo_6 : decode b_undo 6 = .ok (.invokevirtual 124, 3) := by decide +kernel
theorem d_undo_9 : decode b_undo 9 = .ok (.aload_n 0, 1) := by decide +kernel
theorem d_undo_10 : decode b_undo 10 = .ok (.iload_n 1, 1) := by decide +kernel
theorem d_undo_11 : decode b_undo 11 = .ok (.invokevirtual 137, 3) := by decide +kernel
theorem d_undo_14 : decode b_undo 14 = .ok (.istore_n 2, 1) := by decide +kernel
theorem d_undo_15 : decode b_undo 15 = .ok (.aload_n 0, 1) := by decide +kernel
theorem d_undo_16 : decode b_undo 16 = .ok (.iload_n 2, 1) := by decide +kernel
theorem d_undo_17 : decode b_undo 17 = .ok (.invokevirtual 63, 3) := by decide +kernel
theorem d_undo_20 : decode b_undo 20 = .ok (.ifCond .ne 13, 3) := by decide +kernel
theorem d_undo_23 : decode b_undo 23 = .ok (.new 67, 3) := by decide +kernel
theorem d_undo_26 : decode b_undo 26 = .ok (.dup, 1) := by decide +kernel
theorem d_undo_27 : decode b_undo 27 = .ok (.ldc 141, 2) := by decide +kernel
theorem d_undo_29 : decode b_undo 29 = .ok (.invokespecial 71, 3) := by decide +kernel
theorem d_undo_32 : decode b_undo 32 = .ok (.athrow, 1) := by decide +kernel
theorem d_undo_33 : decode b_undo 33 = .ok (.aload_n 0, 1) := by decide +kernel
theorem d_undo_34 : decode b_undo 34 = .ok (.iload_n 1, 1) := by decide +kernel
theorem d_undo_35 : decode b_undo 35 = .ok (.invokevirtual 143, 3) := by decide +kernel
theorem d_undo_38 : decode b_undo 38 = .ok (.ifCond .ne 13, 3) := by decide +kernel
theorem d_undo_41 : decode b_undo 41 = .ok (.new 67, 3) := by decide +kernel
theorem d_undo_44 : decode b_undo 44 = .ok (.dup, 1) := by decide +kernel
theorem d_undo_45 : decode b_undo 45 = .ok (.ldc 146, 2) := by decide +kernel
theorem d_undo_47 : decode b_undo 47 = .ok (.invokespecial 71, 3) := by decide +kernel
theorem d_undo_50 : decode b_undo 50 = .ok (.athrow, 1) := by decide +kernel
theorem d_undo_51 : decode b_undo 51 = .ok (.aload_n 0, 1) := by decide +kernel
theorem d_undo_52 : decode b_undo 52 = .ok (.getfield 38, 3) := by decide +kernel
theorem d_undo_55 : decode b_undo 55 = .ok (.iconst 1, 1) := by decide +kernel
theorem d_undo_56 : decode b_undo 56 = .ok (.isub, 1) := by decide +kernel
theorem d_undo_57 : decode b_undo 57 = .ok (.istore_n 3, 1) := by decide +kernel
theorem d_undo_58 : decode b_undo 58 = .ok (.iload_n 3, 1) := by decide +kernel
theorem d_undo_59 : decode b_undo 59 = .ok (.ifCond .lt 35, 3) := by decide +kernel
theorem d_undo_62 : decode b_undo 62 = .ok (.aload_n 0, 1) := by decide +kernel
theorem d_undo_63 : decode b_undo 63 = .ok (.aload_n 0, 1) := by decide +kernel
theorem d_undo_64 : decode b_undo 64 = .ok (.getfield 35, 3) := by decide +kernel
theorem d_undo_67 : decode b_undo 67 = .ok (.iload_n 3, 1) := by decide +kernel
theorem d_undo_68 : decode b_undo 68 = .ok (.iaload, 1) := by decide +kernel
theorem d_undo_69 : decode b_undo 69 = .ok (.iload_n 1, 1) := by decide +kernel
theorem d_undo_70 : decode b_undo 70 = .ok (.invokevirtual 148, 3) := by decide +kernel
theorem d_undo_73 : decode b_undo 73 = .ok (.ifCond .eq 15, 3) := by decide +kernel
theorem d_undo_76 : decode b_undo 76 = .ok (.aload_n 0, 1) := by decide +kernel
theorem d_undo_77 : decode b_undo 77 = .ok (.aload_n 0, 1) := by decide +kernel
theorem d_undo_78 : decode b_undo 78 = .ok (.getfield 35, 3) := by decide +kernel
theorem d_undo_81 : decode b_undo 81 = .ok (.iload_n 3, 1) := by decide +kernel
theorem d_undo_82 : decode b_undo 82 = .ok (.iaload, 1) := by decide +kernel
theorem d_undo_83 : decode b_undo 83 = .ok (.iload_n 1, 1) := by decide +kernel
theorem d_undo_84 : decode b_undo 84 = .ok (.invokevirtual 134, 3) := by decide +kernel
theorem d_undo_87 : decode b_undo 87 = .ok (.pop, 1) := by decide +kernel
theorem d_undo_88 : decode b_undo 88 = .ok (.iinc 3 (-1), 3) := by decide +kernel
theorem d_undo_91 : decode b_undo 91 = .ok (.goto (-33), 3) := by decide +kernel
theorem d_undo_94 : decode b_undo 94 = .ok (.iload_n 2, 1) := by decide +kernel
theorem d_undo_95 : decode b_undo 95 = .ok (.ireturn, 1) := by decide +kernel
theorem d_close_0 : decode b_close 0 = .ok (.iload_n 1, 1) := by decide +kernel
theorem d_close_1 : decode b_close 1 = .ok (.invokestatic 121, 3) := by decide +kernel
theorem d_close_4 : decode b_close 4 = .ok (.iconst 0, 1) := by decide +kernel
theorem d_close_5 : decode b_close 5 = .ok (.iload_n 1, 1) := by decide +kernel
theorem d_close_6 : decode b_close 6 = .ok (.iconst 1, 1) := by decide +kernel
theorem d_close_7 : decode b_close 7 = .ok (.iadd, 1) := by decide +kernel
theorem d_close_8 : decode b_close 8 = .ok (.aload_n 0, 1) := by decide +kernel
theorem d_close_9 : decode b_close 9 = .ok (.getfield 54, 3) := by decide +kernel
theorem d_close_12 : decode b_close 12 = .ok (.isub, 1) := by decide +kernel
theorem d_close_13 : decode b_close 13 = .ok (.invokestatic 152, 3) := by decide +kernel
theorem d_close_16 : decode b_close 16 = .ok (.istore_n 2, 1) := by decide +kernel
theorem d_close_17 : decode b_close 17 = .ok (.aload_n 0, 1) := by decide +kernel
theorem d_close_18 : decode b_close 18 = .ok (.dup, 1) := by decide +kernel
theorem d_close_19 : decode b_close 19 = .ok (.getfield 54, 3) := by decide +kernel
theorem d_close_22 : decode b_close 22 = .ok (.iload_n 2, 1) := by decide +kernel
theorem d_close_23 : decode b_close 23 = .ok (.iadd, 1) := by decide +kernel
theorem d_close_24 : decode b_close 24 = .ok (.putfield 54, 3) := by decide +kernel
theorem d_close_27 : decode b_close 27 = .ok (.iload_n 2, 1) := by decide +kernel
theorem d_close_28 : decode b_close 28 = .ok (.ireturn, 1) := by decide +kernel
theorem d_carry_0 : decode b_carry 0 = .ok (.iload_n 1, 1) := by decide +kernel
theorem d_carry_1 : decode b_carry 1 = .ok (.bipush 10, 2) := by decide +kernel
theorem d_carry_3 : decode b_carry 3 = .ok (.if_icmp .lt 9, 3) := by decide +kernel
theorem d_carry_6 : decode b_carry 6 = .ok (.iload_n 1, 1) := by decide +kernel
theorem d_carry_7 : decode b_carry 7 = .ok (.bipush 15, 2) := by decide +kernel
theorem d_carry_9 : decode b_carry 9 = .ok (.if_icmp .le 13, 3) := by decide +kernel
theorem d_carry_12 : decode b_carry 12 = .ok (.new 157, 3) := by decide +kernel
theorem d_carry_15 : decode b_carry 15 = .ok (.dup, 1) := by decide +kernel
theorem d_carry_16 : decode b_carry 16 = .ok (.ldc 159, 2) := by decide +kernel
theorem d_carry_18 : decode b_carry 18 = .ok (.invokespecial 161, 3) := by decide +kernel
theorem d_carry_21 : decode b_carry 21 = .ok (.athrow, 1) := by decide +kernel
theorem d_carry_22 : decode b_carry 22 = .ok (.iload_n 2, 1) := by decide +kernel
theorem d_carry_23 : decode b_carry 23 = .ok (.invokestatic 162, 3) := by decide +kernel
theorem d_carry_26 : decode b_carry 26 = .ok (.aload_n 0, 1) := by decide +kernel
theorem d_carry_27 : decode b_carry 27 = .ok (.getfield 51, 3) := by decide +kernel
theorem d_carry_30 : decode b_carry 30 = .ok (.iload_n 1, 1) := by decide +kernel
theorem d_carry_31 : decode b_carry 31 = .ok (.bipush 10, 2) := by decide +kernel
theorem d_carry_33 : decode b_carry 33 = .ok (.isub, 1) := by decide +kernel
theorem d_carry_34 : decode b_carry 34 = .ok (.iaload, 1) := by decide +kernel
theorem d_carry_35 : decode b_carry 35 = .ok (.iload_n 2, 1) := by decide +kernel
theorem d_carry_36 : decode b_carry 36 = .ok (.if_icmp .ne 13, 3) := by decide +kernel
theorem d_carry_39 : decode b_carry 39 = .ok (.new 91, 3) := by decide +kernel
theorem d_carry_42 : decode b_carry 42 = .ok (.dup, 1) := by decide +kernel
theorem d_carry_43 : decode b_carry 43 = .ok (.ldc 165, 2) := by decide +kernel
theorem d_carry_45 : decode b_carry 45 = .ok (.invokespecial 95, 3) := by decide +kernel
theorem d_carry_48 : decode b_carry 48 = .ok (.athrow, 1) := by decide +kernel
theorem d_carry_49 : decode b_carry 49 = .ok (.aload_n 0, 1) := by decide +kernel
theorem d_carry_50 : decode b_carry 50 = .ok (.getfield 51, 3) := by decide +kernel
theorem d_carry_53 : decode b_carry 53 = .ok (.iload_n 1, 1) := by decide +kernel
theorem d_carry_54 : decode b_carry 54 = .ok (.bipush 10, 2) := by decide +kernel
theorem d_carry_56 : decode b_carry 56 = .ok (.isub, 1) := by decide +kernel
theorem d_carry_57 : decode b_carry 57 = .ok (.iload_n 2, 1) := by decide +kernel
theorem d_carry_58 : decode b_carry 58 = .ok (.iastore, 1) := by decide +kernel
theorem d_carry_59 : decode b_carry 59 = .ok (.aload_n 0, 1) := by decide +kernel
theorem d_carry_60 : decode b_carry 60 = .ok (.iload_n 1, 1) := by decide +kernel
theorem d_carry_61 : decode b_carry 61 = .ok (.invokevirtual 167, 3) := by decide +kernel
theorem d_carry_64 : decode b_carry 64 = .ok (.lreturn, 1) := by decide +kernel
theorem d_stock_0 : decode b_stock 0 = .ok (.iload_n 1, 1) := by decide +kernel
theorem d_stock_1 : decode b_stock 1 = .ok (.invokestatic 82, 3) := by decide +kernel
theorem d_stock_4 : decode b_stock 4 = .ok (.iload_n 2, 1) := by decide +kernel
theorem d_stock_5 : decode b_stock 5 = .ok (.invokestatic 85, 3) := by decide +kernel
theorem d_stock_8 : decode b_stock 8 = .ok (.aload_n 0, 1) := by decide +kernel
theorem d_stock_9 : decode b_stock 9 = .ok (.getfield 41, 3) := by decide +kernel
theorem d_stock_12 : decode b_stock 12 = .ok (.iload_n 1, 1) := by decide +kernel
theorem d_stock_13 : decode b_stock 13 = .ok (.iload_n 2, 1) := by decide +kernel
theorem d_stock_14 : decode b_stock 14 = .ok (.invokestatic 98, 3) := by decide +kernel
theorem d_stock_17 : decode b_stock 17 = .ok (.laload, 1) := by decide +kernel
theorem d_stock_18 : decode b_stock 18 = .ok (.lreturn, 1) := by decide +kernel
theorem d_upTo_0 : decode b_upTo 0 = .ok (.iload_n 1, 1) := by decide +kernel
theorem d_upTo_1 : decode b_upTo 1 = .ok (.invokestatic 82, 3) := by decide +kernel
theorem d_upTo_4 : decode b_upTo 4 = .ok (.iload_n 2, 1) := by decide +kernel
theorem d_upTo_5 : decode b_upTo 5 = .ok (.invokestatic 85, 3) := by decide +kernel
theorem d_upTo_8 : decode b_upTo 8 = .ok (.iload_n 3, 1) := by decide +kernel
theorem d_upTo_9 : decode b_upTo 9 = .ok (.invokestatic 121, 3) := by decide +kernel
theorem d_upTo_12 : decode b_upTo 12 = .ok (.lconst 0, 1) := by decide +kernel
theorem d_upTo_13 : decode b_upTo 13 = .ok (.lstore 4, 2) := by decide +kernel
theorem d_upTo_15 : decode b_upTo 15 = .ok (.iconst 0, 1) := by decide +kernel
theorem d_upTo_16 : decode b_upTo 16 = .ok (.istore 6, 2) := by decide +kernel
theorem d_upTo_18 : decode b_upTo 18 = .ok (.iload 6, 2) := by decide +kernel
theorem d_upTo_20 : decode b_upTo 20 = .ok (.aload_n 0, 1) := by decide +kernel
theorem d_upTo_21 : decode b_upTo 21 = .ok (.getfield 38, 3) := by decide +kernel
theorem d_upTo_24 : decode b_upTo 24 = .ok (.if_icmp .ge 45, 3) := by decide +kernel
theorem d_upTo_27 : decode b_upTo 27 = .ok (.aload_n 0, 1) := by decide +kernel
theorem d_upTo_28 : decode b_upTo 28 = .ok (.getfield 35, 3) := by decide +kernel
theorem d_upTo_31 : decode b_upTo 31 = .ok (.iload 6, 2) := by decide +kernel
theorem d_upTo_33 : decode b_upTo 33 = .ok (.iaload, 1) := by decide +kernel
theorem d_upTo_34 : decode b_upTo 34 = .ok (.istore 7, 2) := by decide +kernel
theorem d_upTo_36 : decode b_upTo 36 = .ok (.aload_n 0, 1) := by decide +kernel
theorem d_upTo_37 : decode b_upTo 37 = .ok (.getfield 16, 3) := by decide +kernel
theorem d_upTo_40 : decode b_upTo 40 = .ok (.iload 7, 2) := by decide +kernel
theorem d_upTo_42 : decode b_upTo 42 = .ok (.iaload, 1) := by decide +kernel
theorem d_upTo_43 : decode b_upTo 43 = .ok (.iload_n 3, 1) := by decide +kernel
theorem d_upTo_44 : decode b_upTo 44 = .ok (.if_icmp .gt 19, 3) := by decide +kernel
theorem d_upTo_47 : decode b_upTo 47 = .ok (.lload 4, 2) := by decide +kernel
theorem d_upTo_49 : decode b_upTo 49 = .ok (.aload_n 0, 1) := by decide +kernel
theorem d_upTo_50 : decode b_upTo 50 = .ok (.iload 7, 2) := by decide +kernel
theorem d_upTo_52 : decode b_upTo 52 = .ok (.iload_n 1, 1) := by decide +kernel
theorem d_upTo_53 : decode b_upTo 53 = .ok (.iload_n 2, 1) := by decide +kernel
theorem d_upTo_54 : decode b_upTo 54 = .ok (.invokestatic 98, 3) := by decide +kernel
theorem d_upTo_57 : decode b_upTo 57 = .ok (.invokevirtual 171, 3) := by decide +kernel
theorem d_upTo_60 : decode b_upTo 60 = .ok (.ladd, 1) := by decide +kernel
theorem d_upTo_61 : decode b_upTo 61 = .ok (.lstore 4, 2) := by decide +kernel
theorem d_upTo_63 : decode b_upTo 63 = .ok (.iinc 6 1, 3) := by decide +kernel
theorem d_upTo_66 : decode b_upTo 66 = .ok (.goto (-48), 3) := by decide +kernel
theorem d_upTo_69 : decode b_upTo 69 = .ok (.lload 4, 2) := by decide +kernel
theorem d_upTo_71 : decode b_upTo 71 = .ok (.lreturn, 1) := by decide +kernel
theorem d_available_0 : decode b_available 0 = .ok (.iload_n 1, 1) := by decide +kernel
theorem d_available_1 : decode b_available 1 = .ok (.invokestatic 82, 3) := by decide +kernel
theorem d_available_4 : decode b_available 4 = .ok (.iload_n 2, 1) := by decide +kernel
theorem d_available_5 : decode b_available 5 = .ok (.invokestatic 85, 3) := by decide +kernel
theorem d_available_8 : decode b_available 8 = .ok (.aload_n 0, 1) := by decide +kernel
theorem d_available_9 : decode b_available 9 = .ok (.iload_n 1, 1) := by decide +kernel
theorem d_available_10 : decode b_available 10 = .ok (.iload_n 2, 1) := by decide +kernel
theorem d_available_11 : decode b_available 11 = .ok (.invokestatic 98, 3) := by decide +kernel
theorem d_available_14 : decode b_available 14 = .ok (.invokevirtual 175, 3) := by decide +kernel
theorem d_available_17 : decode b_available 17 = .ok (.lreturn, 1) := by decide +kernel
theorem d_at_0 : decode b_at 0 = .ok (.iload_n 1, 1) := by decide +kernel
theorem d_at_1 : decode b_at 1 = .ok (.invokestatic 162, 3) := by decide +kernel
theorem d_at_4 : decode b_at 4 = .ok (.iload_n 2, 1) := by decide +kernel
theorem d_at_5 : decode b_at 5 = .ok (.invokestatic 85, 3) := by decide +kernel
theorem d_at_8 : decode b_at 8 = .ok (.aload_n 0, 1) := by decide +kernel
theorem d_at_9 : decode b_at 9 = .ok (.getfield 41, 3) := by decide +kernel
theorem d_at_12 : decode b_at 12 = .ok (.iload_n 1, 1) := by decide +kernel
theorem d_at_13 : decode b_at 13 = .ok (.iload_n 2, 1) := by decide +kernel
theorem d_at_14 : decode b_at 14 = .ok (.invokestatic 98, 3) := by decide +kernel
theorem d_at_17 : decode b_at 17 = .ok (.laload, 1) := by decide +kernel
theorem d_at_18 : decode b_at 18 = .ok (.lstore_n 3, 1) := by decide +kernel
theorem d_at_19 : decode b_at 19 = .ok (.iconst 0, 1) := by decide +kernel
theorem d_at_20 : decode b_at 20 = .ok (.istore 5, 2) := by decide +kernel
theorem d_at_22 : decode b_at 22 = .ok (.iload 5, 2) := by decide +kernel
theorem d_at_24 : decode b_at 24 = .ok (.bipush 6, 2) := by decide +kernel
theorem d_at_26 : decode b_at 26 = .ok (.if_icmp .ge 37, 3) := by decide +kernel
theorem d_at_29 : decode b_at 29 = .ok (.aload_n 0, 1) := by decide +kernel
theorem d_at_30 : decode b_at 30 = .ok (.getfield 51, 3) := by decide +kernel
theorem d_at_33 : decode b_at 33 = .ok (.iload 5, 2) := by decide +kernel
theorem d_at_35 : decode b_at 35 = .ok (.iaload, 1) := by decide +kernel
theorem d_at_36 : decode b_at 36 = .ok (.iload_n 1, 1) := by decide +kernel
theorem d_at_37 : decode b_at 37 = .ok (.if_icmp .ne 20, 3) := by decide +kernel
theorem d_at_40 : decode b_at 40 = .ok (.lload_n 3, 1) := by decide +kernel
theorem d_at_41 : decode b_at 41 = .ok (.aload_n 0, 1) := by decide +kernel
theorem d_at_42 : decode b_at 42 = .ok (.getfield 41, 3) := by decide +kernel
theorem d_at_45 : decode b_at 45 = .ok (.bipush 10, 2) := by decide +kernel
theorem d_at_47 : decode b_at 47 = .ok (.iload 5, 2) := by decide +kernel
theorem d_at_49 : decode b_at 49 = .ok (.iadd, 1) := by decide +kernel
theorem d_at_50 : decode b_at 50 = .ok (.iload_n 2, 1) := by decide +kernel
theorem d_at_51 : decode b_at 51 = .ok (.invokestatic 98, 3) := by decide +kernel
theorem d_at_54 : decode b_at 54 = .ok (.laload, 1) := by decide +kernel
theorem d_at_55 : decode b_at 55 = .ok (.ladd, 1) := by decide +kernel
theorem d_at_56 : decode b_at 56 = .ok (.lstore_n 3, 1) := by decide +kernel
theorem d_at_57 : decode b_at 57 = .ok (.iinc 5 1, 3) := by decide +kernel
theorem d_at_60 : decode b_at 60 = .ok (.goto (-38), 3) := by decide +kernel
theorem d_at_63 : decode b_at 63 = .ok (.lload_n 3, 1) := by decide +kernel
theorem d_at_64 : decode b_at 64 = .ok (.lreturn, 1) := by decide +kernel
theorem d_row_0 : decode b_row 0 = .ok (.iload_n 1, 1) := by decide +kernel
theorem d_row_1 : decode b_row 1 = .ok (.invokestatic 82, 3) := by decide +kernel
theorem d_row_4 : decode b_row 4 = .ok (.aload_n 0, 1) := by decide +kernel
theorem d_row_5 : decode b_row 5 = .ok (.iload_n 1, 1) := by decide +kernel
theorem d_row_6 : decode b_row 6 = .ok (.iload_n 2, 1) := by decide +kernel
theorem d_row_7 : decode b_row 7 = .ok (.invokevirtual 178, 3) := by decide +kernel
theorem d_row_10 : decode b_row 10 = .ok (.istore 4, 2) := by decide +kernel
theorem d_row_12 : decode b_row 12 = .ok (.iload 4, 2) := by decide +kernel
theorem d_row_14 : decode b_row 14 = .ok (.iconst (-1), 1) := by decide +kernel
theorem d_row_15 : decode b_row 15 = .ok (.if_icmp .ne 13, 3) := by decide +kernel
theorem d_row_18 : decode b_row 18 = .ok (.new 181, 3) := by decide +kernel
theorem d_row_21 : decode b_row 21 = .ok (.dup, 1) := by decide +kernel
theorem d_row_22 : decode b_row 22 = .ok (.ldc 183, 2) := by decide +kernel
theorem d_row_24 : decode b_row 24 = .ok (.invokespecial 185, 3) := by decide +kernel
theorem d_row_27 : decode b_row 27 = .ok (.athrow, 1) := by decide +kernel
theorem d_row_28 : decode b_row 28 = .ok (.iload 4, 2) := by decide +kernel
theorem d_row_30 : decode b_row 30 = .ok (.bipush 8, 2) := by decide +kernel
theorem d_row_32 : decode b_row 32 = .ok (.idiv, 1) := by decide +kernel
theorem d_row_33 : decode b_row 33 = .ok (.istore 5, 2) := by decide +kernel
theorem d_row_35 : decode b_row 35 = .ok (.iload_n 3, 1) := by decide +kernel
theorem d_row_36 : decode b_row 36 = .ok (.tableswitch 62 0 3 #[32, 35, 46, 54], 32) := by decide +kernel
theorem d_row_68 : decode b_row 68 = .ok (.iload 5, 2) := by decide +kernel
theorem d_row_70 : decode b_row 70 = .ok (.ireturn, 1) := by decide +kernel
theorem d_row_71 : decode b_row 71 = .ok (.aload_n 0, 1) := by decide +kernel
theorem d_row_72 : decode b_row 72 = .ok (.getfield 29, 3) := by decide +kernel
theorem d_row_75 : decode b_row 75 = .ok (.iload 4, 2) := by decide +kernel
theorem d_row_77 : decode b_row 77 = .ok (.iaload, 1) := by decide +kernel
theorem d_row_78 : decode b_row 78 = .ok (.bipush 8, 2) := by decide +kernel
theorem d_row_80 : decode b_row 80 = .ok (.irem, 1) := by decide +kernel
theorem d_row_81 : decode b_row 81 = .ok (.ireturn, 1) := by decide +kernel
theorem d_row_82 : decode b_row 82 = .ok (.aload_n 0, 1) := by decide +kernel
theorem d_row_83 : decode b_row 83 = .ok (.getfield 32, 3) := by decide +kernel
theorem d_row_86 : decode b_row 86 = .ok (.iload 4, 2) := by decide +kernel
theorem d_row_88 : decode b_row 88 = .ok (.iaload, 1) := by decide +kernel
theorem d_row_89 : decode b_row 89 = .ok (.ireturn, 1) := by decide +kernel
theorem d_row_90 : decode b_row 90 = .ok (.aload_n 0, 1) := by decide +kernel
theorem d_row_91 : decode b_row 91 = .ok (.getfield 16, 3) := by decide +kernel
theorem d_row_94 : decode b_row 94 = .ok (.iload 5, 2) := by decide +kernel
theorem d_row_96 : decode b_row 96 = .ok (.iaload, 1) := by decide +kernel
theorem d_row_97 : decode b_row 97 = .ok (.ireturn, 1) := by decide +kernel
theorem d_row_98 : decode b_row 98 = .ok (.new 157, 3) := by decide +kernel
theorem d_row_101 : decode b_row 101 = .ok (.dup, 1) := by decide +kernel
theorem d_row_102 : decode b_row 102 = .ok (.ldc 186, 2) := by decide +kernel
theorem d_row_104 : decode b_row 104 = .ok (.invokespecial 161, 3) := by decide +kernel
theorem d_row_107 : decode b_row 107 = .ok (.athrow, 1) := by decide +kernel
theorem d_told_0 : decode b_told 0 = .ok (.aload_n 0, 1) := by decide +kernel
theorem d_told_1 : decode b_told 1 = .ok (.iload_n 1, 1) := by decide +kernel
theorem d_told_2 : decode b_told 2 = .ok (.invokevirtual 78, 3) := by decide +kernel
theorem d_told_5 : decode b_told 5 = .ok (.iload_n 2, 1) := by decide +kernel
theorem d_told_6 : decode b_told 6 = .ok (.tableswitch 69 0 4 #[34, 41, 48, 55, 62], 34) := by decide +kernel
theorem d_told_40 : decode b_told 40 = .ok (.aload_n 0, 1) := by decide +kernel
theorem d_told_41 : decode b_told 41 = .ok (.getfield 9, 3) := by decide +kernel
theorem d_told_44 : decode b_told 44 = .ok (.iload_n 1, 1) := by decide +kernel
theorem d_told_45 : decode b_told 45 = .ok (.iaload, 1) := by decide +kernel
theorem d_told_46 : decode b_told 46 = .ok (.ireturn, 1) := by decide +kernel
theorem d_told_47 : decode b_told 47 = .ok (.aload_n 0, 1) := by decide +kernel
theorem d_told_48 : decode b_told 48 = .ok (.getfield 13, 3) := by decide +kernel
theorem d_told_51 : decode b_told 51 = .ok (.iload_n 1, 1) := by decide +kernel
theorem d_told_52 : decode b_told 52 = .ok (.iaload, 1) := by decide +kernel
theorem d_told_53 : decode b_told 53 = .ok (.ireturn, 1) := by decide +kernel
theorem d_told_54 : decode b_told 54 = .ok (.aload_n 0, 1) := by decide +kernel
theorem d_told_55 : decode b_told 55 = .ok (.getfield 16, 3) := by decide +kernel
theorem d_told_58 : decode b_told 58 = .ok (.iload_n 1, 1) := by decide +kernel
theorem d_told_59 : decode b_told 59 = .ok (.iaload, 1) := by decide +kernel
theorem d_told_60 : decode b_told 60 = .ok (.ireturn, 1) := by decide +kernel
theorem d_told_61 : decode b_told 61 = .ok (.aload_n 0, 1) := by decide +kernel
theorem d_told_62 : decode b_told 62 = .ok (.getfield 19, 3) := by decide +kernel
theorem d_told_65 : decode b_told 65 = .ok (.iload_n 1, 1) := by decide +kernel
theorem d_told_66 : decode b_told 66 = .ok (.iaload, 1) := by decide +kernel
theorem d_told_67 : decode b_told 67 = .ok (.ireturn, 1) := by decide +kernel
theorem d_told_68 : decode b_told 68 = .ok (.aload_n 0, 1) := by decide +kernel
theorem d_told_69 : decode b_told 69 = .ok (.getfield 22, 3) := by decide +kernel
theorem d_told_72 : decode b_told 72 = .ok (.iload_n 1, 1) := by decide +kernel
theorem d_told_73 : decode b_told 73 = .ok (.iaload, 1) := by decide +kernel
theorem d_told_74 : decode b_told 74 = .ok (.ireturn, 1) := by decide +kernel
theorem d_told_75 : decode b_told 75 = .ok (.new 157, 3) := by decide +kernel
theorem d_told_78 : decode b_told 78 = .ok (.dup, 1) := by decide +kernel
theorem d_told_79 : decode b_told 79 = .ok (.ldc 188, 2) := by decide +kernel
theorem d_told_81 : decode b_told 81 = .ok (.invokespecial 161, 3) := by decide +kernel
theorem d_told_84 : decode b_told 84 = .ok (.athrow, 1) := by decide +kernel
theorem d_packed_0 : decode b_packed 0 = .ok (.aload_n 0, 1) := by decide +kernel
theorem d_packed_1 : decode b_packed 1 = .ok (.iload_n 1, 1) := by decide +kernel
theorem d_packed_2 : decode b_packed 2 = .ok (.invokevirtual 78, 3) := by decide +kernel
theorem d_packed_5 : decode b_packed 5 = .ok (.iload_n 2, 1) := by decide +kernel
theorem d_packed_6 : decode b_packed 6 = .ok (.ifCond .lt 13, 3) := by decide +kernel
theorem d_packed_9 : decode b_packed 9 = .ok (.iload_n 2, 1) := by decide +kernel
theorem d_packed_10 : decode b_packed 10 = .ok (.aload_n 0, 1) := by decide +kernel
theorem d_packed_11 : decode b_packed 11 = .ok (.getfield 13, 3) := by decide +kernel
theorem d_packed_14 : decode b_packed 14 = .ok (.iload_n 1, 1) := by decide +kernel
theorem d_packed_15 : decode b_packed 15 = .ok (.iaload, 1) := by decide +kernel
theorem d_packed_16 : decode b_packed 16 = .ok (.if_icmp .lt 13, 3) := by decide +kernel
theorem d_packed_19 : decode b_packed 19 = .ok (.new 181, 3) := by decide +kernel
theorem d_packed_22 : decode b_packed 22 = .ok (.dup, 1) := by decide +kernel
theorem d_packed_23 : decode b_packed 23 = .ok (.ldc 190, 2) := by decide +kernel
theorem d_packed_25 : decode b_packed 25 = .ok (.invokespecial 185, 3) := by decide +kernel
theorem d_packed_28 : decode b_packed 28 = .ok (.athrow, 1) := by decide +kernel
theorem d_packed_29 : decode b_packed 29 = .ok (.iload_n 1, 1) := by decide +kernel
theorem d_packed_30 : decode b_packed 30 = .ok (.iload_n 2, 1) := by decide +kernel
theorem d_packed_31 : decode b_packed 31 = .ok (.invokestatic 192, 3) := by decide +kernel
theorem d_packed_34 : decode b_packed 34 = .ok (.istore_n 3, 1) := by decide +kernel
theorem d_packed_35 : decode b_packed 35 = .ok (.aload_n 0, 1) := by decide +kernel
theorem d_packed_36 : decode b_packed 36 = .ok (.getfield 32, 3) := by decide +kernel
theorem d_packed_39 : decode b_packed 39 = .ok (.iload_n 3, 1) := by decide +kernel
theorem d_packed_40 : decode b_packed 40 = .ok (.iaload, 1) := by decide +kernel
theorem d_packed_41 : decode b_packed 41 = .ok (.i2l, 1) := by decide +kernel
theorem d_packed_42 : decode b_packed 42 = .ok (.ldc2_w 195, 3) := by decide +kernel
theorem d_packed_45 : decode b_packed 45 = .ok (.lmul, 1) := by decide +kernel
theorem d_packed_46 : decode b_packed 46 = .ok (.aload_n 0, 1) := by decide +kernel
theorem d_packed_47 : decode b_packed 47 = .ok (.getfield 29, 3) := by decide +kernel
theorem d_packed_50 : decode b_packed 50 = .ok (.iload_n 3, 1) := by decide +kernel
theorem d_packed_51 : decode b_packed 51 = .ok (.iaload, 1) := by decide +kernel
theorem d_packed_52 : decode b_packed 52 = .ok (.i2l, 1) := by decide +kernel
theorem d_packed_53 : decode b_packed 53 = .ok (.ladd, 1) := by decide +kernel
theorem d_packed_54 : decode b_packed 54 = .ok (.lreturn, 1) := by decide +kernel
theorem d_count_0 : decode b_count 0 = .ok (.iload_n 1, 1) := by decide +kernel
theorem d_count_1 : decode b_count 1 = .ok (.tableswitch 51 0 3 #[31, 36, 41, 46], 31) := by decide +kernel
theorem d_count_32 : decode b_count 32 = .ok (.aload_n 0, 1) := by decide +kernel
theorem d_count_33 : decode b_count 33 = .ok (.getfield 25, 3) := by decide +kernel
theorem d_count_36 : decode b_count 36 = .ok (.ireturn, 1) := by decide +kernel
theorem d_count_37 : decode b_count 37 = .ok (.aload_n 0, 1) := by decide +kernel
theorem d_count_38 : decode b_count 38 = .ok (.invokevirtual 197, 3) := by decide +kernel
theorem d_count_41 : decode b_count 41 = .ok (.ireturn, 1) := by decide +kernel
theorem d_count_42 : decode b_count 42 = .ok (.aload_n 0, 1) := by decide +kernel
theorem d_count_43 : decode b_count 43 = .ok (.invokevirtual 200, 3) := by decide +kernel
theorem d_count_46 : decode b_count 46 = .ok (.ireturn, 1) := by decide +kernel
theorem d_count_47 : decode b_count 47 = .ok (.aload_n 0, 1) := by decide +kernel
theorem d_count_48 : decode b_count 48 = .ok (.getfield 54, 3) := by decide +kernel
theorem d_count_51 : decode b_count 51 = .ok (.ireturn, 1) := by decide +kernel
theorem d_count_52 : decode b_count 52 = .ok (.iconst (-1), 1) := by decide +kernel
theorem d_count_53 : decode b_count 53 = .ok (.ireturn, 1) := by decide +kernel
theorem d_checkBatch_0 : decode b_checkBatch 0 = .ok (.iload_n 1, 1) := by decide +kernel
theorem d_checkBatch_1 : decode b_checkBatch 1 = .ok (.ifCond .lt 11, 3) := by decide +kernel
theorem d_checkBatch_4 : decode b_checkBatch 4 = .ok (.iload_n 1, 1) := by decide +kernel
theorem d_checkBatch_5 : decode b_checkBatch 5 = .ok (.aload_n 0, 1) := by decide +kernel
theorem d_checkBatch_6 : decode b_checkBatch 6 = .ok (.getfield 25, 3) := by decide +kernel
theorem d_checkBatch_9 : decode b_checkBatch 9 = .ok (.if_icmp .lt 13, 3) := by decide +kernel
theorem d_checkBatch_12 : decode b_checkBatch 12 = .ok (.new 181, 3) := by decide +kernel
theorem d_checkBatch_15 : decode b_checkBatch 15 = .ok (.dup, 1) := by decide +kernel
theorem d_checkBatch_16 : decode b_checkBatch 16 = .ok (.ldc 203, 2) := by decide +kernel
theorem d_checkBatch_18 : decode b_checkBatch 18 = .ok (.invokespecial 185, 3) := by decide +kernel
theorem d_checkBatch_21 : decode b_checkBatch 21 = .ok (.athrow, 1) := by decide +kernel
theorem d_checkBatch_22 : decode b_checkBatch 22 = .ok (.return_, 1) := by decide +kernel
theorem d_checkAccount_0 : decode b_checkAccount 0 = .ok (.iload_n 0, 1) := by decide +kernel
theorem d_checkAccount_1 : decode b_checkAccount 1 = .ok (.ifCond .lt 9, 3) := by decide +kernel
theorem d_checkAccount_4 : decode b_checkAccount 4 = .ok (.iload_n 0, 1) := by decide +kernel
theorem d_checkAccount_5 : decode b_checkAccount 5 = .ok (.bipush 15, 2) := by decide +kernel
theorem d_checkAccount_7 : decode b_checkAccount 7 = .ok (.if_icmp .le 13, 3) := by decide +kernel
theorem d_checkAccount_10 : decode b_checkAccount 10 = .ok (.new 157, 3) := by decide +kernel
theorem d_checkAccount_13 : decode b_checkAccount 13 = .ok (.dup, 1) := by decide +kernel
theorem d_checkAccount_14 : decode b_checkAccount 14 = .ok (.ldc 205, 2) := by decide +kernel
theorem d_checkAccount_16 : decode b_checkAccount 16 = .ok (.invokespecial 161, 3) := by decide +kernel
theorem d_checkAccount_19 : decode b_checkAccount 19 = .ok (.athrow, 1) := by decide +kernel
theorem d_checkAccount_20 : decode b_checkAccount 20 = .ok (.return_, 1) := by decide +kernel
theorem d_checkPlace_0 : decode b_checkPlace 0 = .ok (.iload_n 0, 1) := by decide +kernel
theorem d_checkPlace_1 : decode b_checkPlace 1 = .ok (.iconst 1, 1) := by decide +kernel
theorem d_checkPlace_2 : decode b_checkPlace 2 = .ok (.if_icmp .lt 9, 3) := by decide +kernel
theorem d_checkPlace_5 : decode b_checkPlace 5 = .ok (.iload_n 0, 1) := by decide +kernel
theorem d_checkPlace_6 : decode b_checkPlace 6 = .ok (.bipush 9, 2) := by decide +kernel
theorem d_checkPlace_8 : decode b_checkPlace 8 = .ok (.if_icmp .le 13, 3) := by decide +kernel
theorem d_checkPlace_11 : decode b_checkPlace 11 = .ok (.new 157, 3) := by decide +kernel
theorem d_checkPlace_14 : decode b_checkPlace 14 = .ok (.dup, 1) := by decide +kernel
theorem d_checkPlace_15 : decode b_checkPlace 15 = .ok (.ldc 207, 2) := by decide +kernel
theorem d_checkPlace_17 : decode b_checkPlace 17 = .ok (.invokespecial 161, 3) := by decide +kernel
theorem d_checkPlace_20 : decode b_checkPlace 20 = .ok (.athrow, 1) := by decide +kernel
theorem d_checkPlace_21 : decode b_checkPlace 21 = .ok (.return_, 1) := by decide +kernel
theorem d_checkLot_0 : decode b_checkLot 0 = .ok (.iload_n 0, 1) := by decide +kernel
theorem d_checkLot_1 : decode b_checkLot 1 = .ok (.ifCond .lt 9, 3) := by decide +kernel
theorem d_checkLot_4 : decode b_checkLot 4 = .ok (.iload_n 0, 1) := by decide +kernel
theorem d_checkLot_5 : decode b_checkLot 5 = .ok (.bipush 8, 2) := by decide +kernel
theorem d_checkLot_7 : decode b_checkLot 7 = .ok (.if_icmp .lt 13, 3) := by decide +kernel
theorem d_checkLot_10 : decode b_checkLot 10 = .ok (.new 157, 3) := by decide +kernel
theorem d_checkLot_13 : decode b_checkLot 13 = .ok (.dup, 1) := by decide +kernel
theorem d_checkLot_14 : decode b_checkLot 14 = .ok (.ldc 209, 2) := by decide +kernel
theorem d_checkLot_16 : decode b_checkLot 16 = .ok (.invokespecial 161, 3) := by decide +kernel
theorem d_checkLot_19 : decode b_checkLot 19 = .ok (.athrow, 1) := by decide +kernel
theorem d_checkLot_20 : decode b_checkLot 20 = .ok (.return_, 1) := by decide +kernel
theorem d_checkAmount_0 : decode b_checkAmount 0 = .ok (.iload_n 0, 1) := by decide +kernel
theorem d_checkAmount_1 : decode b_checkAmount 1 = .ok (.ldc 211, 2) := by decide +kernel
theorem d_checkAmount_3 : decode b_checkAmount 3 = .ok (.if_icmp .lt 13, 3) := by decide +kernel
theorem d_checkAmount_6 : decode b_checkAmount 6 = .ok (.iload_n 0, 1) := by decide +kernel
theorem d_checkAmount_7 : decode b_checkAmount 7 = .ok (.ldc 212, 2) := by decide +kernel
theorem d_checkAmount_9 : decode b_checkAmount 9 = .ok (.if_icmp .gt 7, 3) := by decide +kernel
theorem d_checkAmount_12 : decode b_checkAmount 12 = .ok (.iload_n 0, 1) := by decide +kernel
theorem d_checkAmount_13 : decode b_checkAmount 13 = .ok (.ifCond .ne 13, 3) := by decide +kernel
theorem d_checkAmount_16 : decode b_checkAmount 16 = .ok (.new 157, 3) := by decide +kernel
theorem d_checkAmount_19 : decode b_checkAmount 19 = .ok (.dup, 1) := by decide +kernel
theorem d_checkAmount_20 : decode b_checkAmount 20 = .ok (.ldc 213, 2) := by decide +kernel
theorem d_checkAmount_22 : decode b_checkAmount 22 = .ok (.invokespecial 161, 3) := by decide +kernel
theorem d_checkAmount_25 : decode b_checkAmount 25 = .ok (.athrow, 1) := by decide +kernel
theorem d_checkAmount_26 : decode b_checkAmount 26 = .ok (.return_, 1) := by decide +kernel
theorem d_checkDay_0 : decode b_checkDay 0 = .ok (.iload_n 0, 1) := by decide +kernel
theorem d_checkDay_1 : decode b_checkDay 1 = .ok (.ifCond .lt 10, 3) := by decide +kernel
theorem d_checkDay_4 : decode b_checkDay 4 = .ok (.iload_n 0, 1) := by decide +kernel
theorem d_checkDay_5 : decode b_checkDay 5 = .ok (.sipush 1000, 3) := by decide +kernel
theorem d_checkDay_8 : decode b_checkDay 8 = .ok (.if_icmp .le 13, 3) := by decide +kernel
theorem d_checkDay_11 : decode b_checkDay 11 = .ok (.new 157, 3) := by decide +kernel
theorem d_checkDay_14 : decode b_checkDay 14 = .ok (.dup, 1) := by decide +kernel
theorem d_checkDay_15 : decode b_checkDay 15 = .ok (.ldc 215, 2) := by decide +kernel
theorem d_checkDay_17 : decode b_checkDay 17 = .ok (.invokespecial 161, 3) := by decide +kernel
theorem d_checkDay_20 : decode b_checkDay 20 = .ok (.athrow, 1) := by decide +kernel
theorem d_checkDay_21 : decode b_checkDay 21 = .ok (.return_, 1) := by decide +kernel
theorem d_checkNotClosed_0 : decode b_checkNotClosed 0 = .ok (.iload_n 1, 1) := by decide +kernel
theorem d_checkNotClosed_1 : decode b_checkNotClosed 1 = .ok (.aload_n 0, 1) := by decide +kernel
theorem d_checkNotClosed_2 : decode b_checkNotClosed 2 = .ok (.getfield 54, 3) := by decide +kernel
theorem d_checkNotClosed_5 : decode b_checkNotClosed 5 = .ok (.if_icmp .ge 13, 3) := by decide +kernel
theorem d_checkNotClosed_8 : decode b_checkNotClosed 8 = .ok (.new 91, 3) := by decide +kernel
theorem d_checkNotClosed_11 : decode b_checkNotClosed 11 = .ok (.dup, 1) := by decide +kernel
theorem d_checkNotClosed_12 : decode b_checkNotClosed 12 = .ok (.ldc 217, 2) := by decide +kernel
theorem d_checkNotClosed_14 : decode b_checkNotClosed 14 = .ok (.invokespecial 95, 3) := by decide +kernel
theorem d_checkNotClosed_17 : decode b_checkNotClosed 17 = .ok (.athrow, 1) := by decide +kernel
theorem d_checkNotClosed_18 : decode b_checkNotClosed 18 = .ok (.return_, 1) := by decide +kernel
theorem d_checkOpenOrHeld_0 : decode b_checkOpenOrHeld 0 = .ok (.aload_n 0, 1) := by decide +kernel
theorem d_checkOpenOrHeld_1 : decode b_checkOpenOrHeld 1 = .ok (.getfield 9, 3) := by decide +kernel
theorem d_checkOpenOrHeld_4 : decode b_checkOpenOrHeld 4 = .ok (.iload_n 1, 1) := by decide +kernel
theorem d_checkOpenOrHeld_5 : decode b_checkOpenOrHeld 5 = .ok (.iaload, 1) := by decide +kernel
theorem d_checkOpenOrHeld_6 : decode b_checkOpenOrHeld 6 = .ok (.ifCond .eq 23, 3) := by decide +kernel
theorem d_checkOpenOrHeld_9 : decode b_checkOpenOrHeld 9 = .ok (.aload_n 0, 1) := by decide +kernel

theorem d_w_batch_0 : decode b_w_batch 0 = .ok (.aload_n 1, 1) := by decide +kernel
theorem d_w_batch_1 : decode b_w_batch 1 = .ok (.iconst 0, 1) := by decide +kernel
theorem d_w_batch_2 : decode b_w_batch 2 = .ok (.aload_n 0, 1) := by decide +kernel
theorem d_w_batch_3 : decode b_w_batch 3 = .ok (.invokevirtual 7, 3) := by decide +kernel
theorem d_w_batch_6 : decode b_w_batch 6 = .ok (.i2l, 1) := by decide +kernel
theorem d_w_batch_7 : decode b_w_batch 7 = .ok (.lastore, 1) := by decide +kernel
theorem d_w_batch_8 : decode b_w_batch 8 = .ok (.goto 6, 3) := by decide +kernel
theorem d_w_batch_11 : decode b_w_batch 11 = .ok (.astore_n 2, 1) := by decide +kernel
theorem d_w_batch_12 : decode b_w_batch 12 = .ok (.iconst 1, 1) := by decide +kernel
theorem d_w_batch_13 : decode b_w_batch 13 = .ok (.ireturn, 1) := by decide +kernel
theorem d_w_batch_14 : decode b_w_batch 14 = .ok (.iconst 0, 1) := by decide +kernel
theorem d_w_batch_15 : decode b_w_batch 15 = .ok (.ireturn, 1) := by decide +kernel
theorem d_w_entry_0 : decode b_w_entry 0 = .ok (.aload 5, 2) := by decide +kernel
theorem d_w_entry_2 : decode b_w_entry 2 = .ok (.iconst 0, 1) := by decide +kernel
theorem d_w_entry_3 : decode b_w_entry 3 = .ok (.aload_n 0, 1) := by decide +kernel
theorem d_w_entry_4 : decode b_w_entry 4 = .ok (.iload_n 1, 1) := by decide +kernel
theorem d_w_entry_5 : decode b_w_entry 5 = .ok (.iload_n 2, 1) := by decide +kernel
theorem d_w_entry_6 : decode b_w_entry 6 = .ok (.iload_n 3, 1) := by decide +kernel
theorem d_w_entry_7 : decode b_w_entry 7 = .ok (.iload 4, 2) := by decide +kernel
theorem d_w_entry_9 : decode b_w_entry 9 = .ok (.invokevirtual 15, 3) := by decide +kernel
theorem d_w_entry_12 : decode b_w_entry 12 = .ok (.i2l, 1) := by decide +kernel
theorem d_w_entry_13 : decode b_w_entry 13 = .ok (.lastore, 1) := by decide +kernel
theorem d_w_entry_14 : decode b_w_entry 14 = .ok (.goto 19, 3) := by decide +kernel
theorem d_w_entry_17 : decode b_w_entry 17 = .ok (.astore 6, 2) := by decide +kernel
theorem d_w_entry_19 : decode b_w_entry 19 = .ok (.iconst 1, 1) := by decide +kernel
theorem d_w_entry_20 : decode b_w_entry 20 = .ok (.ireturn, 1) := by decide +kernel
theorem d_w_entry_21 : decode b_w_entry 21 = .ok (.astore 6, 2) := by decide +kernel
theorem d_w_entry_23 : decode b_w_entry 23 = .ok (.iconst 2, 1) := by decide +kernel
theorem d_w_entry_24 : decode b_w_entry 24 = .ok (.ireturn, 1) := by decide +kernel
theorem d_w_entry_25 : decode b_w_entry 25 = .ok (.astore 6, 2) := by decide +kernel
theorem d_w_entry_27 : decode b_w_entry 27 = .ok (.iconst 3, 1) := by decide +kernel
theorem d_w_entry_28 : decode b_w_entry 28 = .ok (.ireturn, 1) := by decide +kernel
theorem d_w_entry_29 : decode b_w_entry 29 = .ok (.astore 6, 2) := by decide +kernel
theorem d_w_entry_31 : decode b_w_entry 31 = .ok (.iconst 4, 1) := by decide +kernel
theorem d_w_entry_32 : decode b_w_entry 32 = .ok (.ireturn, 1) := by decide +kernel
theorem d_w_entry_33 : decode b_w_entry 33 = .ok (.iconst 0, 1) := by decide +kernel
theorem d_w_entry_34 : decode b_w_entry 34 = .ok (.ireturn, 1) := by decide +kernel
theorem d_w_hold_0 : decode b_w_hold 0 = .ok (.aload_n 0, 1) := by decide +kernel
theorem d_w_hold_1 : decode b_w_hold 1 = .ok (.iload_n 1, 1) := by decide +kernel
theorem d_w_hold_2 : decode b_w_hold 2 = .ok (.invokevirtual 25, 3) := by decide +kernel
theorem d_w_hold_5 : decode b_w_hold 5 = .ok (.goto 12, 3) := by decide +kernel
theorem d_w_hold_8 : decode b_w_hold 8 = .ok (.astore_n 2, 1) := by decide +kernel
theorem d_w_hold_9 : decode b_w_hold 9 = .ok (.iconst 1, 1) := by decide +kernel
theorem d_w_hold_10 : decode b_w_hold 10 = .ok (.ireturn, 1) := by decide +kernel
theorem d_w_hold_11 : decode b_w_hold 11 = .ok (.astore_n 2, 1) := by decide +kernel
theorem d_w_hold_12 : decode b_w_hold 12 = .ok (.iconst 2, 1) := by decide +kernel
theorem d_w_hold_13 : decode b_w_hold 13 = .ok (.ireturn, 1) := by decide +kernel
theorem d_w_hold_14 : decode b_w_hold 14 = .ok (.astore_n 2, 1) := by decide +kernel
theorem d_w_hold_15 : decode b_w_hold 15 = .ok (.iconst 3, 1) := by decide +kernel
theorem d_w_hold_16 : decode b_w_hold 16 = .ok (.ireturn, 1) := by decide +kernel
theorem d_w_hold_17 : decode b_w_hold 17 = .ok (.iconst 0, 1) := by decide +kernel
theorem d_w_hold_18 : decode b_w_hold 18 = .ok (.ireturn, 1) := by decide +kernel
theorem d_w_free_0 : decode b_w_free 0 = .ok (.aload_n 0, 1) := by decide +kernel
theorem d_w_free_1 : decode b_w_free 1 = .ok (.iload_n 1, 1) := by decide +kernel
theorem d_w_free_2 : decode b_w_free 2 = .ok (.invokevirtual 29, 3) := by decide +kernel
theorem d_w_free_5 : decode b_w_free 5 = .ok (.goto 9, 3) := by decide +kernel
theorem d_w_free_8 : decode b_w_free 8 = .ok (.astore_n 2, 1) := by decide +kernel
theorem d_w_free_9 : decode b_w_free 9 = .ok (.iconst 1, 1) := by decide +kernel
theorem d_w_free_10 : decode b_w_free 10 = .ok (.ireturn, 1) := by decide +kernel
theorem d_w_free_11 : decode b_w_free 11 = .ok (.astore_n 2, 1) := by decide +kernel
theorem d_w_free_12 : decode b_w_free 12 = .ok (.iconst 2, 1) := by decide +kernel
theorem d_w_free_13 : decode b_w_free 13 = .ok (.ireturn, 1) := by decide +kernel
theorem d_w_free_14 : decode b_w_free 14 = .ok (.iconst 0, 1) := by decide +kernel
theorem d_w_free_15 : decode b_w_free 15 = .ok (.ireturn, 1) := by decide +kernel
theorem d_w_drop_0 : decode b_w_drop 0 = .ok (.aload_n 0, 1) := by decide +kernel
theorem d_w_drop_1 : decode b_w_drop 1 = .ok (.iload_n 1, 1) := by decide +kernel
theorem d_w_drop_2 : decode b_w_drop 2 = .ok (.invokevirtual 32, 3) := by decide +kernel
theorem d_w_drop_5 : decode b_w_drop 5 = .ok (.goto 9, 3) := by decide +kernel
theorem d_w_drop_8 : decode b_w_drop 8 = .ok (.astore_n 2, 1) := by decide +kernel
theorem d_w_drop_9 : decode b_w_drop 9 = .ok (.iconst 1, 1) := by decide +kernel
theorem d_w_drop_10 : decode b_w_drop 10 = .ok (.ireturn, 1) := by decide +kernel
theorem d_w_drop_11 : decode b_w_drop 11 = .ok (.astore_n 2, 1) := by decide +kernel
theorem d_w_drop_12 : decode b_w_drop 12 = .ok (.iconst 2, 1) := by decide +kernel
theorem d_w_drop_13 : decode b_w_drop 13 = .ok (.ireturn, 1) := by decide +kernel
theorem d_w_drop_14 : decode b_w_drop 14 = .ok (.iconst 0, 1) := by decide +kernel
theorem d_w_drop_15 : decode b_w_drop 15 = .ok (.ireturn, 1) := by decide +kernel
theorem d_w_post_0 : decode b_w_post 0 = .ok (.aload_n 0, 1) := by decide +kernel
theorem d_w_post_1 : decode b_w_post 1 = .ok (.iload_n 1, 1) := by decide +kernel
theorem d_w_post_2 : decode b_w_post 2 = .ok (.iload_n 2, 1) := by decide +kernel
theorem d_w_post_3 : decode b_w_post 3 = .ok (.invokevirtual 35, 3) := by decide +kernel
theorem d_w_post_6 : decode b_w_post 6 = .ok (.goto 15, 3) := by decide +kernel
theorem d_w_post_9 : decode b_w_post 9 = .ok (.astore_n 3, 1) := by decide +kernel
theorem d_w_post_10 : decode b_w_post 10 = .ok (.iconst 1, 1) := by decide +kernel
theorem d_w_post_11 : decode b_w_post 11 = .ok (.ireturn, 1) := by decide +kernel
theorem d_w_post_12 : decode b_w_post 12 = .ok (.astore_n 3, 1) := by decide +kernel
theorem d_w_post_13 : decode b_w_post 13 = .ok (.iconst 2, 1) := by decide +kernel
theorem d_w_post_14 : decode b_w_post 14 = .ok (.ireturn, 1) := by decide +kernel
theorem d_w_post_15 : decode b_w_post 15 = .ok (.astore_n 3, 1) := by decide +kernel
theorem d_w_post_16 : decode b_w_post 16 = .ok (.iconst 3, 1) := by decide +kernel
theorem d_w_post_17 : decode b_w_post 17 = .ok (.ireturn, 1) := by decide +kernel
theorem d_w_post_18 : decode b_w_post 18 = .ok (.astore_n 3, 1) := by decide +kernel
theorem d_w_post_19 : decode b_w_post 19 = .ok (.iconst 4, 1) := by decide +kernel
theorem d_w_post_20 : decode b_w_post 20 = .ok (.ireturn, 1) := by decide +kernel
theorem d_w_post_21 : decode b_w_post 21 = .ok (.iconst 0, 1) := by decide +kernel
theorem d_w_post_22 : decode b_w_post 22 = .ok (.ireturn, 1) := by decide +kernel
theorem d_w_reverse_0 : decode b_w_reverse 0 = .ok (.aload_n 3, 1) := by decide +kernel
theorem d_w_reverse_1 : decode b_w_reverse 1 = .ok (.iconst 0, 1) := by decide +kernel
theorem d_w_reverse_2 : decode b_w_reverse 2 = .ok (.aload_n 0, 1) := by decide +kernel
theorem d_w_reverse_3 : decode b_w_reverse 3 = .ok (.iload_n 1, 1) := by decide +kernel
theorem d_w_reverse_4 : decode b_w_reverse 4 = .ok (.iload_n 2, 1) := by decide +kernel
theorem d_w_reverse_5 : decode b_w_reverse 5 = .ok (.invokevirtual 39, 3) := by decide +kernel
theorem d_w_reverse_8 : decode b_w_reverse 8 = .ok (.i2l, 1) := by decide +kernel
theorem d_w_reverse_9 : decode b_w_reverse 9 = .ok (.lastore, 1) := by decide +kernel
theorem d_w_reverse_10 : decode b_w_reverse 10 = .ok (.goto 19, 3) := by decide +kernel
theorem d_w_reverse_13 : decode b_w_reverse 13 = .ok (.astore 4, 2) := by decide +kernel
theorem d_w_reverse_15 : decode b_w_reverse 15 = .ok (.iconst 1, 1) := by decide +kernel
theorem d_w_reverse_16 : decode b_w_reverse 16 = .ok (.ireturn, 1) := by decide +kernel
theorem d_w_reverse_17 : decode b_w_reverse 17 = .ok (.astore 4, 2) := by decide +kernel
theorem d_w_reverse_19 : decode b_w_reverse 19 = .ok (.iconst 2, 1) := by decide +kernel
theorem d_w_reverse_20 : decode b_w_reverse 20 = .ok (.ireturn, 1) := by decide +kernel
theorem d_w_reverse_21 : decode b_w_reverse 21 = .ok (.astore 4, 2) := by decide +kernel
theorem d_w_reverse_23 : decode b_w_reverse 23 = .ok (.iconst 3, 1) := by decide +kernel
theorem d_w_reverse_24 : decode b_w_reverse 24 = .ok (.ireturn, 1) := by decide +kernel
theorem d_w_reverse_25 : decode b_w_reverse 25 = .ok (.astore 4, 2) := by decide +kernel
theorem d_w_reverse_27 : decode b_w_reverse 27 = .ok (.iconst 4, 1) := by decide +kernel
theorem d_w_reverse_28 : decode b_w_reverse 28 = .ok (.ireturn, 1) := by decide +kernel
theorem d_w_reverse_29 : decode b_w_reverse 29 = .ok (.iconst 0, 1) := by decide +kernel
theorem d_w_reverse_30 : decode b_w_reverse 30 = .ok (.ireturn, 1) := by decide +kernel
theorem d_w_undo_0 : decode b_w_undo 0 = .ok (.aload_n 2, 1) := by decide +kernel
theorem d_w_undo_1 : decode b_w_undo 1 = .ok (.iconst 0, 1) := by decide +kernel
theorem d_w_undo_2 : decode b_w_undo 2 = .ok (.aload_n 0, 1) := by decide +kernel
theorem d_w_undo_3 : decode b_w_undo 3 = .ok (.iload_n 1, 1) := by decide +kernel
theorem d_w_undo_4 : decode b_w_undo 4 = .ok (.invokevirtual 43, 3) := by decide +kernel
theorem d_w_undo_7 : decode b_w_undo 7 = .ok (.i2l, 1) := by decide +kernel
theorem d_w_undo_8 : decode b_w_undo 8 = .ok (.lastore, 1) := by decide +kernel
theorem d_w_undo_9 : decode b_w_undo 9 = .ok (.goto 12, 3) := by decide +kernel
theorem d_w_undo_12 : decode b_w_undo 12 = .ok (.astore_n 3, 1) := by decide +kernel
theorem d_w_undo_13 : decode b_w_undo 13 = .ok (.iconst 1, 1) := by decide +kernel
theorem d_w_undo_14 : decode b_w_undo 14 = .ok (.ireturn, 1) := by decide +kernel
theorem d_w_undo_15 : decode b_w_undo 15 = .ok (.astore_n 3, 1) := by decide +kernel
theorem d_w_undo_16 : decode b_w_undo 16 = .ok (.iconst 2, 1) := by decide +kernel
theorem d_w_undo_17 : decode b_w_undo 17 = .ok (.ireturn, 1) := by decide +kernel
theorem d_w_undo_18 : decode b_w_undo 18 = .ok (.astore_n 3, 1) := by decide +kernel
theorem d_w_undo_19 : decode b_w_undo 19 = .ok (.iconst 3, 1) := by decide +kernel
theorem d_w_undo_20 : decode b_w_undo 20 = .ok (.ireturn, 1) := by decide +kernel
theorem d_w_undo_21 : decode b_w_undo 21 = .ok (.iconst 0, 1) := by decide +kernel
theorem d_w_undo_22 : decode b_w_undo 22 = .ok (.ireturn, 1) := by decide +kernel
theorem d_w_close_0 : decode b_w_close 0 = .ok (.aload_n 2, 1) := by decide +kernel
theorem d_w_close_1 : decode b_w_close 1 = .ok (.iconst 0, 1) := by decide +kernel
theorem d_w_close_2 : decode b_w_close 2 = .ok (.aload_n 0, 1) := by decide +kernel
theorem d_w_close_3 : decode b_w_close 3 = .ok (.iload_n 1, 1) := by decide +kernel
theorem d_w_close_4 : decode b_w_close 4 = .ok (.invokevirtual 47, 3) := by decide +kernel
theorem d_w_close_7 : decode b_w_close 7 = .ok (.i2l, 1) := by decide +kernel
theorem d_w_close_8 : decode b_w_close 8 = .ok (.lastore, 1) := by decide +kernel
theorem d_w_close_9 : decode b_w_close 9 = .ok (.goto 6, 3) := by decide +kernel
theorem d_w_close_12 : decode b_w_close 12 = .ok (.astore_n 3, 1) := by decide +kernel
theorem d_w_close_13 : decode b_w_close 13 = .ok (.iconst 1, 1) := by decide +kernel
theorem d_w_close_14 : decode b_w_close 14 = .ok (.ireturn, 1) := by decide +kernel
theorem d_w_close_15 : decode b_w_close 15 = .ok (.iconst 0, 1) := by decide +kernel
theorem d_w_close_16 : decode b_w_close 16 = .ok (.ireturn, 1) := by decide +kernel
theorem d_w_carry_0 : decode b_w_carry 0 = .ok (.aload_n 3, 1) := by decide +kernel
theorem d_w_carry_1 : decode b_w_carry 1 = .ok (.iconst 0, 1) := by decide +kernel
theorem d_w_carry_2 : decode b_w_carry 2 = .ok (.aload_n 0, 1) := by decide +kernel
theorem d_w_carry_3 : decode b_w_carry 3 = .ok (.iload_n 1, 1) := by decide +kernel
theorem d_w_carry_4 : decode b_w_carry 4 = .ok (.iload_n 2, 1) := by decide +kernel
theorem d_w_carry_5 : decode b_w_carry 5 = .ok (.invokevirtual 50, 3) := by decide +kernel
theorem d_w_carry_8 : decode b_w_carry 8 = .ok (.lastore, 1) := by decide +kernel
theorem d_w_carry_9 : decode b_w_carry 9 = .ok (.goto 11, 3) := by decide +kernel
theorem d_w_carry_12 : decode b_w_carry 12 = .ok (.astore 4, 2) := by decide +kernel
theorem d_w_carry_14 : decode b_w_carry 14 = .ok (.iconst 1, 1) := by decide +kernel
theorem d_w_carry_15 : decode b_w_carry 15 = .ok (.ireturn, 1) := by decide +kernel
theorem d_w_carry_16 : decode b_w_carry 16 = .ok (.astore 4, 2) := by decide +kernel
theorem d_w_carry_18 : decode b_w_carry 18 = .ok (.iconst 2, 1) := by decide +kernel
theorem d_w_carry_19 : decode b_w_carry 19 = .ok (.ireturn, 1) := by decide +kernel
theorem d_w_carry_20 : decode b_w_carry 20 = .ok (.iconst 0, 1) := by decide +kernel
theorem d_w_carry_21 : decode b_w_carry 21 = .ok (.ireturn, 1) := by decide +kernel
theorem d_w_stock_0 : decode b_w_stock 0 = .ok (.aload_n 3, 1) := by decide +kernel
theorem d_w_stock_1 : decode b_w_stock 1 = .ok (.iconst 0, 1) := by decide +kernel
theorem d_w_stock_2 : decode b_w_stock 2 = .ok (.aload_n 0, 1) := by decide +kernel
theorem d_w_stock_3 : decode b_w_stock 3 = .ok (.iload_n 1, 1) := by decide +kernel
theorem d_w_stock_4 : decode b_w_stock 4 = .ok (.iload_n 2, 1) := by decide +kernel
theorem d_w_stock_5 : decode b_w_stock 5 = .ok (.invokevirtual 54, 3) := by decide +kernel
theorem d_w_stock_8 : decode b_w_stock 8 = .ok (.lastore, 1) := by decide +kernel
theorem d_w_stock_9 : decode b_w_stock 9 = .ok (.goto 7, 3) := by decide +kernel
theorem d_w_stock_12 : decode b_w_stock 12 = .ok (.astore 4, 2) := by decide +kernel
theorem d_w_stock_14 : decode b_w_stock 14 = .ok (.iconst 1, 1) := by decide +kernel
theorem d_w_stock_15 : decode b_w_stock 15 = .ok (.ireturn, 1) := by decide +kernel
theorem d_w_stock_16 : decode b_w_stock 16 = .ok (.iconst 0, 1) := by decide +kernel
theorem d_w_stock_17 : decode b_w_stock 17 = .ok (.ireturn, 1) := by decide +kernel
theorem d_w_upTo_0 : decode b_w_upTo 0 = .ok (.aload 4, 2) := by decide +kernel
theorem d_w_upTo_2 : decode b_w_upTo 2 = .ok (.iconst 0, 1) := by decide +kernel
theorem d_w_upTo_3 : decode b_w_upTo 3 = .ok (.aload_n 0, 1) := by decide +kernel
theorem d_w_upTo_4 : decode b_w_upTo 4 = .ok (.iload_n 1, 1) := by decide +kernel
theorem d_w_upTo_5 : decode b_w_upTo 5 = .ok (.iload_n 2, 1) := by decide +kernel
theorem d_w_upTo_6 : decode b_w_upTo 6 = .ok (.iload_n 3, 1) := by decide +kernel
theorem d_w_upTo_7 : decode b_w_upTo 7 = .ok (.invokevirtual 57, 3) := by decide +kernel
theorem d_w_upTo_10 : decode b_w_upTo 10 = .ok (.lastore, 1) := by decide +kernel
theorem d_w_upTo_11 : decode b_w_upTo 11 = .ok (.goto 7, 3) := by decide +kernel
theorem d_w_upTo_14 : decode b_w_upTo 14 = .ok (.astore 5, 2) := by decide +kernel
theorem d_w_upTo_16 : decode b_w_upTo 16 = .ok (.iconst 1, 1) := by decide +kernel
theorem d_w_upTo_17 : decode b_w_upTo 17 = .ok (.ireturn, 1) := by decide +kernel
theorem d_w_upTo_18 : decode b_w_upTo 18 = .ok (.iconst 0, 1) := by decide +kernel
theorem d_w_upTo_19 : decode b_w_upTo 19 = .ok (.ireturn, 1) := by decide +kernel
theorem d_w_available_0 : decode b_w_available 0 = .ok (.aload_n 3, 1) := by decide +kernel
theorem d_w_available_1 : decode b_w_available 1 = .ok (.iconst 0, 1) := by decide +kernel
theorem d_w_available_2 : decode b_w_available 2 = .ok (.aload_n 0, 1) := by decide +kernel
theorem d_w_available_3 : decode b_w_available 3 = .ok (.iload_n 1, 1) := by decide +kernel
theorem d_w_available_4 : decode b_w_available 4 = .ok (.iload_n 2, 1) := by decide +kernel
theorem d_w_available_5 : decode b_w_available 5 = .ok (.invokevirtual 61, 3) := by decide +kernel
theorem d_w_available_8 : decode b_w_available 8 = .ok (.lastore, 1) := by decide +kernel
theorem d_w_available_9 : decode b_w_available 9 = .ok (.goto 7, 3) := by decide +kernel
theorem d_w_available_12 : decode b_w_available 12 = .ok (.astore 4, 2) := by decide +kernel
theorem d_w_available_14 : decode b_w_available 14 = .ok (.iconst 1, 1) := by decide +kernel
theorem d_w_available_15 : decode b_w_available 15 = .ok (.ireturn, 1) := by decide +kernel
theorem d_w_available_16 : decode b_w_available 16 = .ok (.iconst 0, 1) := by decide +kernel
theorem d_w_available_17 : decode b_w_available 17 = .ok (.ireturn, 1) := by decide +kernel
theorem d_w_at_0 : decode b_w_at 0 = .ok (.aload_n 3, 1) := by decide +kernel
theorem d_w_at_1 : decode b_w_at 1 = .ok (.iconst 0, 1) := by decide +kernel
theorem d_w_at_2 : decode b_w_at 2 = .ok (.aload_n 0, 1) := by decide +kernel
theorem d_w_at_3 : decode b_w_at 3 = .ok (.iload_n 1, 1) := by decide +kernel
theorem d_w_at_4 : decode b_w_at 4 = .ok (.iload_n 2, 1) := by decide +kernel
theorem d_w_at_5 : decode b_w_at 5 = .ok (.invokevirtual 64, 3) := by decide +kernel
theorem d_w_at_8 : decode b_w_at 8 = .ok (.lastore, 1) := by decide +kernel
theorem d_w_at_9 : decode b_w_at 9 = .ok (.goto 7, 3) := by decide +kernel
theorem d_w_at_12 : decode b_w_at 12 = .ok (.astore 4, 2) := by decide +kernel
theorem d_w_at_14 : decode b_w_at 14 = .ok (.iconst 1, 1) := by decide +kernel
theorem d_w_at_15 : decode b_w_at 15 = .ok (.ireturn, 1) := by decide +kernel
theorem d_w_at_16 : decode b_w_at 16 = .ok (.iconst 0, 1) := by decide +kernel
theorem d_w_at_17 : decode b_w_at 17 = .ok (.ireturn, 1) := by decide +kernel
theorem d_w_row_0 : decode b_w_row 0 = .ok (.aload 4, 2) := by decide +kernel
theorem d_w_row_2 : decode b_w_row 2 = .ok (.iconst 0, 1) := by decide +kernel
theorem d_w_row_3 : decode b_w_row 3 = .ok (.aload_n 0, 1) := by decide +kernel
theorem d_w_row_4 : decode b_w_row 4 = .ok (.iload_n 1, 1) := by decide +kernel
theorem d_w_row_5 : decode b_w_row 5 = .ok (.iload_n 2, 1) := by decide +kernel
theorem d_w_row_6 : decode b_w_row 6 = .ok (.iload_n 3, 1) := by decide +kernel
theorem d_w_row_7 : decode b_w_row 7 = .ok (.invokevirtual 67, 3) := by decide +kernel
theorem d_w_row_10 : decode b_w_row 10 = .ok (.i2l, 1) := by decide +kernel
theorem d_w_row_11 : decode b_w_row 11 = .ok (.lastore, 1) := by decide +kernel
theorem d_w_row_12 : decode b_w_row 12 = .ok (.goto 11, 3) := by decide +kernel
theorem d_w_row_15 : decode b_w_row 15 = .ok (.astore 5, 2) := by decide +kernel
theorem d_w_row_17 : decode b_w_row 17 = .ok (.iconst 1, 1) := by decide +kernel
theorem d_w_row_18 : decode b_w_row 18 = .ok (.ireturn, 1) := by decide +kernel
theorem d_w_row_19 : decode b_w_row 19 = .ok (.astore 5, 2) := by decide +kernel
theorem d_w_row_21 : decode b_w_row 21 = .ok (.iconst 2, 1) := by decide +kernel
theorem d_w_row_22 : decode b_w_row 22 = .ok (.ireturn, 1) := by decide +kernel
theorem d_w_row_23 : decode b_w_row 23 = .ok (.iconst 0, 1) := by decide +kernel
theorem d_w_row_24 : decode b_w_row 24 = .ok (.ireturn, 1) := by decide +kernel
theorem d_w_told_0 : decode b_w_told 0 = .ok (.aload_n 3, 1) := by decide +kernel
theorem d_w_told_1 : decode b_w_told 1 = .ok (.iconst 0, 1) := by decide +kernel
theorem d_w_told_2 : decode b_w_told 2 = .ok (.aload_n 0, 1) := by decide +kernel
theorem d_w_told_3 : decode b_w_told 3 = .ok (.iload_n 1, 1) := by decide +kernel
theorem d_w_told_4 : decode b_w_told 4 = .ok (.iload_n 2, 1) := by decide +kernel
theorem d_w_told_5 : decode b_w_told 5 = .ok (.invokevirtual 71, 3) := by decide +kernel
theorem d_w_told_8 : decode b_w_told 8 = .ok (.i2l, 1) := by decide +kernel
theorem d_w_told_9 : decode b_w_told 9 = .ok (.lastore, 1) := by decide +kernel
theorem d_w_told_10 : decode b_w_told 10 = .ok (.goto 11, 3) := by decide +kernel
theorem d_w_told_13 : decode b_w_told 13 = .ok (.astore 4, 2) := by decide +kernel
theorem d_w_told_15 : decode b_w_told 15 = .ok (.iconst 1, 1) := by decide +kernel
theorem d_w_told_16 : decode b_w_told 16 = .ok (.ireturn, 1) := by decide +kernel
theorem d_w_told_17 : decode b_w_told 17 = .ok (.astore 4, 2) := by decide +kernel
theorem d_w_told_19 : decode b_w_told 19 = .ok (.iconst 2, 1) := by decide +kernel
theorem d_w_told_20 : decode b_w_told 20 = .ok (.ireturn, 1) := by decide +kernel
theorem d_w_told_21 : decode b_w_told 21 = .ok (.iconst 0, 1) := by decide +kernel
theorem d_w_told_22 : decode b_w_told 22 = .ok (.ireturn, 1) := by decide +kernel
theorem d_w_packed_0 : decode b_w_packed 0 = .ok (.aload_n 3, 1) := by decide +kernel
theorem d_w_packed_1 : decode b_w_packed 1 = .ok (.iconst 0, 1) := by decide +kernel
theorem d_w_packed_2 : decode b_w_packed 2 = .ok (.aload_n 0, 1) := by decide +kernel
theorem d_w_packed_3 : decode b_w_packed 3 = .ok (.iload_n 1, 1) := by decide +kernel
theorem d_w_packed_4 : decode b_w_packed 4 = .ok (.iload_n 2, 1) := by decide +kernel
theorem d_w_packed_5 : decode b_w_packed 5 = .ok (.invokevirtual 74, 3) := by decide +kernel
theorem d_w_packed_8 : decode b_w_packed 8 = .ok (.lastore, 1) := by decide +kernel
theorem d_w_packed_9 : decode b_w_packed 9 = .ok (.goto 7, 3) := by decide +kernel
theorem d_w_packed_12 : decode b_w_packed 12 = .ok (.astore 4, 2) := by decide +kernel
theorem d_w_packed_14 : decode b_w_packed 14 = .ok (.iconst 1, 1) := by decide +kernel
theorem d_w_packed_15 : decode b_w_packed 15 = .ok (.ireturn, 1) := by decide +kernel
theorem d_w_packed_16 : decode b_w_packed 16 = .ok (.iconst 0, 1) := by decide +kernel
theorem d_w_packed_17 : decode b_w_packed 17 = .ok (.ireturn, 1) := by decide +kernel

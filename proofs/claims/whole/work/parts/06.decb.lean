theorem d_checkOpenOrHeld_10 : decode b_checkOpenOrHeld 10 = .ok (.getfield 9, 3) := by decide +kernel
theorem d_checkOpenOrHeld_13 : decode b_checkOpenOrHeld 13 = .ok (.iload_n 1, 1) := by decide +kernel
theorem d_checkOpenOrHeld_14 : decode b_checkOpenOrHeld 14 = .ok (.iaload, 1) := by decide +kernel
theorem d_checkOpenOrHeld_15 : decode b_checkOpenOrHeld 15 = .ok (.iconst 1, 1) := by decide +kernel
theorem d_checkOpenOrHeld_16 : decode b_checkOpenOrHeld 16 = .ok (.if_icmp .eq 13, 3) := by decide +kernel
theorem d_checkOpenOrHeld_19 : decode b_checkOpenOrHeld 19 = .ok (.new 91, 3) := by decide +kernel
theorem d_checkOpenOrHeld_22 : decode b_checkOpenOrHeld 22 = .ok (.dup, 1) := by decide +kernel
theorem d_checkOpenOrHeld_23 : decode b_checkOpenOrHeld 23 = .ok (.ldc 219, 2) := by decide +kernel
theorem d_checkOpenOrHeld_25 : decode b_checkOpenOrHeld 25 = .ok (.invokespecial 95, 3) := by decide +kernel
theorem d_checkOpenOrHeld_28 : decode b_checkOpenOrHeld 28 = .ok (.athrow, 1) := by decide +kernel
theorem d_checkOpenOrHeld_29 : decode b_checkOpenOrHeld 29 = .ok (.return_, 1) := by decide +kernel
theorem d_checkSound_0 : decode b_checkSound 0 = .ok (.aload_n 0, 1) := by decide +kernel
theorem d_checkSound_1 : decode b_checkSound 1 = .ok (.iload_n 1, 1) := by decide +kernel
theorem d_checkSound_2 : decode b_checkSound 2 = .ok (.invokevirtual 221, 3) := by decide +kernel
theorem d_checkSound_5 : decode b_checkSound 5 = .ok (.ifCond .ne 13, 3) := by decide +kernel
theorem d_checkSound_8 : decode b_checkSound 8 = .ok (.new 91, 3) := by decide +kernel
theorem d_checkSound_11 : decode b_checkSound 11 = .ok (.dup, 1) := by decide +kernel
theorem d_checkSound_12 : decode b_checkSound 12 = .ok (.ldc 224, 2) := by decide +kernel
theorem d_checkSound_14 : decode b_checkSound 14 = .ok (.invokespecial 95, 3) := by decide +kernel
theorem d_checkSound_17 : decode b_checkSound 17 = .ok (.athrow, 1) := by decide +kernel
theorem d_checkSound_18 : decode b_checkSound 18 = .ok (.return_, 1) := by decide +kernel
theorem d_checkEnoughFree_0 : decode b_checkEnoughFree 0 = .ok (.aload_n 0, 1) := by decide +kernel
theorem d_checkEnoughFree_1 : decode b_checkEnoughFree 1 = .ok (.invokevirtual 226, 3) := by decide +kernel
theorem d_checkEnoughFree_4 : decode b_checkEnoughFree 4 = .ok (.aload_n 0, 1) := by decide +kernel
theorem d_checkEnoughFree_5 : decode b_checkEnoughFree 5 = .ok (.iload_n 1, 1) := by decide +kernel
theorem d_checkEnoughFree_6 : decode b_checkEnoughFree 6 = .ok (.iload_n 2, 1) := by decide +kernel
theorem d_checkEnoughFree_7 : decode b_checkEnoughFree 7 = .ok (.invokevirtual 229, 3) := by decide +kernel
theorem d_checkEnoughFree_10 : decode b_checkEnoughFree 10 = .ok (.aload_n 0, 1) := by decide +kernel
theorem d_checkEnoughFree_11 : decode b_checkEnoughFree 11 = .ok (.invokevirtual 232, 3) := by decide +kernel
theorem d_checkEnoughFree_14 : decode b_checkEnoughFree 14 = .ok (.ifCond .ne 13, 3) := by decide +kernel
theorem d_checkEnoughFree_17 : decode b_checkEnoughFree 17 = .ok (.new 67, 3) := by decide +kernel
theorem d_checkEnoughFree_20 : decode b_checkEnoughFree 20 = .ok (.dup, 1) := by decide +kernel
theorem d_checkEnoughFree_21 : decode b_checkEnoughFree 21 = .ok (.ldc 236, 2) := by decide +kernel
theorem d_checkEnoughFree_23 : decode b_checkEnoughFree 23 = .ok (.invokespecial 71, 3) := by decide +kernel
theorem d_checkEnoughFree_26 : decode b_checkEnoughFree 26 = .ok (.athrow, 1) := by decide +kernel
theorem d_checkEnoughFree_27 : decode b_checkEnoughFree 27 = .ok (.return_, 1) := by decide +kernel
theorem d_hasRoomFor_0 : decode b_hasRoomFor 0 = .ok (.iload_n 1, 1) := by decide +kernel
theorem d_hasRoomFor_1 : decode b_hasRoomFor 1 = .ok (.bipush 40, 2) := by decide +kernel
theorem d_hasRoomFor_3 : decode b_hasRoomFor 3 = .ok (.aload_n 0, 1) := by decide +kernel
theorem d_hasRoomFor_4 : decode b_hasRoomFor 4 = .ok (.getfield 25, 3) := by decide +kernel
theorem d_hasRoomFor_7 : decode b_hasRoomFor 7 = .ok (.isub, 1) := by decide +kernel
theorem d_hasRoomFor_8 : decode b_hasRoomFor 8 = .ok (.if_icmp .gt 7, 3) := by decide +kernel
theorem d_hasRoomFor_11 : decode b_hasRoomFor 11 = .ok (.iconst 1, 1) := by decide +kernel
theorem d_hasRoomFor_12 : decode b_hasRoomFor 12 = .ok (.goto 4, 3) := by decide +kernel
theorem d_hasRoomFor_15 : decode b_hasRoomFor 15 = .ok (.iconst 0, 1) := by decide +kernel
theorem d_hasRoomFor_16 : decode b_hasRoomFor 16 = .ok (.ireturn, 1) := by decide +kernel
theorem d_isSound_0 : decode b_isSound 0 = .ok (.aload_n 0, 1) := by decide +kernel
theorem d_isSound_1 : decode b_isSound 1 = .ok (.getfield 13, 3) := by decide +kernel
theorem d_isSound_4 : decode b_isSound 4 = .ok (.iload_n 1, 1) := by decide +kernel
theorem d_isSound_5 : decode b_isSound 5 = .ok (.iaload, 1) := by decide +kernel
theorem d_isSound_6 : decode b_isSound 6 = .ok (.ifCond .ne 5, 3) := by decide +kernel
theorem d_isSound_9 : decode b_isSound 9 = .ok (.iconst 0, 1) := by decide +kernel
theorem d_isSound_10 : decode b_isSound 10 = .ok (.ireturn, 1) := by decide +kernel
theorem d_isSound_11 : decode b_isSound 11 = .ok (.iconst 0, 1) := by decide +kernel
theorem d_isSound_12 : decode b_isSound 12 = .ok (.istore_n 2, 1) := by decide +kernel
theorem d_isSound_13 : decode b_isSound 13 = .ok (.iload_n 2, 1) := by decide +kernel
theorem d_isSound_14 : decode b_isSound 14 = .ok (.bipush 8, 2) := by decide +kernel
theorem d_isSound_16 : decode b_isSound 16 = .ok (.if_icmp .ge 22, 3) := by decide +kernel
theorem d_isSound_19 : decode b_isSound 19 = .ok (.aload_n 0, 1) := by decide +kernel
theorem d_isSound_20 : decode b_isSound 20 = .ok (.iload_n 1, 1) := by decide +kernel
theorem d_isSound_21 : decode b_isSound 21 = .ok (.iload_n 2, 1) := by decide +kernel
theorem d_isSound_22 : decode b_isSound 22 = .ok (.invokevirtual 238, 3) := by decide +kernel
theorem d_isSound_25 : decode b_isSound 25 = .ok (.lconst 0, 1) := by decide +kernel
theorem d_isSound_26 : decode b_isSound 26 = .ok (.lcmp, 1) := by decide +kernel
theorem d_isSound_27 : decode b_isSound 27 = .ok (.ifCond .eq 5, 3) := by decide +kernel
theorem d_isSound_30 : decode b_isSound 30 = .ok (.iconst 0, 1) := by decide +kernel
theorem d_isSound_31 : decode b_isSound 31 = .ok (.ireturn, 1) := by decide +kernel
theorem d_isSound_32 : decode b_isSound 32 = .ok (.iinc 2 1, 3) := by decide +kernel
theorem d_isSound_35 : decode b_isSound 35 = .ok (.goto (-22), 3) := by decide +kernel
theorem d_isSound_38 : decode b_isSound 38 = .ok (.iconst 1, 1) := by decide +kernel
theorem d_isSound_39 : decode b_isSound 39 = .ok (.ireturn, 1) := by decide +kernel
theorem d_sumOfLot_0 : decode b_sumOfLot 0 = .ok (.lconst 0, 1) := by decide +kernel
theorem d_sumOfLot_1 : decode b_sumOfLot 1 = .ok (.lstore_n 3, 1) := by decide +kernel
theorem d_sumOfLot_2 : decode b_sumOfLot 2 = .ok (.iconst 0, 1) := by decide +kernel
theorem d_sumOfLot_3 : decode b_sumOfLot 3 = .ok (.istore 5, 2) := by decide +kernel
theorem d_sumOfLot_5 : decode b_sumOfLot 5 = .ok (.iload 5, 2) := by decide +kernel
theorem d_sumOfLot_7 : decode b_sumOfLot 7 = .ok (.aload_n 0, 1) := by decide +kernel
theorem d_sumOfLot_8 : decode b_sumOfLot 8 = .ok (.getfield 13, 3) := by decide +kernel
theorem d_sumOfLot_11 : decode b_sumOfLot 11 = .ok (.iload_n 1, 1) := by decide +kernel
theorem d_sumOfLot_12 : decode b_sumOfLot 12 = .ok (.iaload, 1) := by decide +kernel
theorem d_sumOfLot_13 : decode b_sumOfLot 13 = .ok (.if_icmp .ge 42, 3) := by decide +kernel
theorem d_sumOfLot_16 : decode b_sumOfLot 16 = .ok (.iload_n 1, 1) := by decide +kernel
theorem d_sumOfLot_17 : decode b_sumOfLot 17 = .ok (.iload 5, 2) := by decide +kernel
theorem d_sumOfLot_19 : decode b_sumOfLot 19 = .ok (.invokestatic 192, 3) := by decide +kernel
theorem d_sumOfLot_22 : decode b_sumOfLot 22 = .ok (.istore 6, 2) := by decide +kernel
theorem d_sumOfLot_24 : decode b_sumOfLot 24 = .ok (.aload_n 0, 1) := by decide +kernel
theorem d_sumOfLot_25 : decode b_sumOfLot 25 = .ok (.getfield 29, 3) := by decide +kernel
theorem d_sumOfLot_28 : decode b_sumOfLot 28 = .ok (.iload 6, 2) := by decide +kernel
theorem d_sumOfLot_30 : decode b_sumOfLot 30 = .ok (.iaload, 1) := by decide +kernel
theorem d_sumOfLot_31 : decode b_sumOfLot 31 = .ok (.bipush 8, 2) := by decide +kernel
theorem d_sumOfLot_33 : decode b_sumOfLot 33 = .ok (.irem, 1) := by decide +kernel
theorem d_sumOfLot_34 : decode b_sumOfLot 34 = .ok (.iload_n 2, 1) := by decide +kernel
theorem d_sumOfLot_35 : decode b_sumOfLot 35 = .ok (.if_icmp .ne 14, 3) := by decide +kernel
theorem d_sumOfLot_38 : decode b_sumOfLot 38 = .ok (.lload_n 3, 1) := by decide +kernel
theorem d_sumOfLot_39 : decode b_sumOfLot 39 = .ok (.aload_n 0, 1) := by decide +kernel
theorem d_sumOfLot_40 : decode b_sumOfLot 40 = .ok (.getfield 32, 3) := by decide +kernel
theorem d_sumOfLot_43 : decode b_sumOfLot 43 = .ok (.iload 6, 2) := by decide +kernel
theorem d_sumOfLot_45 : decode b_sumOfLot 45 = .ok (.iaload, 1) := by decide +kernel
theorem d_sumOfLot_46 : decode b_sumOfLot 46 = .ok (.i2l, 1) := by decide +kernel
theorem d_sumOfLot_47 : decode b_sumOfLot 47 = .ok (.ladd, 1) := by decide +kernel
theorem d_sumOfLot_48 : decode b_sumOfLot 48 = .ok (.lstore_n 3, 1) := by decide +kernel
theorem d_sumOfLot_49 : decode b_sumOfLot 49 = .ok (.iinc 5 1, 3) := by decide +kernel
theorem d_sumOfLot_52 : decode b_sumOfLot 52 = .ok (.goto (-47), 3) := by decide +kernel
theorem d_sumOfLot_55 : decode b_sumOfLot 55 = .ok (.lload_n 3, 1) := by decide +kernel
theorem d_sumOfLot_56 : decode b_sumOfLot 56 = .ok (.lreturn, 1) := by decide +kernel
theorem d_netOfCell_0 : decode b_netOfCell 0 = .ok (.lconst 0, 1) := by decide +kernel
theorem d_netOfCell_1 : decode b_netOfCell 1 = .ok (.lstore_n 3, 1) := by decide +kernel
theorem d_netOfCell_2 : decode b_netOfCell 2 = .ok (.iconst 0, 1) := by decide +kernel
theorem d_netOfCell_3 : decode b_netOfCell 3 = .ok (.istore 5, 2) := by decide +kernel
theorem d_netOfCell_5 : decode b_netOfCell 5 = .ok (.iload 5, 2) := by decide +kernel
theorem d_netOfCell_7 : decode b_netOfCell 7 = .ok (.aload_n 0, 1) := by decide +kernel
theorem d_netOfCell_8 : decode b_netOfCell 8 = .ok (.getfield 13, 3) := by decide +kernel
theorem d_netOfCell_11 : decode b_netOfCell 11 = .ok (.iload_n 1, 1) := by decide +kernel
theorem d_netOfCell_12 : decode b_netOfCell 12 = .ok (.iaload, 1) := by decide +kernel
theorem d_netOfCell_13 : decode b_netOfCell 13 = .ok (.if_icmp .ge 39, 3) := by decide +kernel
theorem d_netOfCell_16 : decode b_netOfCell 16 = .ok (.iload_n 1, 1) := by decide +kernel
theorem d_netOfCell_17 : decode b_netOfCell 17 = .ok (.iload 5, 2) := by decide +kernel
theorem d_netOfCell_19 : decode b_netOfCell 19 = .ok (.invokestatic 192, 3) := by decide +kernel
theorem d_netOfCell_22 : decode b_netOfCell 22 = .ok (.istore 6, 2) := by decide +kernel
theorem d_netOfCell_24 : decode b_netOfCell 24 = .ok (.aload_n 0, 1) := by decide +kernel
theorem d_netOfCell_25 : decode b_netOfCell 25 = .ok (.getfield 29, 3) := by decide +kernel
theorem d_netOfCell_28 : decode b_netOfCell 28 = .ok (.iload 6, 2) := by decide +kernel
theorem d_netOfCell_30 : decode b_netOfCell 30 = .ok (.iaload, 1) := by decide +kernel
theorem d_netOfCell_31 : decode b_netOfCell 31 = .ok (.iload_n 2, 1) := by decide +kernel
theorem d_netOfCell_32 : decode b_netOfCell 32 = .ok (.if_icmp .ne 14, 3) := by decide +kernel
theorem d_netOfCell_35 : decode b_netOfCell 35 = .ok (.lload_n 3, 1) := by decide +kernel
theorem d_netOfCell_36 : decode b_netOfCell 36 = .ok (.aload_n 0, 1) := by decide +kernel
theorem d_netOfCell_37 : decode b_netOfCell 37 = .ok (.getfield 32, 3) := by decide +kernel
theorem d_netOfCell_40 : decode b_netOfCell 40 = .ok (.iload 6, 2) := by decide +kernel
theorem d_netOfCell_42 : decode b_netOfCell 42 = .ok (.iaload, 1) := by decide +kernel
theorem d_netOfCell_43 : decode b_netOfCell 43 = .ok (.i2l, 1) := by decide +kernel
theorem d_netOfCell_44 : decode b_netOfCell 44 = .ok (.ladd, 1) := by decide +kernel
theorem d_netOfCell_45 : decode b_netOfCell 45 = .ok (.lstore_n 3, 1) := by decide +kernel
theorem d_netOfCell_46 : decode b_netOfCell 46 = .ok (.iinc 5 1, 3) := by decide +kernel
theorem d_netOfCell_49 : decode b_netOfCell 49 = .ok (.goto (-44), 3) := by decide +kernel
theorem d_netOfCell_52 : decode b_netOfCell 52 = .ok (.lload_n 3, 1) := by decide +kernel
theorem d_netOfCell_53 : decode b_netOfCell 53 = .ok (.lreturn, 1) := by decide +kernel
theorem d_sumOfAllLots_0 : decode b_sumOfAllLots 0 = .ok (.lconst 0, 1) := by decide +kernel
theorem d_sumOfAllLots_1 : decode b_sumOfAllLots 1 = .ok (.lstore_n 2, 1) := by decide +kernel
theorem d_sumOfAllLots_2 : decode b_sumOfAllLots 2 = .ok (.iconst 0, 1) := by decide +kernel
theorem d_sumOfAllLots_3 : decode b_sumOfAllLots 3 = .ok (.istore 4, 2) := by decide +kernel
theorem d_sumOfAllLots_5 : decode b_sumOfAllLots 5 = .ok (.iload 4, 2) := by decide +kernel
theorem d_sumOfAllLots_7 : decode b_sumOfAllLots 7 = .ok (.bipush 8, 2) := by decide +kernel
theorem d_sumOfAllLots_9 : decode b_sumOfAllLots 9 = .ok (.if_icmp .ge 23, 3) := by decide +kernel
theorem d_sumOfAllLots_12 : decode b_sumOfAllLots 12 = .ok (.lload_n 2, 1) := by decide +kernel
theorem d_sumOfAllLots_13 : decode b_sumOfAllLots 13 = .ok (.aload_n 0, 1) := by decide +kernel
theorem d_sumOfAllLots_14 : decode b_sumOfAllLots 14 = .ok (.getfield 41, 3) := by decide +kernel
theorem d_sumOfAllLots_17 : decode b_sumOfAllLots 17 = .ok (.iload_n 1, 1) := by decide +kernel
theorem d_sumOfAllLots_18 : decode b_sumOfAllLots 18 = .ok (.iload 4, 2) := by decide +kernel
theorem d_sumOfAllLots_20 : decode b_sumOfAllLots 20 = .ok (.invokestatic 98, 3) := by decide +kernel
theorem d_sumOfAllLots_23 : decode b_sumOfAllLots 23 = .ok (.laload, 1) := by decide +kernel
theorem d_sumOfAllLots_24 : decode b_sumOfAllLots 24 = .ok (.ladd, 1) := by decide +kernel
theorem d_sumOfAllLots_25 : decode b_sumOfAllLots 25 = .ok (.lstore_n 2, 1) := by decide +kernel
theorem d_sumOfAllLots_26 : decode b_sumOfAllLots 26 = .ok (.iinc 4 1, 3) := by decide +kernel
theorem d_sumOfAllLots_29 : decode b_sumOfAllLots 29 = .ok (.goto (-24), 3) := by decide +kernel
theorem d_sumOfAllLots_32 : decode b_sumOfAllLots 32 = .ok (.lload_n 2, 1) := by decide +kernel
theorem d_sumOfAllLots_33 : decode b_sumOfAllLots 33 = .ok (.lreturn, 1) := by decide +kernel
theorem d_cellOf_0 : decode b_cellOf 0 = .ok (.iload_n 0, 1) := by decide +kernel
theorem d_cellOf_1 : decode b_cellOf 1 = .ok (.bipush 8, 2) := by decide +kernel
theorem d_cellOf_3 : decode b_cellOf 3 = .ok (.imul, 1) := by decide +kernel
theorem d_cellOf_4 : decode b_cellOf 4 = .ok (.iload_n 1, 1) := by decide +kernel
theorem d_cellOf_5 : decode b_cellOf 5 = .ok (.iadd, 1) := by decide +kernel
theorem d_cellOf_6 : decode b_cellOf 6 = .ok (.ireturn, 1) := by decide +kernel
theorem d_slotOf_0 : decode b_slotOf 0 = .ok (.iload_n 0, 1) := by decide +kernel
theorem d_slotOf_1 : decode b_slotOf 1 = .ok (.bipush 8, 2) := by decide +kernel
theorem d_slotOf_3 : decode b_slotOf 3 = .ok (.imul, 1) := by decide +kernel
theorem d_slotOf_4 : decode b_slotOf 4 = .ok (.iload_n 1, 1) := by decide +kernel
theorem d_slotOf_5 : decode b_slotOf 5 = .ok (.iadd, 1) := by decide +kernel
theorem d_slotOf_6 : decode b_slotOf 6 = .ok (.ireturn, 1) := by decide +kernel
theorem d_freeOf_0 : decode b_freeOf 0 = .ok (.aload_n 0, 1) := by decide +kernel
theorem d_freeOf_1 : decode b_freeOf 1 = .ok (.getfield 41, 3) := by decide +kernel
theorem d_freeOf_4 : decode b_freeOf 4 = .ok (.iload_n 1, 1) := by decide +kernel
theorem d_freeOf_5 : decode b_freeOf 5 = .ok (.laload, 1) := by decide +kernel
theorem d_freeOf_6 : decode b_freeOf 6 = .ok (.aload_n 0, 1) := by decide +kernel
theorem d_freeOf_7 : decode b_freeOf 7 = .ok (.getfield 45, 3) := by decide +kernel
theorem d_freeOf_10 : decode b_freeOf 10 = .ok (.iload_n 1, 1) := by decide +kernel
theorem d_freeOf_11 : decode b_freeOf 11 = .ok (.laload, 1) := by decide +kernel
theorem d_freeOf_12 : decode b_freeOf 12 = .ok (.lsub, 1) := by decide +kernel
theorem d_freeOf_13 : decode b_freeOf 13 = .ok (.lreturn, 1) := by decide +kernel
theorem d_clearNet_0 : decode b_clearNet 0 = .ok (.aload_n 0, 1) := by decide +kernel
theorem d_clearNet_1 : decode b_clearNet 1 = .ok (.getfield 48, 3) := by decide +kernel
theorem d_clearNet_4 : decode b_clearNet 4 = .ok (.lconst 0, 1) := by decide +kernel
theorem d_clearNet_5 : decode b_clearNet 5 = .ok (.invokestatic 241, 3) := by decide +kernel
theorem d_clearNet_8 : decode b_clearNet 8 = .ok (.return_, 1) := by decide +kernel
theorem d_addToNet_0 : decode b_addToNet 0 = .ok (.iconst 0, 1) := by decide +kernel
theorem d_addToNet_1 : decode b_addToNet 1 = .ok (.istore_n 3, 1) := by decide +kernel
theorem d_addToNet_2 : decode b_addToNet 2 = .ok (.iload_n 3, 1) := by decide +kernel
theorem d_addToNet_3 : decode b_addToNet 3 = .ok (.aload_n 0, 1) := by decide +kernel
theorem d_addToNet_4 : decode b_addToNet 4 = .ok (.getfield 13, 3) := by decide +kernel
theorem d_addToNet_7 : decode b_addToNet 7 = .ok (.iload_n 1, 1) := by decide +kernel
theorem d_addToNet_8 : decode b_addToNet 8 = .ok (.iaload, 1) := by decide +kernel
theorem d_addToNet_9 : decode b_addToNet 9 = .ok (.if_icmp .ge 41, 3) := by decide +kernel
theorem d_addToNet_12 : decode b_addToNet 12 = .ok (.iload_n 1, 1) := by decide +kernel
theorem d_addToNet_13 : decode b_addToNet 13 = .ok (.iload_n 3, 1) := by decide +kernel
theorem d_addToNet_14 : decode b_addToNet 14 = .ok (.invokestatic 192, 3) := by decide +kernel
theorem d_addToNet_17 : decode b_addToNet 17 = .ok (.istore 4, 2) := by decide +kernel
theorem d_addToNet_19 : decode b_addToNet 19 = .ok (.aload_n 0, 1) := by decide +kernel
theorem d_addToNet_20 : decode b_addToNet 20 = .ok (.getfield 48, 3) := by decide +kernel
theorem d_addToNet_23 : decode b_addToNet 23 = .ok (.aload_n 0, 1) := by decide +kernel
theorem d_addToNet_24 : decode b_addToNet 24 = .ok (.getfield 29, 3) := by decide +kernel
theorem d_addToNet_27 : decode b_addToNet 27 = .ok (.iload 4, 2) := by decide +kernel
theorem d_addToNet_29 : decode b_addToNet 29 = .ok (.iaload, 1) := by decide +kernel
theorem d_addToNet_30 : decode b_addToNet 30 = .ok (.dup2, 1) := by decide +kernel
theorem d_addToNet_31 : decode b_addToNet 31 = .ok (.laload, 1) := by decide +kernel
theorem d_addToNet_32 : decode b_addToNet 32 = .ok (.iload_n 2, 1) := by decide +kernel
theorem d_addToNet_33 : decode b_addToNet 33 = .ok (.aload_n 0, 1) := by decide +kernel
theorem d_addToNet_34 : decode b_addToNet 34 = .ok (.getfield 32, 3) := by decide +kernel
theorem d_addToNet_37 : decode b_addToNet 37 = .ok (.iload 4, 2) := by decide +kernel
theorem d_addToNet_39 : decode b_addToNet 39 = .ok (.iaload, 1) := by decide +kernel
theorem d_addToNet_40 : decode b_addToNet 40 = .ok (.imul, 1) := by decide +kernel
theorem d_addToNet_41 : decode b_addToNet 41 = .ok (.i2l, 1) := by decide +kernel
theorem d_addToNet_42 : decode b_addToNet 42 = .ok (.ladd, 1) := by decide +kernel
theorem d_addToNet_43 : decode b_addToNet 43 = .ok (.lastore, 1) := by decide +kernel
theorem d_addToNet_44 : decode b_addToNet 44 = .ok (.iinc 3 1, 3) := by decide +kernel
theorem d_addToNet_47 : decode b_addToNet 47 = .ok (.goto (-45), 3) := by decide +kernel
theorem d_addToNet_50 : decode b_addToNet 50 = .ok (.return_, 1) := by decide +kernel
theorem d_isNetCovered_0 : decode b_isNetCovered 0 = .ok (.bipush 8, 2) := by decide +kernel
theorem d_isNetCovered_2 : decode b_isNetCovered 2 = .ok (.istore_n 1, 1) := by decide +kernel
theorem d_isNetCovered_3 : decode b_isNetCovered 3 = .ok (.iload_n 1, 1) := by decide +kernel
theorem d_isNetCovered_4 : decode b_isNetCovered 4 = .ok (.sipush 128, 3) := by decide +kernel
theorem d_isNetCovered_7 : decode b_isNetCovered 7 = .ok (.if_icmp .ge 28, 3) := by decide +kernel
theorem d_isNetCovered_10 : decode b_isNetCovered 10 = .ok (.aload_n 0, 1) := by decide +kernel
theorem d_isNetCovered_11 : decode b_isNetCovered 11 = .ok (.iload_n 1, 1) := by decide +kernel
theorem d_isNetCovered_12 : decode b_isNetCovered 12 = .ok (.invokevirtual 175, 3) := by decide +kernel
theorem d_isNetCovered_15 : decode b_isNetCovered 15 = .ok (.aload_n 0, 1) := by decide +kernel
theorem d_isNetCovered_16 : decode b_isNetCovered 16 = .ok (.getfield 48, 3) := by decide +kernel
theorem d_isNetCovered_19 : decode b_isNetCovered 19 = .ok (.iload_n 1, 1) := by decide +kernel
theorem d_isNetCovered_20 : decode b_isNetCovered 20 = .ok (.laload, 1) := by decide +kernel
theorem d_isNetCovered_21 : decode b_isNetCovered 21 = .ok (.ladd, 1) := by decide +kernel
theorem d_isNetCovered_22 : decode b_isNetCovered 22 = .ok (.lconst 0, 1) := by decide +kernel
theorem d_isNetCovered_23 : decode b_isNetCovered 23 = .ok (.lcmp, 1) := by decide +kernel
theorem d_isNetCovered_24 : decode b_isNetCovered 24 = .ok (.ifCond .ge 5, 3) := by decide +kernel
theorem d_isNetCovered_27 : decode b_isNetCovered 27 = .ok (.iconst 0, 1) := by decide +kernel
theorem d_isNetCovered_28 : decode b_isNetCovered 28 = .ok (.ireturn, 1) := by decide +kernel
theorem d_isNetCovered_29 : decode b_isNetCovered 29 = .ok (.iinc 1 1, 3) := by decide +kernel
theorem d_isNetCovered_32 : decode b_isNetCovered 32 = .ok (.goto (-29), 3) := by decide +kernel
theorem d_isNetCovered_35 : decode b_isNetCovered 35 = .ok (.iconst 1, 1) := by decide +kernel
theorem d_isNetCovered_36 : decode b_isNetCovered 36 = .ok (.ireturn, 1) := by decide +kernel
theorem d_changeHolds_0 : decode b_changeHolds 0 = .ok (.aload_n 0, 1) := by decide +kernel
theorem d_changeHolds_1 : decode b_changeHolds 1 = .ok (.invokevirtual 226, 3) := by decide +kernel
theorem d_changeHolds_4 : decode b_changeHolds 4 = .ok (.aload_n 0, 1) := by decide +kernel
theorem d_changeHolds_5 : decode b_changeHolds 5 = .ok (.iload_n 1, 1) := by decide +kernel
theorem d_changeHolds_6 : decode b_changeHolds 6 = .ok (.iconst 1, 1) := by decide +kernel
theorem d_changeHolds_7 : decode b_changeHolds 7 = .ok (.invokevirtual 229, 3) := by decide +kernel
theorem d_changeHolds_10 : decode b_changeHolds 10 = .ok (.bipush 8, 2) := by decide +kernel
theorem d_changeHolds_12 : decode b_changeHolds 12 = .ok (.istore_n 3, 1) := by decide +kernel
theorem d_changeHolds_13 : decode b_changeHolds 13 = .ok (.iload_n 3, 1) := by decide +kernel
theorem d_changeHolds_14 : decode b_changeHolds 14 = .ok (.sipush 128, 3) := by decide +kernel
theorem d_changeHolds_17 : decode b_changeHolds 17 = .ok (.if_icmp .ge 38, 3) := by decide +kernel
theorem d_changeHolds_20 : decode b_changeHolds 20 = .ok (.aload_n 0, 1) := by decide +kernel
theorem d_changeHolds_21 : decode b_changeHolds 21 = .ok (.getfield 48, 3) := by decide +kernel
theorem d_changeHolds_24 : decode b_changeHolds 24 = .ok (.iload_n 3, 1) := by decide +kernel
theorem d_changeHolds_25 : decode b_changeHolds 25 = .ok (.laload, 1) := by decide +kernel
theorem d_changeHolds_26 : decode b_changeHolds 26 = .ok (.lconst 0, 1) := by decide +kernel
theorem d_changeHolds_27 : decode b_changeHolds 27 = .ok (.lcmp, 1) := by decide +kernel
theorem d_changeHolds_28 : decode b_changeHolds 28 = .ok (.ifCond .ge 21, 3) := by decide +kernel
theorem d_changeHolds_31 : decode b_changeHolds 31 = .ok (.aload_n 0, 1) := by decide +kernel
theorem d_changeHolds_32 : decode b_changeHolds 32 = .ok (.getfield 45, 3) := by decide +kernel
theorem d_changeHolds_35 : decode b_changeHolds 35 = .ok (.iload_n 3, 1) := by decide +kernel
theorem d_changeHolds_36 : decode b_changeHolds 36 = .ok (.dup2, 1) := by decide +kernel
theorem d_changeHolds_37 : decode b_changeHolds 37 = .ok (.laload, 1) := by decide +kernel
theorem d_changeHolds_38 : decode b_changeHolds 38 = .ok (.iload_n 2, 1) := by decide +kernel
theorem d_changeHolds_39 : decode b_changeHolds 39 = .ok (.i2l, 1) := by decide +kernel
theorem d_changeHolds_40 : decode b_changeHolds 40 = .ok (.aload_n 0, 1) := by decide +kernel
theorem d_changeHolds_41 : decode b_changeHolds 41 = .ok (.getfield 48, 3) := by decide +kernel
theorem d_changeHolds_44 : decode b_changeHolds 44 = .ok (.iload_n 3, 1) := by decide +kernel
theorem d_changeHolds_45 : decode b_changeHolds 45 = .ok (.laload, 1) := by decide +kernel
theorem d_changeHolds_46 : decode b_changeHolds 46 = .ok (.lmul, 1) := by decide +kernel
theorem d_changeHolds_47 : decode b_changeHolds 47 = .ok (.lsub, 1) := by decide +kernel
theorem d_changeHolds_48 : decode b_changeHolds 48 = .ok (.lastore, 1) := by decide +kernel
theorem d_changeHolds_49 : decode b_changeHolds 49 = .ok (.iinc 3 1, 3) := by decide +kernel
theorem d_changeHolds_52 : decode b_changeHolds 52 = .ok (.goto (-39), 3) := by decide +kernel
theorem d_changeHolds_55 : decode b_changeHolds 55 = .ok (.return_, 1) := by decide +kernel
theorem d_addBatch_0 : decode b_addBatch 0 = .ok (.aload_n 0, 1) := by decide +kernel
theorem d_addBatch_1 : decode b_addBatch 1 = .ok (.getfield 25, 3) := by decide +kernel
theorem d_addBatch_4 : decode b_addBatch 4 = .ok (.istore_n 1, 1) := by decide +kernel
theorem d_addBatch_5 : decode b_addBatch 5 = .ok (.aload_n 0, 1) := by decide +kernel
theorem d_addBatch_6 : decode b_addBatch 6 = .ok (.dup, 1) := by decide +kernel
theorem d_addBatch_7 : decode b_addBatch 7 = .ok (.getfield 25, 3) := by decide +kernel
theorem d_addBatch_10 : decode b_addBatch 10 = .ok (.iconst 1, 1) := by decide +kernel
theorem d_addBatch_11 : decode b_addBatch 11 = .ok (.iadd, 1) := by decide +kernel
theorem d_addBatch_12 : decode b_addBatch 12 = .ok (.putfield 25, 3) := by decide +kernel
theorem d_addBatch_15 : decode b_addBatch 15 = .ok (.aload_n 0, 1) := by decide +kernel
theorem d_addBatch_16 : decode b_addBatch 16 = .ok (.getfield 9, 3) := by decide +kernel
theorem d_addBatch_19 : decode b_addBatch 19 = .ok (.iload_n 1, 1) := by decide +kernel
theorem d_addBatch_20 : decode b_addBatch 20 = .ok (.iconst 0, 1) := by decide +kernel
theorem d_addBatch_21 : decode b_addBatch 21 = .ok (.iastore, 1) := by decide +kernel
theorem d_addBatch_22 : decode b_addBatch 22 = .ok (.aload_n 0, 1) := by decide +kernel
theorem d_addBatch_23 : decode b_addBatch 23 = .ok (.getfield 13, 3) := by decide +kernel
theorem d_addBatch_26 : decode b_addBatch 26 = .ok (.iload_n 1, 1) := by decide +kernel
theorem d_addBatch_27 : decode b_addBatch 27 = .ok (.iconst 0, 1) := by decide +kernel
theorem d_addBatch_28 : decode b_addBatch 28 = .ok (.iastore, 1) := by decide +kernel
theorem d_addBatch_29 : decode b_addBatch 29 = .ok (.aload_n 0, 1) := by decide +kernel
theorem d_addBatch_30 : decode b_addBatch 30 = .ok (.getfield 16, 3) := by decide +kernel
theorem d_addBatch_33 : decode b_addBatch 33 = .ok (.iload_n 1, 1) := by decide +kernel
theorem d_addBatch_34 : decode b_addBatch 34 = .ok (.iconst (-1), 1) := by decide +kernel
theorem d_addBatch_35 : decode b_addBatch 35 = .ok (.iastore, 1) := by decide +kernel
theorem d_addBatch_36 : decode b_addBatch 36 = .ok (.aload_n 0, 1) := by decide +kernel
theorem d_addBatch_37 : decode b_addBatch 37 = .ok (.getfield 19, 3) := by decide +kernel
theorem d_addBatch_40 : decode b_addBatch 40 = .ok (.iload_n 1, 1) := by decide +kernel
theorem d_addBatch_41 : decode b_addBatch 41 = .ok (.iconst (-1), 1) := by decide +kernel
theorem d_addBatch_42 : decode b_addBatch 42 = .ok (.iastore, 1) := by decide +kernel
theorem d_addBatch_43 : decode b_addBatch 43 = .ok (.aload_n 0, 1) := by decide +kernel
theorem d_addBatch_44 : decode b_addBatch 44 = .ok (.getfield 22, 3) := by decide +kernel
theorem d_addBatch_47 : decode b_addBatch 47 = .ok (.iload_n 1, 1) := by decide +kernel
theorem d_addBatch_48 : decode b_addBatch 48 = .ok (.iconst (-1), 1) := by decide +kernel
theorem d_addBatch_49 : decode b_addBatch 49 = .ok (.iastore, 1) := by decide +kernel
theorem d_addBatch_50 : decode b_addBatch 50 = .ok (.iload_n 1, 1) := by decide +kernel
theorem d_addBatch_51 : decode b_addBatch 51 = .ok (.ireturn, 1) := by decide +kernel
theorem d_addEntry_0 : decode b_addEntry 0 = .ok (.iload_n 1, 1) := by decide +kernel
theorem d_addEntry_1 : decode b_addEntry 1 = .ok (.aload_n 0, 1) := by decide +kernel
theorem d_addEntry_2 : decode b_addEntry 2 = .ok (.getfield 13, 3) := by decide +kernel
theorem d_addEntry_5 : decode b_addEntry 5 = .ok (.iload_n 1, 1) := by decide +kernel
theorem d_addEntry_6 : decode b_addEntry 6 = .ok (.iaload, 1) := by decide +kernel
theorem d_addEntry_7 : decode b_addEntry 7 = .ok (.invokestatic 192, 3) := by decide +kernel
theorem d_addEntry_10 : decode b_addEntry 10 = .ok (.istore 4, 2) := by decide +kernel
theorem d_addEntry_12 : decode b_addEntry 12 = .ok (.aload_n 0, 1) := by decide +kernel
theorem d_addEntry_13 : decode b_addEntry 13 = .ok (.getfield 29, 3) := by decide +kernel
theorem d_addEntry_16 : decode b_addEntry 16 = .ok (.iload 4, 2) := by decide +kernel
theorem d_addEntry_18 : decode b_addEntry 18 = .ok (.iload_n 2, 1) := by decide +kernel
theorem d_addEntry_19 : decode b_addEntry 19 = .ok (.iastore, 1) := by decide +kernel
theorem d_addEntry_20 : decode b_addEntry 20 = .ok (.aload_n 0, 1) := by decide +kernel
theorem d_addEntry_21 : decode b_addEntry 21 = .ok (.getfield 32, 3) := by decide +kernel
theorem d_addEntry_24 : decode b_addEntry 24 = .ok (.iload 4, 2) := by decide +kernel
theorem d_addEntry_26 : decode b_addEntry 26 = .ok (.iload_n 3, 1) := by decide +kernel
theorem d_addEntry_27 : decode b_addEntry 27 = .ok (.iastore, 1) := by decide +kernel
theorem d_addEntry_28 : decode b_addEntry 28 = .ok (.aload_n 0, 1) := by decide +kernel
theorem d_addEntry_29 : decode b_addEntry 29 = .ok (.getfield 13, 3) := by decide +kernel
theorem d_addEntry_32 : decode b_addEntry 32 = .ok (.iload_n 1, 1) := by decide +kernel
theorem d_addEntry_33 : decode b_addEntry 33 = .ok (.dup2, 1) := by decide +kernel
theorem d_addEntry_34 : decode b_addEntry 34 = .ok (.iaload, 1) := by decide +kernel
theorem d_addEntry_35 : decode b_addEntry 35 = .ok (.iconst 1, 1) := by decide +kernel
theorem d_addEntry_36 : decode b_addEntry 36 = .ok (.iadd, 1) := by decide +kernel
theorem d_addEntry_37 : decode b_addEntry 37 = .ok (.iastore, 1) := by decide +kernel
theorem d_addEntry_38 : decode b_addEntry 38 = .ok (.return_, 1) := by decide +kernel
theorem d_postEntries_0 : decode b_postEntries 0 = .ok (.iconst 0, 1) := by decide +kernel
theorem d_postEntries_1 : decode b_postEntries 1 = .ok (.istore_n 3, 1) := by decide +kernel
theorem d_postEntries_2 : decode b_postEntries 2 = .ok (.iload_n 3, 1) := by decide +kernel
theorem d_postEntries_3 : decode b_postEntries 3 = .ok (.aload_n 0, 1) := by decide +kernel
theorem d_postEntries_4 : decode b_postEntries 4 = .ok (.getfield 13, 3) := by decide +kernel
theorem d_postEntries_7 : decode b_postEntries 7 = .ok (.iload_n 1, 1) := by decide +kernel
theorem d_postEntries_8 : decode b_postEntries 8 = .ok (.iaload, 1) := by decide +kernel
theorem d_postEntries_9 : decode b_postEntries 9 = .ok (.if_icmp .ge 39, 3) := by decide +kernel
theorem d_postEntries_12 : decode b_postEntries 12 = .ok (.iload_n 1, 1) := by decide +kernel
theorem d_postEntries_13 : decode b_postEntries 13 = .ok (.iload_n 3, 1) := by decide +kernel
theorem d_postEntries_14 : decode b_postEntries 14 = .ok (.invokestatic 192, 3) := by decide +kernel
theorem d_postEntries_17 : decode b_postEntries 17 = .ok (.istore 4, 2) := by decide +kernel
theorem d_postEntries_19 : decode b_postEntries 19 = .ok (.aload_n 0, 1) := by decide +kernel
theorem d_postEntries_20 : decode b_postEntries 20 = .ok (.getfield 41, 3) := by decide +kernel
theorem d_postEntries_23 : decode b_postEntries 23 = .ok (.aload_n 0, 1) := by decide +kernel
theorem d_postEntries_24 : decode b_postEntries 24 = .ok (.getfield 29, 3) := by decide +kernel
theorem d_postEntries_27 : decode b_postEntries 27 = .ok (.iload 4, 2) := by decide +kernel
theorem d_postEntries_29 : decode b_postEntries 29 = .ok (.iaload, 1) := by decide +kernel
theorem d_postEntries_30 : decode b_postEntries 30 = .ok (.dup2, 1) := by decide +kernel
theorem d_postEntries_31 : decode b_postEntries 31 = .ok (.laload, 1) := by decide +kernel
theorem d_postEntries_32 : decode b_postEntries 32 = .ok (.aload_n 0, 1) := by decide +kernel
theorem d_postEntries_33 : decode b_postEntries 33 = .ok (.getfield 32, 3) := by decide +kernel
theorem d_postEntries_36 : decode b_postEntries 36 = .ok (.iload 4, 2) := by decide +kernel
theorem d_postEntries_38 : decode b_postEntries 38 = .ok (.iaload, 1) := by decide +kernel
theorem d_postEntries_39 : decode b_postEntries 39 = .ok (.i2l, 1) := by decide +kernel
theorem d_postEntries_40 : decode b_postEntries 40 = .ok (.ladd, 1) := by decide +kernel
theorem d_postEntries_41 : decode b_postEntries 41 = .ok (.lastore, 1) := by decide +kernel
theorem d_postEntries_42 : decode b_postEntries 42 = .ok (.iinc 3 1, 3) := by decide +kernel
theorem d_postEntries_45 : decode b_postEntries 45 = .ok (.goto (-43), 3) := by decide +kernel
theorem d_postEntries_48 : decode b_postEntries 48 = .ok (.aload_n 0, 1) := by decide +kernel
theorem d_postEntries_49 : decode b_postEntries 49 = .ok (.getfield 9, 3) := by decide +kernel
theorem d_postEntries_52 : decode b_postEntries 52 = .ok (.iload_n 1, 1) := by decide +kernel
theorem d_postEntries_53 : decode b_postEntries 53 = .ok (.iconst 2, 1) := by decide +kernel
theorem d_postEntries_54 : decode b_postEntries 54 = .ok (.iastore, 1) := by decide +kernel
theorem d_postEntries_55 : decode b_postEntries 55 = .ok (.aload_n 0, 1) := by decide +kernel
theorem d_postEntries_56 : decode b_postEntries 56 = .ok (.getfield 16, 3) := by decide +kernel
theorem d_postEntries_59 : decode b_postEntries 59 = .ok (.iload_n 1, 1) := by decide +kernel
theorem d_postEntries_60 : decode b_postEntries 60 = .ok (.iload_n 2, 1) := by decide +kernel
theorem d_postEntries_61 : decode b_postEntries 61 = .ok (.iastore, 1) := by decide +kernel
theorem d_postEntries_62 : decode b_postEntries 62 = .ok (.aload_n 0, 1) := by decide +kernel
theorem d_postEntries_63 : decode b_postEntries 63 = .ok (.getfield 35, 3) := by decide +kernel
theorem d_postEntries_66 : decode b_postEntries 66 = .ok (.aload_n 0, 1) := by decide +kernel
theorem d_postEntries_67 : decode b_postEntries 67 = .ok (.getfield 38, 3) := by decide +kernel
theorem d_postEntries_70 : decode b_postEntries 70 = .ok (.iload_n 1, 1) := by decide +kernel
theorem d_postEntries_71 : decode b_postEntries 71 = .ok (.iastore, 1) := by decide +kernel
theorem d_postEntries_72 : decode b_postEntries 72 = .ok (.aload_n 0, 1) := by decide +kernel
theorem d_postEntries_73 : decode b_postEntries 73 = .ok (.dup, 1) := by decide +kernel
theorem d_postEntries_74 : decode b_postEntries 74 = .ok (.getfield 38, 3) := by decide +kernel
theorem d_postEntries_77 : decode b_postEntries 77 = .ok (.iconst 1, 1) := by decide +kernel
theorem d_postEntries_78 : decode b_postEntries 78 = .ok (.iadd, 1) := by decide +kernel
theorem d_postEntries_79 : decode b_postEntries 79 = .ok (.putfield 38, 3) := by decide +kernel
theorem d_postEntries_82 : decode b_postEntries 82 = .ok (.return_, 1) := by decide +kernel
theorem d_postReversal_0 : decode b_postReversal 0 = .ok (.aload_n 0, 1) := by decide +kernel
theorem d_postReversal_1 : decode b_postReversal 1 = .ok (.invokevirtual 74, 3) := by decide +kernel
theorem d_postReversal_4 : decode b_postReversal 4 = .ok (.istore_n 3, 1) := by decide +kernel
theorem d_postReversal_5 : decode b_postReversal 5 = .ok (.iconst 0, 1) := by decide +kernel
theorem d_postReversal_6 : decode b_postReversal 6 = .ok (.istore 4, 2) := by decide +kernel
theorem d_postReversal_8 : decode b_postReversal 8 = .ok (.iload 4, 2) := by decide +kernel
theorem d_postReversal_10 : decode b_postReversal 10 = .ok (.aload_n 0, 1) := by decide +kernel
theorem d_postReversal_11 : decode b_postReversal 11 = .ok (.getfield 13, 3) := by decide +kernel
theorem d_postReversal_14 : decode b_postReversal 14 = .ok (.iload_n 1, 1) := by decide +kernel
theorem d_postReversal_15 : decode b_postReversal 15 = .ok (.iaload, 1) := by decide +kernel
theorem d_postReversal_16 : decode b_postReversal 16 = .ok (.if_icmp .ge 37, 3) := by decide +kernel
theorem d_postReversal_19 : decode b_postReversal 19 = .ok (.iload_n 1, 1) := by decide +kernel
theorem d_postReversal_20 : decode b_postReversal 20 = .ok (.iload 4, 2) := by decide +kernel
theorem d_postReversal_22 : decode b_postReversal 22 = .ok (.invokestatic 192, 3) := by decide +kernel
theorem d_postReversal_25 : decode b_postReversal 25 = .ok (.istore 5, 2) := by decide +kernel
theorem d_postReversal_27 : decode b_postReversal 27 = .ok (.aload_n 0, 1) := by decide +kernel
theorem d_postReversal_28 : decode b_postReversal 28 = .ok (.iload_n 3, 1) := by decide +kernel
theorem d_postReversal_29 : decode b_postReversal 29 = .ok (.aload_n 0, 1) := by decide +kernel
theorem d_postReversal_30 : decode b_postReversal 30 = .ok (.getfield 29, 3) := by decide +kernel
theorem d_postReversal_33 : decode b_postReversal 33 = .ok (.iload 5, 2) := by decide +kernel
theorem d_postReversal_35 : decode b_postReversal 35 = .ok (.iaload, 1) := by decide +kernel
theorem d_postReversal_36 : decode b_postReversal 36 = .ok (.aload_n 0, 1) := by decide +kernel
theorem d_postReversal_37 : decode b_postReversal 37 = .ok (.getfield 32, 3) := by decide +kernel
theorem d_postReversal_40 : decode b_postReversal 40 = .ok (.iload 5, 2) := by decide +kernel
theorem d_postReversal_42 : decode b_postReversal 42 = .ok (.iaload, 1) := by decide +kernel
theorem d_postReversal_43 : decode b_postReversal 43 = .ok (.ineg, 1) := by decide +kernel
theorem d_postReversal_44 : decode b_postReversal 44 = .ok (.invokevirtual 102, 3) := by decide +kernel
theorem d_postReversal_47 : decode b_postReversal 47 = .ok (.iinc 4 1, 3) := by decide +kernel
theorem d_postReversal_50 : decode b_postReversal 50 = .ok (.goto (-42), 3) := by decide +kernel
theorem d_postReversal_53 : decode b_postReversal 53 = .ok (.aload_n 0, 1) := by decide +kernel
theorem d_postReversal_54 : decode b_postReversal 54 = .ok (.iload_n 3, 1) := by decide +kernel
theorem d_postReversal_55 : decode b_postReversal 55 = .ok (.iload_n 2, 1) := by decide +kernel
theorem d_postReversal_56 : decode b_postReversal 56 = .ok (.invokevirtual 127, 3) := by decide +kernel
theorem d_postReversal_59 : decode b_postReversal 59 = .ok (.aload_n 0, 1) := by decide +kernel
theorem d_postReversal_60 : decode b_postReversal 60 = .ok (.getfield 9, 3) := by decide +kernel
theorem d_postReversal_63 : decode b_postReversal 63 = .ok (.iload_n 1, 1) := by decide +kernel
theorem d_postReversal_64 : decode b_postReversal 64 = .ok (.iconst 3, 1) := by decide +kernel
theorem d_postReversal_65 : decode b_postReversal 65 = .ok (.iastore, 1) := by decide +kernel
theorem d_postReversal_66 : decode b_postReversal 66 = .ok (.aload_n 0, 1) := by decide +kernel
theorem d_postReversal_67 : decode b_postReversal 67 = .ok (.getfield 19, 3) := by decide +kernel
theorem d_postReversal_70 : decode b_postReversal 70 = .ok (.iload_n 1, 1) := by decide +kernel
theorem d_postReversal_71 : decode b_postReversal 71 = .ok (.iload_n 3, 1) := by decide +kernel
theorem d_postReversal_72 : decode b_postReversal 72 = .ok (.iastore, 1) := by decide +kernel
theorem d_postReversal_73 : decode b_postReversal 73 = .ok (.aload_n 0, 1) := by decide +kernel
theorem d_postReversal_74 : decode b_postReversal 74 = .ok (.getfield 22, 3) := by decide +kernel
theorem d_postReversal_77 : decode b_postReversal 77 = .ok (.iload_n 3, 1) := by decide +kernel
theorem d_postReversal_78 : decode b_postReversal 78 = .ok (.iload_n 1, 1) := by decide +kernel
theorem d_postReversal_79 : decode b_postReversal 79 = .ok (.iastore, 1) := by decide +kernel
theorem d_postReversal_80 : decode b_postReversal 80 = .ok (.iload_n 3, 1) := by decide +kernel
theorem d_postReversal_81 : decode b_postReversal 81 = .ok (.ireturn, 1) := by decide +kernel
theorem d_isUndoable_0 : decode b_isUndoable 0 = .ok (.aload_n 0, 1) := by decide +kernel
theorem d_isUndoable_1 : decode b_isUndoable 1 = .ok (.getfield 9, 3) := by decide +kernel
theorem d_isUndoable_4 : decode b_isUndoable 4 = .ok (.iload_n 1, 1) := by decide +kernel
theorem d_isUndoable_5 : decode b_isUndoable 5 = .ok (.iaload, 1) := by decide +kernel
theorem d_isUndoable_6 : decode b_isUndoable 6 = .ok (.iconst 2, 1) := by decide +kernel
theorem d_isUndoable_7 : decode b_isUndoable 7 = .ok (.if_icmp .ne 27, 3) := by decide +kernel
theorem d_isUndoable_10 : decode b_isUndoable 10 = .ok (.aload_n 0, 1) := by decide +kernel
theorem d_isUndoable_11 : decode b_isUndoable 11 = .ok (.getfield 16, 3) := by decide +kernel
theorem d_isUndoable_14 : decode b_isUndoable 14 = .ok (.iload_n 1, 1) := by decide +kernel
theorem d_isUndoable_15 : decode b_isUndoable 15 = .ok (.iaload, 1) := by decide +kernel
theorem d_isUndoable_16 : decode b_isUndoable 16 = .ok (.iload_n 2, 1) := by decide +kernel
theorem d_isUndoable_17 : decode b_isUndoable 17 = .ok (.if_icmp .ne 17, 3) := by decide +kernel
theorem d_isUndoable_20 : decode b_isUndoable 20 = .ok (.aload_n 0, 1) := by decide +kernel
theorem d_isUndoable_21 : decode b_isUndoable 21 = .ok (.getfield 22, 3) := by decide +kernel
theorem d_isUndoable_24 : decode b_isUndoable 24 = .ok (.iload_n 1, 1) := by decide +kernel
theorem d_isUndoable_25 : decode b_isUndoable 25 = .ok (.iaload, 1) := by decide +kernel
theorem d_isUndoable_26 : decode b_isUndoable 26 = .ok (.iconst (-1), 1) := by decide +kernel
theorem d_isUndoable_27 : decode b_isUndoable 27 = .ok (.if_icmp .ne 7, 3) := by decide +kernel
theorem d_isUndoable_30 : decode b_isUndoable 30 = .ok (.iconst 1, 1) := by decide +kernel
theorem d_isUndoable_31 : decode b_isUndoable 31 = .ok (.goto 4, 3) := by decide +kernel
theorem d_isUndoable_34 : decode b_isUndoable 34 = .ok (.iconst 0, 1) := by decide +kernel
theorem d_isUndoable_35 : decode b_isUndoable 35 = .ok (.ireturn, 1) := by decide +kernel
theorem d_countUndoable_0 : decode b_countUndoable 0 = .ok (.iconst 0, 1) := by decide +kernel
theorem d_countUndoable_1 : decode b_countUndoable 1 = .ok (.istore_n 2, 1) := by decide +kernel
theorem d_countUndoable_2 : decode b_countUndoable 2 = .ok (.iconst 0, 1) := by decide +kernel
theorem d_countUndoable_3 : decode b_countUndoable 3 = .ok (.istore_n 3, 1) := by decide +kernel
theorem d_countUndoable_4 : decode b_countUndoable 4 = .ok (.iload_n 3, 1) := by decide +kernel
theorem d_countUndoable_5 : decode b_countUndoable 5 = .ok (.aload_n 0, 1) := by decide +kernel
theorem d_countUndoable_6 : decode b_countUndoable 6 = .ok (.getfield 25, 3) := by decide +kernel
theorem d_countUndoable_9 : decode b_countUndoable 9 = .ok (.if_icmp .ge 21, 3) := by decide +kernel
theorem d_countUndoable_12 : decode b_countUndoable 12 = .ok (.aload_n 0, 1) := by decide +kernel
theorem d_countUndoable_13 : decode b_countUndoable 13 = .ok (.iload_n 3, 1) := by decide +kernel
theorem d_countUndoable_14 : decode b_countUndoable 14 = .ok (.iload_n 1, 1) := by decide +kernel
theorem d_countUndoable_15 : decode b_countUndoable 15 = .ok (.invokevirtual 148, 3) := by decide +kernel
theorem d_countUndoable_18 : decode b_countUndoable 18 = .ok (.ifCond .eq 6, 3) := by decide +kernel
theorem d_countUndoable_21 : decode b_countUndoable 21 = .ok (.iinc 2 1, 3) := by decide +kernel
theorem d_countUndoable_24 : decode b_countUndoable 24 = .ok (.iinc 3 1, 3) := by decide +kernel
theorem d_countUndoable_27 : decode b_countUndoable 27 = .ok (.goto (-23), 3) := by decide +kernel
theorem d_countUndoable_30 : decode b_countUndoable 30 = .ok (.iload_n 2, 1) := by decide +kernel
theorem d_countUndoable_31 : decode b_countUndoable 31 = .ok (.ireturn, 1) := by decide +kernel
theorem d_isEnoughFreeToUndo_0 : decode b_isEnoughFreeToUndo 0 = .ok (.aload_n 0, 1) := by decide +kernel
theorem d_isEnoughFreeToUndo_1 : decode b_isEnoughFreeToUndo 1 = .ok (.invokevirtual 226, 3) := by decide +kernel
theorem d_isEnoughFreeToUndo_4 : decode b_isEnoughFreeToUndo 4 = .ok (.aload_n 0, 1) := by decide +kernel
theorem d_isEnoughFreeToUndo_5 : decode b_isEnoughFreeToUndo 5 = .ok (.getfield 38, 3) := by decide +kernel
theorem d_isEnoughFreeToUndo_8 : decode b_isEnoughFreeToUndo 8 = .ok (.iconst 1, 1) := by decide +kernel
theorem d_isEnoughFreeToUndo_9 : decode b_isEnoughFreeToUndo 9 = .ok (.isub, 1) := by decide +kernel
theorem d_isEnoughFreeToUndo_10 : decode b_isEnoughFreeToUndo 10 = .ok (.istore_n 2, 1) := by decide +kernel
theorem d_isEnoughFreeToUndo_11 : decode b_isEnoughFreeToUndo 11 = .ok (.iload_n 2, 1) := by decide +kernel
theorem d_isEnoughFreeToUndo_12 : decode b_isEnoughFreeToUndo 12 = .ok (.ifCond .lt 43, 3) := by decide +kernel
theorem d_isEnoughFreeToUndo_15 : decode b_isEnoughFreeToUndo 15 = .ok (.aload_n 0, 1) := by decide +kernel
theorem d_isEnoughFreeToUndo_16 : decode b_isEnoughFreeToUndo 16 = .ok (.aload_n 0, 1) := by decide +kernel
theorem d_isEnoughFreeToUndo_17 : decode b_isEnoughFreeToUndo 17 = .ok (.getfield 35, 3) := by decide +kernel
theorem d_isEnoughFreeToUndo_20 : decode b_isEnoughFreeToUndo 20 = .ok (.iload_n 2, 1) := by decide +kernel
theorem d_isEnoughFreeToUndo_21 : decode b_isEnoughFreeToUndo 21 = .ok (.iaload, 1) := by decide +kernel
theorem d_isEnoughFreeToUndo_22 : decode b_isEnoughFreeToUndo 22 = .ok (.iload_n 1, 1) := by decide +kernel
theorem d_isEnoughFreeToUndo_23 : decode b_isEnoughFreeToUndo 23 = .ok (.invokevirtual 148, 3) := by decide +kernel
theorem d_isEnoughFreeToUndo_26 : decode b_isEnoughFreeToUndo 26 = .ok (.ifCond .eq 23, 3) := by decide +kernel
theorem d_isEnoughFreeToUndo_29 : decode b_isEnoughFreeToUndo 29 = .ok (.aload_n 0, 1) := by decide +kernel
theorem d_isEnoughFreeToUndo_30 : decode b_isEnoughFreeToUndo 30 = .ok (.aload_n 0, 1) := by decide +kernel
theorem d_isEnoughFreeToUndo_31 : decode b_isEnoughFreeToUndo 31 = .ok (.getfield 35, 3) := by decide +kernel
theorem d_isEnoughFreeToUndo_34 : decode b_isEnoughFreeToUndo 34 = .ok (.iload_n 2, 1) := by decide +kernel
theorem d_isEnoughFreeToUndo_35 : decode b_isEnoughFreeToUndo 35 = .ok (.iaload, 1) := by decide +kernel
theorem d_isEnoughFreeToUndo_36 : decode b_isEnoughFreeToUndo 36 = .ok (.iconst (-1), 1) := by decide +kernel
theorem d_isEnoughFreeToUndo_37 : decode b_isEnoughFreeToUndo 37 = .ok (.invokevirtual 229, 3) := by decide +kernel
theorem d_isEnoughFreeToUndo_40 : decode b_isEnoughFreeToUndo 40 = .ok (.aload_n 0, 1) := by decide +kernel
theorem d_isEnoughFreeToUndo_41 : decode b_isEnoughFreeToUndo 41 = .ok (.invokevirtual 232, 3) := by decide +kernel
theorem d_isEnoughFreeToUndo_44 : decode b_isEnoughFreeToUndo 44 = .ok (.ifCond .ne 5, 3) := by decide +kernel
theorem d_isEnoughFreeToUndo_47 : decode b_isEnoughFreeToUndo 47 = .ok (.iconst 0, 1) := by decide +kernel
theorem d_isEnoughFreeToUndo_48 : decode b_isEnoughFreeToUndo 48 = .ok (.ireturn, 1) := by decide +kernel
theorem d_isEnoughFreeToUndo_49 : decode b_isEnoughFreeToUndo 49 = .ok (.iinc 2 (-1), 3) := by decide +kernel
theorem d_isEnoughFreeToUndo_52 : decode b_isEnoughFreeToUndo 52 = .ok (.goto (-41), 3) := by decide +kernel
theorem d_isEnoughFreeToUndo_55 : decode b_isEnoughFreeToUndo 55 = .ok (.iconst 1, 1) := by decide +kernel
theorem d_isEnoughFreeToUndo_56 : decode b_isEnoughFreeToUndo 56 = .ok (.ireturn, 1) := by decide +kernel
theorem d_findPostedSlot_0 : decode b_findPostedSlot 0 = .ok (.iconst 0, 1) := by decide +kernel
theorem d_findPostedSlot_1 : decode b_findPostedSlot 1 = .ok (.istore_n 3, 1) := by decide +kernel
theorem d_findPostedSlot_2 : decode b_findPostedSlot 2 = .ok (.iconst 0, 1) := by decide +kernel
theorem d_findPostedSlot_3 : decode b_findPostedSlot 3 = .ok (.istore 4, 2) := by decide +kernel
theorem d_findPostedSlot_5 : decode b_findPostedSlot 5 = .ok (.iload 4, 2) := by decide +kernel
theorem d_findPostedSlot_7 : decode b_findPostedSlot 7 = .ok (.aload_n 0, 1) := by decide +kernel
theorem d_findPostedSlot_8 : decode b_findPostedSlot 8 = .ok (.getfield 38, 3) := by decide +kernel
theorem d_findPostedSlot_11 : decode b_findPostedSlot 11 = .ok (.if_icmp .ge 73, 3) := by decide +kernel
theorem d_findPostedSlot_14 : decode b_findPostedSlot 14 = .ok (.aload_n 0, 1) := by decide +kernel
theorem d_findPostedSlot_15 : decode b_findPostedSlot 15 = .ok (.getfield 35, 3) := by decide +kernel
theorem d_findPostedSlot_18 : decode b_findPostedSlot 18 = .ok (.iload 4, 2) := by decide +kernel
theorem d_findPostedSlot_20 : decode b_findPostedSlot 20 = .ok (.iaload, 1) := by decide +kernel
theorem d_findPostedSlot_21 : decode b_findPostedSlot 21 = .ok (.istore 5, 2) := by decide +kernel
theorem d_findPostedSlot_23 : decode b_findPostedSlot 23 = .ok (.iconst 0, 1) := by decide +kernel
theorem d_findPostedSlot_24 : decode b_findPostedSlot 24 = .ok (.istore 6, 2) := by decide +kernel
theorem d_findPostedSlot_26 : decode b_findPostedSlot 26 = .ok (.iload 6, 2) := by decide +kernel
theorem d_findPostedSlot_28 : decode b_findPostedSlot 28 = .ok (.aload_n 0, 1) := by decide +kernel
theorem d_findPostedSlot_29 : decode b_findPostedSlot 29 = .ok (.getfield 13, 3) := by decide +kernel
theorem d_findPostedSlot_32 : decode b_findPostedSlot 32 = .ok (.iload 5, 2) := by decide +kernel
theorem d_findPostedSlot_34 : decode b_findPostedSlot 34 = .ok (.iaload, 1) := by decide +kernel
theorem d_findPostedSlot_35 : decode b_findPostedSlot 35 = .ok (.if_icmp .ge 43, 3) := by decide +kernel
theorem d_findPostedSlot_38 : decode b_findPostedSlot 38 = .ok (.iload 5, 2) := by decide +kernel
theorem d_findPostedSlot_40 : decode b_findPostedSlot 40 = .ok (.iload 6, 2) := by decide +kernel
theorem d_findPostedSlot_42 : decode b_findPostedSlot 42 = .ok (.invokestatic 192, 3) := by decide +kernel
theorem d_findPostedSlot_45 : decode b_findPostedSlot 45 = .ok (.istore 7, 2) := by decide +kernel
theorem d_findPostedSlot_47 : decode b_findPostedSlot 47 = .ok (.aload_n 0, 1) := by decide +kernel
theorem d_findPostedSlot_48 : decode b_findPostedSlot 48 = .ok (.getfield 29, 3) := by decide +kernel
theorem d_findPostedSlot_51 : decode b_findPostedSlot 51 = .ok (.iload 7, 2) := by decide +kernel
theorem d_findPostedSlot_53 : decode b_findPostedSlot 53 = .ok (.iaload, 1) := by decide +kernel
theorem d_findPostedSlot_54 : decode b_findPostedSlot 54 = .ok (.bipush 8, 2) := by decide +kernel
theorem d_findPostedSlot_56 : decode b_findPostedSlot 56 = .ok (.idiv, 1) := by decide +kernel
theorem d_findPostedSlot_57 : decode b_findPostedSlot 57 = .ok (.iload_n 1, 1) := by decide +kernel
theorem d_findPostedSlot_58 : decode b_findPostedSlot 58 = .ok (.if_icmp .ne 14, 3) := by decide +kernel
theorem d_findPostedSlot_61 : decode b_findPostedSlot 61 = .ok (.iload_n 3, 1) := by decide +kernel
theorem d_findPostedSlot_62 : decode b_findPostedSlot 62 = .ok (.iload_n 2, 1) := by decide +kernel
theorem d_findPostedSlot_63 : decode b_findPostedSlot 63 = .ok (.if_icmp .ne 6, 3) := by decide +kernel
theorem d_findPostedSlot_66 : decode b_findPostedSlot 66 = .ok (.iload 7, 2) := by decide +kernel
theorem d_findPostedSlot_68 : decode b_findPostedSlot 68 = .ok (.ireturn, 1) := by decide +kernel
theorem d_findPostedSlot_69 : decode b_findPostedSlot 69 = .ok (.iinc 3 1, 3) := by decide +kernel
theorem d_findPostedSlot_72 : decode b_findPostedSlot 72 = .ok (.iinc 6 1, 3) := by decide +kernel
theorem d_findPostedSlot_75 : decode b_findPostedSlot 75 = .ok (.goto (-49), 3) := by decide +kernel
theorem d_findPostedSlot_78 : decode b_findPostedSlot 78 = .ok (.iinc 4 1, 3) := by decide +kernel
theorem d_findPostedSlot_81 : decode b_findPostedSlot 81 = .ok (.goto (-76), 3) := by decide +kernel
theorem d_findPostedSlot_84 : decode b_findPostedSlot 84 = .ok (.iconst (-1), 1) := by decide +kernel
theorem d_findPostedSlot_85 : decode b_findPostedSlot 85 = .ok (.ireturn, 1) := by decide +kernel
theorem d_countPostedEntries_0 : decode b_countPostedEntries 0 = .ok (.iconst 0, 1) := by decide +kernel
theorem d_countPostedEntries_1 : decode b_countPostedEntries 1 = .ok (.istore_n 1, 1) := by decide +kernel
theorem d_countPostedEntries_2 : decode b_countPostedEntries 2 = .ok (.iconst 0, 1) := by decide +kernel
theorem d_countPostedEntries_3 : decode b_countPostedEntries 3 = .ok (.istore_n 2, 1) := by decide +kernel
theorem d_countPostedEntries_4 : decode b_countPostedEntries 4 = .ok (.iload_n 2, 1) := by decide +kernel
theorem d_countPostedEntries_5 : decode b_countPostedEntries 5 = .ok (.aload_n 0, 1) := by decide +kernel
theorem d_countPostedEntries_6 : decode b_countPostedEntries 6 = .ok (.getfield 38, 3) := by decide +kernel
theorem d_countPostedEntries_9 : decode b_countPostedEntries 9 = .ok (.if_icmp .ge 23, 3) := by decide +kernel
theorem d_countPostedEntries_12 : decode b_countPostedEntries 12 = .ok (.iload_n 1, 1) := by decide +kernel
theorem d_countPostedEntries_13 : decode b_countPostedEntries 13 = .ok (.aload_n 0, 1) := by decide +kernel
theorem d_countPostedEntries_14 : decode b_countPostedEntries 14 = .ok (.getfield 13, 3) := by decide +kernel
theorem d_countPostedEntries_17 : decode b_countPostedEntries 17 = .ok (.aload_n 0, 1) := by decide +kernel
theorem d_countPostedEntries_18 : decode b_countPostedEntries 18 = .ok (.getfield 35, 3) := by decide +kernel
theorem d_countPostedEntries_21 : decode b_countPostedEntries 21 = .ok (.iload_n 2, 1) := by decide +kernel
theorem d_countPostedEntries_22 : decode b_countPostedEntries 22 = .ok (.iaload, 1) := by decide +kernel
theorem d_countPostedEntries_23 : decode b_countPostedEntries 23 = .ok (.iaload, 1) := by decide +kernel
theorem d_countPostedEntries_24 : decode b_countPostedEntries 24 = .ok (.iadd, 1) := by decide +kernel
theorem d_countPostedEntries_25 : decode b_countPostedEntries 25 = .ok (.istore_n 1, 1) := by decide +kernel
theorem d_countPostedEntries_26 : decode b_countPostedEntries 26 = .ok (.iinc 2 1, 3) := by decide +kernel
theorem d_countPostedEntries_29 : decode b_countPostedEntries 29 = .ok (.goto (-25), 3) := by decide +kernel
theorem d_countPostedEntries_32 : decode b_countPostedEntries 32 = .ok (.iload_n 1, 1) := by decide +kernel
theorem d_countPostedEntries_33 : decode b_countPostedEntries 33 = .ok (.ireturn, 1) := by decide +kernel
theorem d_countHeld_0 : decode b_countHeld 0 = .ok (.iconst 0, 1) := by decide +kernel
theorem d_countHeld_1 : decode b_countHeld 1 = .ok (.istore_n 1, 1) := by decide +kernel
theorem d_countHeld_2 : decode b_countHeld 2 = .ok (.iconst 0, 1) := by decide +kernel
theorem d_countHeld_3 : decode b_countHeld 3 = .ok (.istore_n 2, 1) := by decide +kernel
theorem d_countHeld_4 : decode b_countHeld 4 = .ok (.iload_n 2, 1) := by decide +kernel
theorem d_countHeld_5 : decode b_countHeld 5 = .ok (.aload_n 0, 1) := by decide +kernel
theorem d_countHeld_6 : decode b_countHeld 6 = .ok (.getfield 25, 3) := by decide +kernel
theorem d_countHeld_9 : decode b_countHeld 9 = .ok (.if_icmp .ge 22, 3) := by decide +kernel
theorem d_countHeld_12 : decode b_countHeld 12 = .ok (.aload_n 0, 1) := by decide +kernel
theorem d_countHeld_13 : decode b_countHeld 13 = .ok (.getfield 9, 3) := by decide +kernel
theorem d_countHeld_16 : decode b_countHeld 16 = .ok (.iload_n 2, 1) := by decide +kernel
theorem d_countHeld_17 : decode b_countHeld 17 = .ok (.iaload, 1) := by decide +kernel
theorem d_countHeld_18 : decode b_countHeld 18 = .ok (.iconst 1, 1) := by decide +kernel
theorem d_countHeld_19 : decode b_countHeld 19 = .ok (.if_icmp .ne 6, 3) := by decide +kernel
theorem d_countHeld_22 : decode b_countHeld 22 = .ok (.iinc 1 1, 3) := by decide +kernel
theorem d_countHeld_25 : decode b_countHeld 25 = .ok (.iinc 2 1, 3) := by decide +kernel
theorem d_countHeld_28 : decode b_countHeld 28 = .ok (.goto (-24), 3) := by decide +kernel
theorem d_countHeld_31 : decode b_countHeld 31 = .ok (.iload_n 1, 1) := by decide +kernel
theorem d_countHeld_32 : decode b_countHeld 32 = .ok (.ireturn, 1) := by decide +kernel
theorem d_fillL_0 : decode b_fillL 0 = .ok (.iconst 0, 1) := by decide +kernel
theorem d_fillL_1 : decode b_fillL 1 = .ok (.istore_n 3, 1) := by decide +kernel
theorem d_fillL_2 : decode b_fillL 2 = .ok (.aload_n 0, 1) := by decide +kernel
theorem d_fillL_3 : decode b_fillL 3 = .ok (.arraylength, 1) := by decide +kernel
theorem d_fillL_4 : decode b_fillL 4 = .ok (.istore 4, 2) := by decide +kernel
theorem d_fillL_6 : decode b_fillL 6 = .ok (.iload_n 3, 1) := by decide +kernel
theorem d_fillL_7 : decode b_fillL 7 = .ok (.iload 4, 2) := by decide +kernel
theorem d_fillL_9 : decode b_fillL 9 = .ok (.if_icmp .ge 13, 3) := by decide +kernel
theorem d_fillL_12 : decode b_fillL 12 = .ok (.aload_n 0, 1) := by decide +kernel
theorem d_fillL_13 : decode b_fillL 13 = .ok (.iload_n 3, 1) := by decide +kernel
theorem d_fillL_14 : decode b_fillL 14 = .ok (.lload_n 1, 1) := by decide +kernel
theorem d_fillL_15 : decode b_fillL 15 = .ok (.lastore, 1) := by decide +kernel
theorem d_fillL_16 : decode b_fillL 16 = .ok (.iinc 3 1, 3) := by decide +kernel
theorem d_fillL_19 : decode b_fillL 19 = .ok (.goto (-13), 3) := by decide +kernel
theorem d_fillL_22 : decode b_fillL 22 = .ok (.return_, 1) := by decide +kernel
theorem d_fillI_0 : decode b_fillI 0 = .ok (.iconst 0, 1) := by decide +kernel
theorem d_fillI_1 : decode b_fillI 1 = .ok (.istore_n 2, 1) := by decide +kernel
theorem d_fillI_2 : decode b_fillI 2 = .ok (.aload_n 0, 1) := by decide +kernel
theorem d_fillI_3 : decode b_fillI 3 = .ok (.arraylength, 1) := by decide +kernel
theorem d_fillI_4 : decode b_fillI 4 = .ok (.istore_n 3, 1) := by decide +kernel
theorem d_fillI_5 : decode b_fillI 5 = .ok (.iload_n 2, 1) := by decide +kernel
theorem d_fillI_6 : decode b_fillI 6 = .ok (.iload_n 3, 1) := by decide +kernel
theorem d_fillI_7 : decode b_fillI 7 = .ok (.if_icmp .ge 13, 3) := by decide +kernel
theorem d_fillI_10 : decode b_fillI 10 = .ok (.aload_n 0, 1) := by decide +kernel
theorem d_fillI_11 : decode b_fillI 11 = .ok (.iload_n 2, 1) := by decide +kernel
theorem d_fillI_12 : decode b_fillI 12 = .ok (.iload_n 1, 1) := by decide +kernel
theorem d_fillI_13 : decode b_fillI 13 = .ok (.iastore, 1) := by decide +kernel
theorem d_fillI_14 : decode b_fillI 14 = .ok (.iinc 2 1, 3) := by decide +kernel
theorem d_fillI_17 : decode b_fillI 17 = .ok (.goto (-12), 3) := by decide +kernel
theorem d_fillI_20 : decode b_fillI 20 = .ok (.return_, 1) := by decide +kernel

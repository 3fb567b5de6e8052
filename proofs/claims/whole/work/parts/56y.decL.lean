/-! decode rows (claim/NAMES.whole.lean.txt) -/
theorem dL_setGround_0 : decode cL_setGround 0 = .ok (.aload 4, 2) := by decide +kernel
theorem dL_setGround_2 : decode cL_setGround 2 = .ok (.iconst 0, 1) := by decide +kernel
theorem dL_setGround_3 : decode cL_setGround 3 = .ok (.aload_n 0, 1) := by decide +kernel
theorem dL_setGround_4 : decode cL_setGround 4 = .ok (.iload_n 1, 1) := by decide +kernel
theorem dL_setGround_5 : decode cL_setGround 5 = .ok (.iload_n 2, 1) := by decide +kernel
theorem dL_setGround_6 : decode cL_setGround 6 = .ok (.iload_n 3, 1) := by decide +kernel
theorem dL_setGround_7 : decode cL_setGround 7 = .ok (.invokevirtual 7, 3) := by decide +kernel
theorem dL_setGround_10 : decode cL_setGround 10 = .ok (.i2l, 1) := by decide +kernel
theorem dL_setGround_11 : decode cL_setGround 11 = .ok (.lastore, 1) := by decide +kernel
theorem dL_setGround_12 : decode cL_setGround 12 = .ok (.goto 15, 3) := by decide +kernel
theorem dL_setGround_15 : decode cL_setGround 15 = .ok (.astore 5, 2) := by decide +kernel
theorem dL_setGround_17 : decode cL_setGround 17 = .ok (.iconst 1, 1) := by decide +kernel
theorem dL_setGround_18 : decode cL_setGround 18 = .ok (.ireturn, 1) := by decide +kernel
theorem dL_setGround_19 : decode cL_setGround 19 = .ok (.astore 5, 2) := by decide +kernel
theorem dL_setGround_21 : decode cL_setGround 21 = .ok (.iconst 2, 1) := by decide +kernel
theorem dL_setGround_22 : decode cL_setGround 22 = .ok (.ireturn, 1) := by decide +kernel
theorem dL_setGround_23 : decode cL_setGround 23 = .ok (.astore 5, 2) := by decide +kernel
theorem dL_setGround_25 : decode cL_setGround 25 = .ok (.iconst 3, 1) := by decide +kernel
theorem dL_setGround_26 : decode cL_setGround 26 = .ok (.ireturn, 1) := by decide +kernel
theorem dL_setGround_27 : decode cL_setGround 27 = .ok (.iconst 0, 1) := by decide +kernel
theorem dL_setGround_28 : decode cL_setGround 28 = .ok (.ireturn, 1) := by decide +kernel
theorem dL_groundAt_0 : decode cL_groundAt 0 = .ok (.aload_n 3, 1) := by decide +kernel
theorem dL_groundAt_1 : decode cL_groundAt 1 = .ok (.iconst 0, 1) := by decide +kernel
theorem dL_groundAt_2 : decode cL_groundAt 2 = .ok (.aload_n 0, 1) := by decide +kernel
theorem dL_groundAt_3 : decode cL_groundAt 3 = .ok (.iload_n 1, 1) := by decide +kernel
theorem dL_groundAt_4 : decode cL_groundAt 4 = .ok (.iload_n 2, 1) := by decide +kernel
theorem dL_groundAt_5 : decode cL_groundAt 5 = .ok (.invokevirtual 19, 3) := by decide +kernel
theorem dL_groundAt_8 : decode cL_groundAt 8 = .ok (.i2l, 1) := by decide +kernel
theorem dL_groundAt_9 : decode cL_groundAt 9 = .ok (.lastore, 1) := by decide +kernel
theorem dL_groundAt_10 : decode cL_groundAt 10 = .ok (.goto 7, 3) := by decide +kernel
theorem dL_groundAt_13 : decode cL_groundAt 13 = .ok (.astore 4, 2) := by decide +kernel
theorem dL_groundAt_15 : decode cL_groundAt 15 = .ok (.iconst 1, 1) := by decide +kernel
theorem dL_groundAt_16 : decode cL_groundAt 16 = .ok (.ireturn, 1) := by decide +kernel
theorem dL_groundAt_17 : decode cL_groundAt 17 = .ok (.iconst 0, 1) := by decide +kernel
theorem dL_groundAt_18 : decode cL_groundAt 18 = .ok (.ireturn, 1) := by decide +kernel
theorem dL_heatUp_0 : decode cL_heatUp 0 = .ok (.aload 4, 2) := by decide +kernel
theorem dL_heatUp_2 : decode cL_heatUp 2 = .ok (.iconst 0, 1) := by decide +kernel
theorem dL_heatUp_3 : decode cL_heatUp 3 = .ok (.aload_n 0, 1) := by decide +kernel
theorem dL_heatUp_4 : decode cL_heatUp 4 = .ok (.iload_n 1, 1) := by decide +kernel
theorem dL_heatUp_5 : decode cL_heatUp 5 = .ok (.iload_n 2, 1) := by decide +kernel
theorem dL_heatUp_6 : decode cL_heatUp 6 = .ok (.iload_n 3, 1) := by decide +kernel
theorem dL_heatUp_7 : decode cL_heatUp 7 = .ok (.invokevirtual 23, 3) := by decide +kernel
theorem dL_heatUp_10 : decode cL_heatUp 10 = .ok (.i2l, 1) := by decide +kernel
theorem dL_heatUp_11 : decode cL_heatUp 11 = .ok (.lastore, 1) := by decide +kernel
theorem dL_heatUp_12 : decode cL_heatUp 12 = .ok (.goto 15, 3) := by decide +kernel
theorem dL_heatUp_15 : decode cL_heatUp 15 = .ok (.astore 5, 2) := by decide +kernel
theorem dL_heatUp_17 : decode cL_heatUp 17 = .ok (.iconst 1, 1) := by decide +kernel
theorem dL_heatUp_18 : decode cL_heatUp 18 = .ok (.ireturn, 1) := by decide +kernel
theorem dL_heatUp_19 : decode cL_heatUp 19 = .ok (.astore 5, 2) := by decide +kernel
theorem dL_heatUp_21 : decode cL_heatUp 21 = .ok (.iconst 2, 1) := by decide +kernel
theorem dL_heatUp_22 : decode cL_heatUp 22 = .ok (.ireturn, 1) := by decide +kernel
theorem dL_heatUp_23 : decode cL_heatUp 23 = .ok (.astore 5, 2) := by decide +kernel
theorem dL_heatUp_25 : decode cL_heatUp 25 = .ok (.iconst 3, 1) := by decide +kernel
theorem dL_heatUp_26 : decode cL_heatUp 26 = .ok (.ireturn, 1) := by decide +kernel
theorem dL_heatUp_27 : decode cL_heatUp 27 = .ok (.iconst 0, 1) := by decide +kernel
theorem dL_heatUp_28 : decode cL_heatUp 28 = .ok (.ireturn, 1) := by decide +kernel
theorem dL_heatAt_0 : decode cL_heatAt 0 = .ok (.aload_n 3, 1) := by decide +kernel
theorem dL_heatAt_1 : decode cL_heatAt 1 = .ok (.iconst 0, 1) := by decide +kernel
theorem dL_heatAt_2 : decode cL_heatAt 2 = .ok (.aload_n 0, 1) := by decide +kernel
theorem dL_heatAt_3 : decode cL_heatAt 3 = .ok (.iload_n 1, 1) := by decide +kernel
theorem dL_heatAt_4 : decode cL_heatAt 4 = .ok (.iload_n 2, 1) := by decide +kernel
theorem dL_heatAt_5 : decode cL_heatAt 5 = .ok (.invokevirtual 27, 3) := by decide +kernel
theorem dL_heatAt_8 : decode cL_heatAt 8 = .ok (.i2l, 1) := by decide +kernel
theorem dL_heatAt_9 : decode cL_heatAt 9 = .ok (.lastore, 1) := by decide +kernel
theorem dL_heatAt_10 : decode cL_heatAt 10 = .ok (.goto 7, 3) := by decide +kernel
theorem dL_heatAt_13 : decode cL_heatAt 13 = .ok (.astore 4, 2) := by decide +kernel
theorem dL_heatAt_15 : decode cL_heatAt 15 = .ok (.iconst 1, 1) := by decide +kernel
theorem dL_heatAt_16 : decode cL_heatAt 16 = .ok (.ireturn, 1) := by decide +kernel
theorem dL_heatAt_17 : decode cL_heatAt 17 = .ok (.iconst 0, 1) := by decide +kernel
theorem dL_heatAt_18 : decode cL_heatAt 18 = .ok (.ireturn, 1) := by decide +kernel
theorem dL_embersAt_0 : decode cL_embersAt 0 = .ok (.aload_n 3, 1) := by decide +kernel
theorem dL_embersAt_1 : decode cL_embersAt 1 = .ok (.iconst 0, 1) := by decide +kernel
theorem dL_embersAt_2 : decode cL_embersAt 2 = .ok (.aload_n 0, 1) := by decide +kernel
theorem dL_embersAt_3 : decode cL_embersAt 3 = .ok (.iload_n 1, 1) := by decide +kernel
theorem dL_embersAt_4 : decode cL_embersAt 4 = .ok (.iload_n 2, 1) := by decide +kernel
theorem dL_embersAt_5 : decode cL_embersAt 5 = .ok (.invokevirtual 31, 3) := by decide +kernel
theorem dL_embersAt_8 : decode cL_embersAt 8 = .ok (.i2l, 1) := by decide +kernel
theorem dL_embersAt_9 : decode cL_embersAt 9 = .ok (.lastore, 1) := by decide +kernel
theorem dL_embersAt_10 : decode cL_embersAt 10 = .ok (.goto 7, 3) := by decide +kernel
theorem dL_embersAt_13 : decode cL_embersAt 13 = .ok (.astore 4, 2) := by decide +kernel
theorem dL_embersAt_15 : decode cL_embersAt 15 = .ok (.iconst 1, 1) := by decide +kernel
theorem dL_embersAt_16 : decode cL_embersAt 16 = .ok (.ireturn, 1) := by decide +kernel
theorem dL_embersAt_17 : decode cL_embersAt 17 = .ok (.iconst 0, 1) := by decide +kernel
theorem dL_embersAt_18 : decode cL_embersAt 18 = .ok (.ireturn, 1) := by decide +kernel
theorem dL_cellAtRank_0 : decode cL_cellAtRank 0 = .ok (.aload_n 2, 1) := by decide +kernel
theorem dL_cellAtRank_1 : decode cL_cellAtRank 1 = .ok (.iconst 0, 1) := by decide +kernel
theorem dL_cellAtRank_2 : decode cL_cellAtRank 2 = .ok (.aload_n 0, 1) := by decide +kernel
theorem dL_cellAtRank_3 : decode cL_cellAtRank 3 = .ok (.iload_n 1, 1) := by decide +kernel
theorem dL_cellAtRank_4 : decode cL_cellAtRank 4 = .ok (.invokevirtual 34, 3) := by decide +kernel
theorem dL_cellAtRank_7 : decode cL_cellAtRank 7 = .ok (.i2l, 1) := by decide +kernel
theorem dL_cellAtRank_8 : decode cL_cellAtRank 8 = .ok (.lastore, 1) := by decide +kernel
theorem dL_cellAtRank_9 : decode cL_cellAtRank 9 = .ok (.goto 6, 3) := by decide +kernel
theorem dL_cellAtRank_12 : decode cL_cellAtRank 12 = .ok (.astore_n 3, 1) := by decide +kernel
theorem dL_cellAtRank_13 : decode cL_cellAtRank 13 = .ok (.iconst 1, 1) := by decide +kernel
theorem dL_cellAtRank_14 : decode cL_cellAtRank 14 = .ok (.ireturn, 1) := by decide +kernel
theorem dL_cellAtRank_15 : decode cL_cellAtRank 15 = .ok (.iconst 0, 1) := by decide +kernel
theorem dL_cellAtRank_16 : decode cL_cellAtRank 16 = .ok (.ireturn, 1) := by decide +kernel
theorem dL_refusalReason_0 : decode cL_refusalReason 0 = .ok (.aload_n 1, 1) := by decide +kernel
theorem dL_refusalReason_1 : decode cL_refusalReason 1 = .ok (.iconst 0, 1) := by decide +kernel
theorem dL_refusalReason_2 : decode cL_refusalReason 2 = .ok (.aload_n 0, 1) := by decide +kernel
theorem dL_refusalReason_3 : decode cL_refusalReason 3 = .ok (.invokevirtual 40, 3) := by decide +kernel
theorem dL_refusalReason_6 : decode cL_refusalReason 6 = .ok (.i2l, 1) := by decide +kernel
theorem dL_refusalReason_7 : decode cL_refusalReason 7 = .ok (.lastore, 1) := by decide +kernel
theorem dL_refusalReason_8 : decode cL_refusalReason 8 = .ok (.goto 6, 3) := by decide +kernel
theorem dL_refusalReason_11 : decode cL_refusalReason 11 = .ok (.astore_n 2, 1) := by decide +kernel
theorem dL_refusalReason_12 : decode cL_refusalReason 12 = .ok (.iconst 1, 1) := by decide +kernel
theorem dL_refusalReason_13 : decode cL_refusalReason 13 = .ok (.ireturn, 1) := by decide +kernel
theorem dL_refusalReason_14 : decode cL_refusalReason 14 = .ok (.iconst 0, 1) := by decide +kernel
theorem dL_refusalReason_15 : decode cL_refusalReason 15 = .ok (.ireturn, 1) := by decide +kernel
theorem dL_refusalDetail_0 : decode cL_refusalDetail 0 = .ok (.aload_n 1, 1) := by decide +kernel
theorem dL_refusalDetail_1 : decode cL_refusalDetail 1 = .ok (.iconst 0, 1) := by decide +kernel
theorem dL_refusalDetail_2 : decode cL_refusalDetail 2 = .ok (.aload_n 0, 1) := by decide +kernel
theorem dL_refusalDetail_3 : decode cL_refusalDetail 3 = .ok (.invokevirtual 44, 3) := by decide +kernel
theorem dL_refusalDetail_6 : decode cL_refusalDetail 6 = .ok (.i2l, 1) := by decide +kernel
theorem dL_refusalDetail_7 : decode cL_refusalDetail 7 = .ok (.lastore, 1) := by decide +kernel
theorem dL_refusalDetail_8 : decode cL_refusalDetail 8 = .ok (.goto 6, 3) := by decide +kernel
theorem dL_refusalDetail_11 : decode cL_refusalDetail 11 = .ok (.astore_n 2, 1) := by decide +kernel
theorem dL_refusalDetail_12 : decode cL_refusalDetail 12 = .ok (.iconst 1, 1) := by decide +kernel
theorem dL_refusalDetail_13 : decode cL_refusalDetail 13 = .ok (.ireturn, 1) := by decide +kernel
theorem dL_refusalDetail_14 : decode cL_refusalDetail 14 = .ok (.iconst 0, 1) := by decide +kernel
theorem dL_refusalDetail_15 : decode cL_refusalDetail 15 = .ok (.ireturn, 1) := by decide +kernel
theorem dL_setBorder_0 : decode cL_setBorder 0 = .ok (.aload_n 3, 1) := by decide +kernel
theorem dL_setBorder_1 : decode cL_setBorder 1 = .ok (.iconst 0, 1) := by decide +kernel
theorem dL_setBorder_2 : decode cL_setBorder 2 = .ok (.aload_n 0, 1) := by decide +kernel
theorem dL_setBorder_3 : decode cL_setBorder 3 = .ok (.iload_n 1, 1) := by decide +kernel
theorem dL_setBorder_4 : decode cL_setBorder 4 = .ok (.iload_n 2, 1) := by decide +kernel
theorem dL_setBorder_5 : decode cL_setBorder 5 = .ok (.invokevirtual 47, 3) := by decide +kernel
theorem dL_setBorder_8 : decode cL_setBorder 8 = .ok (.i2l, 1) := by decide +kernel
theorem dL_setBorder_9 : decode cL_setBorder 9 = .ok (.lastore, 1) := by decide +kernel
theorem dL_setBorder_10 : decode cL_setBorder 10 = .ok (.goto 11, 3) := by decide +kernel
theorem dL_setBorder_13 : decode cL_setBorder 13 = .ok (.astore 4, 2) := by decide +kernel
theorem dL_setBorder_15 : decode cL_setBorder 15 = .ok (.iconst 1, 1) := by decide +kernel
theorem dL_setBorder_16 : decode cL_setBorder 16 = .ok (.ireturn, 1) := by decide +kernel
theorem dL_setBorder_17 : decode cL_setBorder 17 = .ok (.astore 4, 2) := by decide +kernel
theorem dL_setBorder_19 : decode cL_setBorder 19 = .ok (.iconst 2, 1) := by decide +kernel
theorem dL_setBorder_20 : decode cL_setBorder 20 = .ok (.ireturn, 1) := by decide +kernel
theorem dL_setBorder_21 : decode cL_setBorder 21 = .ok (.iconst 0, 1) := by decide +kernel
theorem dL_setBorder_22 : decode cL_setBorder 22 = .ok (.ireturn, 1) := by decide +kernel
theorem dL_border_0 : decode cL_border 0 = .ok (.aload_n 2, 1) := by decide +kernel
theorem dL_border_1 : decode cL_border 1 = .ok (.iconst 0, 1) := by decide +kernel
theorem dL_border_2 : decode cL_border 2 = .ok (.aload_n 0, 1) := by decide +kernel
theorem dL_border_3 : decode cL_border 3 = .ok (.iload_n 1, 1) := by decide +kernel
theorem dL_border_4 : decode cL_border 4 = .ok (.invokevirtual 50, 3) := by decide +kernel
theorem dL_border_7 : decode cL_border 7 = .ok (.i2l, 1) := by decide +kernel
theorem dL_border_8 : decode cL_border 8 = .ok (.lastore, 1) := by decide +kernel
theorem dL_border_9 : decode cL_border 9 = .ok (.goto 6, 3) := by decide +kernel
theorem dL_border_12 : decode cL_border 12 = .ok (.astore_n 3, 1) := by decide +kernel
theorem dL_border_13 : decode cL_border 13 = .ok (.iconst 1, 1) := by decide +kernel
theorem dL_border_14 : decode cL_border 14 = .ok (.ireturn, 1) := by decide +kernel
theorem dL_border_15 : decode cL_border 15 = .ok (.iconst 0, 1) := by decide +kernel
theorem dL_border_16 : decode cL_border 16 = .ok (.ireturn, 1) := by decide +kernel
theorem dL_lostBy_0 : decode cL_lostBy 0 = .ok (.aload_n 2, 1) := by decide +kernel
theorem dL_lostBy_1 : decode cL_lostBy 1 = .ok (.iconst 0, 1) := by decide +kernel
theorem dL_lostBy_2 : decode cL_lostBy 2 = .ok (.aload_n 0, 1) := by decide +kernel
theorem dL_lostBy_3 : decode cL_lostBy 3 = .ok (.iload_n 1, 1) := by decide +kernel
theorem dL_lostBy_4 : decode cL_lostBy 4 = .ok (.invokevirtual 53, 3) := by decide +kernel
theorem dL_lostBy_7 : decode cL_lostBy 7 = .ok (.i2l, 1) := by decide +kernel
theorem dL_lostBy_8 : decode cL_lostBy 8 = .ok (.lastore, 1) := by decide +kernel
theorem dL_lostBy_9 : decode cL_lostBy 9 = .ok (.goto 6, 3) := by decide +kernel
theorem dL_lostBy_12 : decode cL_lostBy 12 = .ok (.astore_n 3, 1) := by decide +kernel
theorem dL_lostBy_13 : decode cL_lostBy 13 = .ok (.iconst 1, 1) := by decide +kernel
theorem dL_lostBy_14 : decode cL_lostBy 14 = .ok (.ireturn, 1) := by decide +kernel
theorem dL_lostBy_15 : decode cL_lostBy 15 = .ok (.iconst 0, 1) := by decide +kernel
theorem dL_lostBy_16 : decode cL_lostBy 16 = .ok (.ireturn, 1) := by decide +kernel
theorem dL_pass_0 : decode cL_pass 0 = .ok (.aload_n 2, 1) := by decide +kernel
theorem dL_pass_1 : decode cL_pass 1 = .ok (.iconst 0, 1) := by decide +kernel
theorem dL_pass_2 : decode cL_pass 2 = .ok (.aload_n 0, 1) := by decide +kernel
theorem dL_pass_3 : decode cL_pass 3 = .ok (.iload_n 1, 1) := by decide +kernel
theorem dL_pass_4 : decode cL_pass 4 = .ok (.invokevirtual 56, 3) := by decide +kernel
theorem dL_pass_7 : decode cL_pass 7 = .ok (.i2l, 1) := by decide +kernel
theorem dL_pass_8 : decode cL_pass 8 = .ok (.lastore, 1) := by decide +kernel
theorem dL_pass_9 : decode cL_pass 9 = .ok (.goto 6, 3) := by decide +kernel
theorem dL_pass_12 : decode cL_pass 12 = .ok (.astore_n 3, 1) := by decide +kernel
theorem dL_pass_13 : decode cL_pass 13 = .ok (.iconst 1, 1) := by decide +kernel
theorem dL_pass_14 : decode cL_pass 14 = .ok (.ireturn, 1) := by decide +kernel
theorem dL_pass_15 : decode cL_pass 15 = .ok (.iconst 0, 1) := by decide +kernel
theorem dL_pass_16 : decode cL_pass 16 = .ok (.ireturn, 1) := by decide +kernel
theorem dL_ticksUntilBelow_0 : decode cL_ticksUntilBelow 0 = .ok (.aload_n 2, 1) := by decide +kernel
theorem dL_ticksUntilBelow_1 : decode cL_ticksUntilBelow 1 = .ok (.iconst 0, 1) := by decide +kernel
theorem dL_ticksUntilBelow_2 : decode cL_ticksUntilBelow 2 = .ok (.aload_n 0, 1) := by decide +kernel
theorem dL_ticksUntilBelow_3 : decode cL_ticksUntilBelow 3 = .ok (.iload_n 1, 1) := by decide +kernel
theorem dL_ticksUntilBelow_4 : decode cL_ticksUntilBelow 4 = .ok (.invokevirtual 59, 3) := by decide +kernel
theorem dL_ticksUntilBelow_7 : decode cL_ticksUntilBelow 7 = .ok (.i2l, 1) := by decide +kernel
theorem dL_ticksUntilBelow_8 : decode cL_ticksUntilBelow 8 = .ok (.lastore, 1) := by decide +kernel
theorem dL_ticksUntilBelow_9 : decode cL_ticksUntilBelow 9 = .ok (.goto 9, 3) := by decide +kernel
theorem dL_ticksUntilBelow_12 : decode cL_ticksUntilBelow 12 = .ok (.astore_n 3, 1) := by decide +kernel
theorem dL_ticksUntilBelow_13 : decode cL_ticksUntilBelow 13 = .ok (.iconst 1, 1) := by decide +kernel
theorem dL_ticksUntilBelow_14 : decode cL_ticksUntilBelow 14 = .ok (.ireturn, 1) := by decide +kernel
theorem dL_ticksUntilBelow_15 : decode cL_ticksUntilBelow 15 = .ok (.astore_n 3, 1) := by decide +kernel
theorem dL_ticksUntilBelow_16 : decode cL_ticksUntilBelow 16 = .ok (.iconst 2, 1) := by decide +kernel
theorem dL_ticksUntilBelow_17 : decode cL_ticksUntilBelow 17 = .ok (.ireturn, 1) := by decide +kernel
theorem dL_ticksUntilBelow_18 : decode cL_ticksUntilBelow 18 = .ok (.iconst 0, 1) := by decide +kernel
theorem dL_ticksUntilBelow_19 : decode cL_ticksUntilBelow 19 = .ok (.ireturn, 1) := by decide +kernel
theorem dL_cellBits_0 : decode cL_cellBits 0 = .ok (.aload_n 2, 1) := by decide +kernel
theorem dL_cellBits_1 : decode cL_cellBits 1 = .ok (.iconst 0, 1) := by decide +kernel
theorem dL_cellBits_2 : decode cL_cellBits 2 = .ok (.aload_n 0, 1) := by decide +kernel
theorem dL_cellBits_3 : decode cL_cellBits 3 = .ok (.iload_n 1, 1) := by decide +kernel
theorem dL_cellBits_4 : decode cL_cellBits 4 = .ok (.invokevirtual 62, 3) := by decide +kernel
theorem dL_cellBits_7 : decode cL_cellBits 7 = .ok (.lastore, 1) := by decide +kernel
theorem dL_cellBits_8 : decode cL_cellBits 8 = .ok (.goto 6, 3) := by decide +kernel
theorem dL_cellBits_11 : decode cL_cellBits 11 = .ok (.astore_n 3, 1) := by decide +kernel
theorem dL_cellBits_12 : decode cL_cellBits 12 = .ok (.iconst 1, 1) := by decide +kernel
theorem dL_cellBits_13 : decode cL_cellBits 13 = .ok (.ireturn, 1) := by decide +kernel
theorem dL_cellBits_14 : decode cL_cellBits 14 = .ok (.iconst 0, 1) := by decide +kernel
theorem dL_cellBits_15 : decode cL_cellBits 15 = .ok (.ireturn, 1) := by decide +kernel
theorem dL_regions_0 : decode cL_regions 0 = .ok (.aload_n 2, 1) := by decide +kernel
theorem dL_regions_1 : decode cL_regions 1 = .ok (.iconst 0, 1) := by decide +kernel
theorem dL_regions_2 : decode cL_regions 2 = .ok (.aload_n 0, 1) := by decide +kernel
theorem dL_regions_3 : decode cL_regions 3 = .ok (.iload_n 1, 1) := by decide +kernel
theorem dL_regions_4 : decode cL_regions 4 = .ok (.invokevirtual 66, 3) := by decide +kernel
theorem dL_regions_7 : decode cL_regions 7 = .ok (.i2l, 1) := by decide +kernel
theorem dL_regions_8 : decode cL_regions 8 = .ok (.lastore, 1) := by decide +kernel
theorem dL_regions_9 : decode cL_regions 9 = .ok (.goto 6, 3) := by decide +kernel
theorem dL_regions_12 : decode cL_regions 12 = .ok (.astore_n 3, 1) := by decide +kernel
theorem dL_regions_13 : decode cL_regions 13 = .ok (.iconst 1, 1) := by decide +kernel
theorem dL_regions_14 : decode cL_regions 14 = .ok (.ireturn, 1) := by decide +kernel
theorem dL_regions_15 : decode cL_regions 15 = .ok (.iconst 0, 1) := by decide +kernel
theorem dL_regions_16 : decode cL_regions 16 = .ok (.ireturn, 1) := by decide +kernel
theorem dL_regionsByUnions_0 : decode cL_regionsByUnions 0 = .ok (.aload_n 2, 1) := by decide +kernel
theorem dL_regionsByUnions_1 : decode cL_regionsByUnions 1 = .ok (.iconst 0, 1) := by decide +kernel
theorem dL_regionsByUnions_2 : decode cL_regionsByUnions 2 = .ok (.aload_n 0, 1) := by decide +kernel
theorem dL_regionsByUnions_3 : decode cL_regionsByUnions 3 = .ok (.iload_n 1, 1) := by decide +kernel
theorem dL_regionsByUnions_4 : decode cL_regionsByUnions 4 = .ok (.invokevirtual 69, 3) := by decide +kernel
theorem dL_regionsByUnions_7 : decode cL_regionsByUnions 7 = .ok (.i2l, 1) := by decide +kernel
theorem dL_regionsByUnions_8 : decode cL_regionsByUnions 8 = .ok (.lastore, 1) := by decide +kernel
theorem dL_regionsByUnions_9 : decode cL_regionsByUnions 9 = .ok (.goto 6, 3) := by decide +kernel
theorem dL_regionsByUnions_12 : decode cL_regionsByUnions 12 = .ok (.astore_n 3, 1) := by decide +kernel
theorem dL_regionsByUnions_13 : decode cL_regionsByUnions 13 = .ok (.iconst 1, 1) := by decide +kernel
theorem dL_regionsByUnions_14 : decode cL_regionsByUnions 14 = .ok (.ireturn, 1) := by decide +kernel
theorem dL_regionsByUnions_15 : decode cL_regionsByUnions 15 = .ok (.iconst 0, 1) := by decide +kernel
theorem dL_regionsByUnions_16 : decode cL_regionsByUnions 16 = .ok (.ireturn, 1) := by decide +kernel
theorem dL_holes_0 : decode cL_holes 0 = .ok (.aload_n 2, 1) := by decide +kernel
theorem dL_holes_1 : decode cL_holes 1 = .ok (.iconst 0, 1) := by decide +kernel
theorem dL_holes_2 : decode cL_holes 2 = .ok (.aload_n 0, 1) := by decide +kernel
theorem dL_holes_3 : decode cL_holes 3 = .ok (.iload_n 1, 1) := by decide +kernel
theorem dL_holes_4 : decode cL_holes 4 = .ok (.invokevirtual 72, 3) := by decide +kernel
theorem dL_holes_7 : decode cL_holes 7 = .ok (.i2l, 1) := by decide +kernel
theorem dL_holes_8 : decode cL_holes 8 = .ok (.lastore, 1) := by decide +kernel
theorem dL_holes_9 : decode cL_holes 9 = .ok (.goto 6, 3) := by decide +kernel
theorem dL_holes_12 : decode cL_holes 12 = .ok (.astore_n 3, 1) := by decide +kernel
theorem dL_holes_13 : decode cL_holes 13 = .ok (.iconst 1, 1) := by decide +kernel
theorem dL_holes_14 : decode cL_holes 14 = .ok (.ireturn, 1) := by decide +kernel
theorem dL_holes_15 : decode cL_holes 15 = .ok (.iconst 0, 1) := by decide +kernel
theorem dL_holes_16 : decode cL_holes 16 = .ok (.ireturn, 1) := by decide +kernel
theorem dL_holesBySquares_0 : decode cL_holesBySquares 0 = .ok (.aload_n 2, 1) := by decide +kernel
theorem dL_holesBySquares_1 : decode cL_holesBySquares 1 = .ok (.iconst 0, 1) := by decide +kernel
theorem dL_holesBySquares_2 : decode cL_holesBySquares 2 = .ok (.aload_n 0, 1) := by decide +kernel
theorem dL_holesBySquares_3 : decode cL_holesBySquares 3 = .ok (.iload_n 1, 1) := by decide +kernel
theorem dL_holesBySquares_4 : decode cL_holesBySquares 4 = .ok (.invokevirtual 75, 3) := by decide +kernel
theorem dL_holesBySquares_7 : decode cL_holesBySquares 7 = .ok (.i2l, 1) := by decide +kernel
theorem dL_holesBySquares_8 : decode cL_holesBySquares 8 = .ok (.lastore, 1) := by decide +kernel
theorem dL_holesBySquares_9 : decode cL_holesBySquares 9 = .ok (.goto 6, 3) := by decide +kernel
theorem dL_holesBySquares_12 : decode cL_holesBySquares 12 = .ok (.astore_n 3, 1) := by decide +kernel
theorem dL_holesBySquares_13 : decode cL_holesBySquares 13 = .ok (.iconst 1, 1) := by decide +kernel
theorem dL_holesBySquares_14 : decode cL_holesBySquares 14 = .ok (.ireturn, 1) := by decide +kernel
theorem dL_holesBySquares_15 : decode cL_holesBySquares 15 = .ok (.iconst 0, 1) := by decide +kernel
theorem dL_holesBySquares_16 : decode cL_holesBySquares 16 = .ok (.ireturn, 1) := by decide +kernel
theorem dL_contourLength_0 : decode cL_contourLength 0 = .ok (.aload_n 2, 1) := by decide +kernel
theorem dL_contourLength_1 : decode cL_contourLength 1 = .ok (.iconst 0, 1) := by decide +kernel
theorem dL_contourLength_2 : decode cL_contourLength 2 = .ok (.aload_n 0, 1) := by decide +kernel
theorem dL_contourLength_3 : decode cL_contourLength 3 = .ok (.iload_n 1, 1) := by decide +kernel
theorem dL_contourLength_4 : decode cL_contourLength 4 = .ok (.invokevirtual 78, 3) := by decide +kernel
theorem dL_contourLength_7 : decode cL_contourLength 7 = .ok (.i2l, 1) := by decide +kernel
theorem dL_contourLength_8 : decode cL_contourLength 8 = .ok (.lastore, 1) := by decide +kernel
theorem dL_contourLength_9 : decode cL_contourLength 9 = .ok (.goto 6, 3) := by decide +kernel
theorem dL_contourLength_12 : decode cL_contourLength 12 = .ok (.astore_n 3, 1) := by decide +kernel
theorem dL_contourLength_13 : decode cL_contourLength 13 = .ok (.iconst 1, 1) := by decide +kernel
theorem dL_contourLength_14 : decode cL_contourLength 14 = .ok (.ireturn, 1) := by decide +kernel
theorem dL_contourLength_15 : decode cL_contourLength 15 = .ok (.iconst 0, 1) := by decide +kernel
theorem dL_contourLength_16 : decode cL_contourLength 16 = .ok (.ireturn, 1) := by decide +kernel
theorem dL_contourLengthByPairs_0 : decode cL_contourLengthByPairs 0 = .ok (.aload_n 2, 1) := by decide +kernel
theorem dL_contourLengthByPairs_1 : decode cL_contourLengthByPairs 1 = .ok (.iconst 0, 1) := by decide +kernel
theorem dL_contourLengthByPairs_2 : decode cL_contourLengthByPairs 2 = .ok (.aload_n 0, 1) := by decide +kernel
theorem dL_contourLengthByPairs_3 : decode cL_contourLengthByPairs 3 = .ok (.iload_n 1, 1) := by decide +kernel
theorem dL_contourLengthByPairs_4 : decode cL_contourLengthByPairs 4 = .ok (.invokevirtual 81, 3) := by decide +kernel
theorem dL_contourLengthByPairs_7 : decode cL_contourLengthByPairs 7 = .ok (.i2l, 1) := by decide +kernel
theorem dL_contourLengthByPairs_8 : decode cL_contourLengthByPairs 8 = .ok (.lastore, 1) := by decide +kernel
theorem dL_contourLengthByPairs_9 : decode cL_contourLengthByPairs 9 = .ok (.goto 6, 3) := by decide +kernel
theorem dL_contourLengthByPairs_12 : decode cL_contourLengthByPairs 12 = .ok (.astore_n 3, 1) := by decide +kernel
theorem dL_contourLengthByPairs_13 : decode cL_contourLengthByPairs 13 = .ok (.iconst 1, 1) := by decide +kernel
theorem dL_contourLengthByPairs_14 : decode cL_contourLengthByPairs 14 = .ok (.ireturn, 1) := by decide +kernel
theorem dL_contourLengthByPairs_15 : decode cL_contourLengthByPairs 15 = .ok (.iconst 0, 1) := by decide +kernel
theorem dL_contourLengthByPairs_16 : decode cL_contourLengthByPairs 16 = .ok (.ireturn, 1) := by decide +kernel
theorem dL_regionSize_0 : decode cL_regionSize 0 = .ok (.aload 4, 2) := by decide +kernel
theorem dL_regionSize_2 : decode cL_regionSize 2 = .ok (.iconst 0, 1) := by decide +kernel
theorem dL_regionSize_3 : decode cL_regionSize 3 = .ok (.aload_n 0, 1) := by decide +kernel
theorem dL_regionSize_4 : decode cL_regionSize 4 = .ok (.iload_n 1, 1) := by decide +kernel
theorem dL_regionSize_5 : decode cL_regionSize 5 = .ok (.iload_n 2, 1) := by decide +kernel
theorem dL_regionSize_6 : decode cL_regionSize 6 = .ok (.iload_n 3, 1) := by decide +kernel
theorem dL_regionSize_7 : decode cL_regionSize 7 = .ok (.invokevirtual 84, 3) := by decide +kernel
theorem dL_regionSize_10 : decode cL_regionSize 10 = .ok (.i2l, 1) := by decide +kernel
theorem dL_regionSize_11 : decode cL_regionSize 11 = .ok (.lastore, 1) := by decide +kernel
theorem dL_regionSize_12 : decode cL_regionSize 12 = .ok (.goto 11, 3) := by decide +kernel
theorem dL_regionSize_15 : decode cL_regionSize 15 = .ok (.astore 5, 2) := by decide +kernel
theorem dL_regionSize_17 : decode cL_regionSize 17 = .ok (.iconst 1, 1) := by decide +kernel
theorem dL_regionSize_18 : decode cL_regionSize 18 = .ok (.ireturn, 1) := by decide +kernel
theorem dL_regionSize_19 : decode cL_regionSize 19 = .ok (.astore 5, 2) := by decide +kernel
theorem dL_regionSize_21 : decode cL_regionSize 21 = .ok (.iconst 2, 1) := by decide +kernel
theorem dL_regionSize_22 : decode cL_regionSize 22 = .ok (.ireturn, 1) := by decide +kernel
theorem dL_regionSize_23 : decode cL_regionSize 23 = .ok (.iconst 0, 1) := by decide +kernel
theorem dL_regionSize_24 : decode cL_regionSize 24 = .ok (.ireturn, 1) := by decide +kernel
theorem dL_coolestPeak_0 : decode cL_coolestPeak 0 = .ok (.aload 5, 2) := by decide +kernel
theorem dL_coolestPeak_2 : decode cL_coolestPeak 2 = .ok (.iconst 0, 1) := by decide +kernel
theorem dL_coolestPeak_3 : decode cL_coolestPeak 3 = .ok (.aload_n 0, 1) := by decide +kernel
theorem dL_coolestPeak_4 : decode cL_coolestPeak 4 = .ok (.iload_n 1, 1) := by decide +kernel
theorem dL_coolestPeak_5 : decode cL_coolestPeak 5 = .ok (.iload_n 2, 1) := by decide +kernel
theorem dL_coolestPeak_6 : decode cL_coolestPeak 6 = .ok (.iload_n 3, 1) := by decide +kernel
theorem dL_coolestPeak_7 : decode cL_coolestPeak 7 = .ok (.iload 4, 2) := by decide +kernel
theorem dL_coolestPeak_9 : decode cL_coolestPeak 9 = .ok (.invokevirtual 87, 3) := by decide +kernel
theorem dL_coolestPeak_12 : decode cL_coolestPeak 12 = .ok (.i2l, 1) := by decide +kernel
theorem dL_coolestPeak_13 : decode cL_coolestPeak 13 = .ok (.lastore, 1) := by decide +kernel
theorem dL_coolestPeak_14 : decode cL_coolestPeak 14 = .ok (.goto 11, 3) := by decide +kernel
theorem dL_coolestPeak_17 : decode cL_coolestPeak 17 = .ok (.astore 6, 2) := by decide +kernel
theorem dL_coolestPeak_19 : decode cL_coolestPeak 19 = .ok (.iconst 1, 1) := by decide +kernel
theorem dL_coolestPeak_20 : decode cL_coolestPeak 20 = .ok (.ireturn, 1) := by decide +kernel
theorem dL_coolestPeak_21 : decode cL_coolestPeak 21 = .ok (.astore 6, 2) := by decide +kernel
theorem dL_coolestPeak_23 : decode cL_coolestPeak 23 = .ok (.iconst 2, 1) := by decide +kernel
theorem dL_coolestPeak_24 : decode cL_coolestPeak 24 = .ok (.ireturn, 1) := by decide +kernel
theorem dL_coolestPeak_25 : decode cL_coolestPeak 25 = .ok (.iconst 0, 1) := by decide +kernel
theorem dL_coolestPeak_26 : decode cL_coolestPeak 26 = .ok (.ireturn, 1) := by decide +kernel
theorem dL_coolestPeakByTrying_0 : decode cL_coolestPeakByTrying 0 = .ok (.aload 5, 2) := by decide +kernel
theorem dL_coolestPeakByTrying_2 : decode cL_coolestPeakByTrying 2 = .ok (.iconst 0, 1) := by decide +kernel
theorem dL_coolestPeakByTrying_3 : decode cL_coolestPeakByTrying 3 = .ok (.aload_n 0, 1) := by decide +kernel
theorem dL_coolestPeakByTrying_4 : decode cL_coolestPeakByTrying 4 = .ok (.iload_n 1, 1) := by decide +kernel
theorem dL_coolestPeakByTrying_5 : decode cL_coolestPeakByTrying 5 = .ok (.iload_n 2, 1) := by decide +kernel
theorem dL_coolestPeakByTrying_6 : decode cL_coolestPeakByTrying 6 = .ok (.iload_n 3, 1) := by decide +kernel
theorem dL_coolestPeakByTrying_7 : decode cL_coolestPeakByTrying 7 = .ok (.iload 4, 2) := by decide +kernel
theorem dL_coolestPeakByTrying_9 : decode cL_coolestPeakByTrying 9 = .ok (.invokevirtual 91, 3) := by decide +kernel
theorem dL_coolestPeakByTrying_12 : decode cL_coolestPeakByTrying 12 = .ok (.i2l, 1) := by decide +kernel
theorem dL_coolestPeakByTrying_13 : decode cL_coolestPeakByTrying 13 = .ok (.lastore, 1) := by decide +kernel
theorem dL_coolestPeakByTrying_14 : decode cL_coolestPeakByTrying 14 = .ok (.goto 11, 3) := by decide +kernel
theorem dL_coolestPeakByTrying_17 : decode cL_coolestPeakByTrying 17 = .ok (.astore 6, 2) := by decide +kernel
theorem dL_coolestPeakByTrying_19 : decode cL_coolestPeakByTrying 19 = .ok (.iconst 1, 1) := by decide +kernel
theorem dL_coolestPeakByTrying_20 : decode cL_coolestPeakByTrying 20 = .ok (.ireturn, 1) := by decide +kernel
theorem dL_coolestPeakByTrying_21 : decode cL_coolestPeakByTrying 21 = .ok (.astore 6, 2) := by decide +kernel
theorem dL_coolestPeakByTrying_23 : decode cL_coolestPeakByTrying 23 = .ok (.iconst 2, 1) := by decide +kernel
theorem dL_coolestPeakByTrying_24 : decode cL_coolestPeakByTrying 24 = .ok (.ireturn, 1) := by decide +kernel
theorem dL_coolestPeakByTrying_25 : decode cL_coolestPeakByTrying 25 = .ok (.iconst 0, 1) := by decide +kernel
theorem dL_coolestPeakByTrying_26 : decode cL_coolestPeakByTrying 26 = .ok (.ireturn, 1) := by decide +kernel
theorem dL_legendSpread_0 : decode cL_legendSpread 0 = .ok (.aload_n 2, 1) := by decide +kernel
theorem dL_legendSpread_1 : decode cL_legendSpread 1 = .ok (.iconst 0, 1) := by decide +kernel
theorem dL_legendSpread_2 : decode cL_legendSpread 2 = .ok (.aload_n 0, 1) := by decide +kernel
theorem dL_legendSpread_3 : decode cL_legendSpread 3 = .ok (.iload_n 1, 1) := by decide +kernel
theorem dL_legendSpread_4 : decode cL_legendSpread 4 = .ok (.invokevirtual 94, 3) := by decide +kernel
theorem dL_legendSpread_7 : decode cL_legendSpread 7 = .ok (.i2l, 1) := by decide +kernel
theorem dL_legendSpread_8 : decode cL_legendSpread 8 = .ok (.lastore, 1) := by decide +kernel
theorem dL_legendSpread_9 : decode cL_legendSpread 9 = .ok (.goto 9, 3) := by decide +kernel
theorem dL_legendSpread_12 : decode cL_legendSpread 12 = .ok (.astore_n 3, 1) := by decide +kernel
theorem dL_legendSpread_13 : decode cL_legendSpread 13 = .ok (.iconst 1, 1) := by decide +kernel
theorem dL_legendSpread_14 : decode cL_legendSpread 14 = .ok (.ireturn, 1) := by decide +kernel
theorem dL_legendSpread_15 : decode cL_legendSpread 15 = .ok (.astore_n 3, 1) := by decide +kernel
theorem dL_legendSpread_16 : decode cL_legendSpread 16 = .ok (.iconst 2, 1) := by decide +kernel
theorem dL_legendSpread_17 : decode cL_legendSpread 17 = .ok (.ireturn, 1) := by decide +kernel
theorem dL_legendSpread_18 : decode cL_legendSpread 18 = .ok (.iconst 0, 1) := by decide +kernel
theorem dL_legendSpread_19 : decode cL_legendSpread 19 = .ok (.ireturn, 1) := by decide +kernel
theorem dL_legendSpreadByTable_0 : decode cL_legendSpreadByTable 0 = .ok (.aload_n 2, 1) := by decide +kernel
theorem dL_legendSpreadByTable_1 : decode cL_legendSpreadByTable 1 = .ok (.iconst 0, 1) := by decide +kernel
theorem dL_legendSpreadByTable_2 : decode cL_legendSpreadByTable 2 = .ok (.aload_n 0, 1) := by decide +kernel
theorem dL_legendSpreadByTable_3 : decode cL_legendSpreadByTable 3 = .ok (.iload_n 1, 1) := by decide +kernel
theorem dL_legendSpreadByTable_4 : decode cL_legendSpreadByTable 4 = .ok (.invokevirtual 99, 3) := by decide +kernel
theorem dL_legendSpreadByTable_7 : decode cL_legendSpreadByTable 7 = .ok (.i2l, 1) := by decide +kernel
theorem dL_legendSpreadByTable_8 : decode cL_legendSpreadByTable 8 = .ok (.lastore, 1) := by decide +kernel
theorem dL_legendSpreadByTable_9 : decode cL_legendSpreadByTable 9 = .ok (.goto 9, 3) := by decide +kernel
theorem dL_legendSpreadByTable_12 : decode cL_legendSpreadByTable 12 = .ok (.astore_n 3, 1) := by decide +kernel
theorem dL_legendSpreadByTable_13 : decode cL_legendSpreadByTable 13 = .ok (.iconst 1, 1) := by decide +kernel
theorem dL_legendSpreadByTable_14 : decode cL_legendSpreadByTable 14 = .ok (.ireturn, 1) := by decide +kernel
theorem dL_legendSpreadByTable_15 : decode cL_legendSpreadByTable 15 = .ok (.astore_n 3, 1) := by decide +kernel
theorem dL_legendSpreadByTable_16 : decode cL_legendSpreadByTable 16 = .ok (.iconst 2, 1) := by decide +kernel
theorem dL_legendSpreadByTable_17 : decode cL_legendSpreadByTable 17 = .ok (.ireturn, 1) := by decide +kernel
theorem dL_legendSpreadByTable_18 : decode cL_legendSpreadByTable 18 = .ok (.iconst 0, 1) := by decide +kernel
theorem dL_legendSpreadByTable_19 : decode cL_legendSpreadByTable 19 = .ok (.ireturn, 1) := by decide +kernel
theorem dL_classBegin_0 : decode cL_classBegin 0 = .ok (.aload_n 3, 1) := by decide +kernel
theorem dL_classBegin_1 : decode cL_classBegin 1 = .ok (.iconst 0, 1) := by decide +kernel
theorem dL_classBegin_2 : decode cL_classBegin 2 = .ok (.aload_n 0, 1) := by decide +kernel
theorem dL_classBegin_3 : decode cL_classBegin 3 = .ok (.iload_n 1, 1) := by decide +kernel
theorem dL_classBegin_4 : decode cL_classBegin 4 = .ok (.iload_n 2, 1) := by decide +kernel
theorem dL_classBegin_5 : decode cL_classBegin 5 = .ok (.invokevirtual 102, 3) := by decide +kernel
theorem dL_classBegin_8 : decode cL_classBegin 8 = .ok (.i2l, 1) := by decide +kernel
theorem dL_classBegin_9 : decode cL_classBegin 9 = .ok (.lastore, 1) := by decide +kernel
theorem dL_classBegin_10 : decode cL_classBegin 10 = .ok (.goto 15, 3) := by decide +kernel
theorem dL_classBegin_13 : decode cL_classBegin 13 = .ok (.astore 4, 2) := by decide +kernel
theorem dL_classBegin_15 : decode cL_classBegin 15 = .ok (.iconst 1, 1) := by decide +kernel
theorem dL_classBegin_16 : decode cL_classBegin 16 = .ok (.ireturn, 1) := by decide +kernel
theorem dL_classBegin_17 : decode cL_classBegin 17 = .ok (.astore 4, 2) := by decide +kernel
theorem dL_classBegin_19 : decode cL_classBegin 19 = .ok (.iconst 2, 1) := by decide +kernel
theorem dL_classBegin_20 : decode cL_classBegin 20 = .ok (.ireturn, 1) := by decide +kernel
theorem dL_classBegin_21 : decode cL_classBegin 21 = .ok (.astore 4, 2) := by decide +kernel
theorem dL_classBegin_23 : decode cL_classBegin 23 = .ok (.iconst 3, 1) := by decide +kernel
theorem dL_classBegin_24 : decode cL_classBegin 24 = .ok (.ireturn, 1) := by decide +kernel
theorem dL_classBegin_25 : decode cL_classBegin 25 = .ok (.iconst 0, 1) := by decide +kernel
theorem dL_classBegin_26 : decode cL_classBegin 26 = .ok (.ireturn, 1) := by decide +kernel
theorem dL_classOf_0 : decode cL_classOf 0 = .ok (.aload 4, 2) := by decide +kernel
theorem dL_classOf_2 : decode cL_classOf 2 = .ok (.iconst 0, 1) := by decide +kernel
theorem dL_classOf_3 : decode cL_classOf 3 = .ok (.aload_n 0, 1) := by decide +kernel
theorem dL_classOf_4 : decode cL_classOf 4 = .ok (.iload_n 1, 1) := by decide +kernel
theorem dL_classOf_5 : decode cL_classOf 5 = .ok (.iload_n 2, 1) := by decide +kernel
theorem dL_classOf_6 : decode cL_classOf 6 = .ok (.iload_n 3, 1) := by decide +kernel
theorem dL_classOf_7 : decode cL_classOf 7 = .ok (.invokevirtual 105, 3) := by decide +kernel
theorem dL_classOf_10 : decode cL_classOf 10 = .ok (.i2l, 1) := by decide +kernel
theorem dL_classOf_11 : decode cL_classOf 11 = .ok (.lastore, 1) := by decide +kernel
theorem dL_classOf_12 : decode cL_classOf 12 = .ok (.goto 19, 3) := by decide +kernel
theorem dL_classOf_15 : decode cL_classOf 15 = .ok (.astore 5, 2) := by decide +kernel
theorem dL_classOf_17 : decode cL_classOf 17 = .ok (.iconst 1, 1) := by decide +kernel
theorem dL_classOf_18 : decode cL_classOf 18 = .ok (.ireturn, 1) := by decide +kernel
theorem dL_classOf_19 : decode cL_classOf 19 = .ok (.astore 5, 2) := by decide +kernel
theorem dL_classOf_21 : decode cL_classOf 21 = .ok (.iconst 2, 1) := by decide +kernel
theorem dL_classOf_22 : decode cL_classOf 22 = .ok (.ireturn, 1) := by decide +kernel
theorem dL_classOf_23 : decode cL_classOf 23 = .ok (.astore 5, 2) := by decide +kernel
theorem dL_classOf_25 : decode cL_classOf 25 = .ok (.iconst 3, 1) := by decide +kernel
theorem dL_classOf_26 : decode cL_classOf 26 = .ok (.ireturn, 1) := by decide +kernel
theorem dL_classOf_27 : decode cL_classOf 27 = .ok (.astore 5, 2) := by decide +kernel
theorem dL_classOf_29 : decode cL_classOf 29 = .ok (.iconst 4, 1) := by decide +kernel
theorem dL_classOf_30 : decode cL_classOf 30 = .ok (.ireturn, 1) := by decide +kernel
theorem dL_classOf_31 : decode cL_classOf 31 = .ok (.iconst 0, 1) := by decide +kernel
theorem dL_classOf_32 : decode cL_classOf 32 = .ok (.ireturn, 1) := by decide +kernel
theorem dL_append_0 : decode cL_append 0 = .ok (.aload_n 2, 1) := by decide +kernel
theorem dL_append_1 : decode cL_append 1 = .ok (.iconst 0, 1) := by decide +kernel
theorem dL_append_2 : decode cL_append 2 = .ok (.aload_n 0, 1) := by decide +kernel
theorem dL_append_3 : decode cL_append 3 = .ok (.iload_n 1, 1) := by decide +kernel
theorem dL_append_4 : decode cL_append 4 = .ok (.invokevirtual 108, 3) := by decide +kernel
theorem dL_append_7 : decode cL_append 7 = .ok (.i2l, 1) := by decide +kernel
theorem dL_append_8 : decode cL_append 8 = .ok (.lastore, 1) := by decide +kernel
theorem dL_append_9 : decode cL_append 9 = .ok (.goto 9, 3) := by decide +kernel
theorem dL_append_12 : decode cL_append 12 = .ok (.astore_n 3, 1) := by decide +kernel
theorem dL_append_13 : decode cL_append 13 = .ok (.iconst 1, 1) := by decide +kernel
theorem dL_append_14 : decode cL_append 14 = .ok (.ireturn, 1) := by decide +kernel
theorem dL_append_15 : decode cL_append 15 = .ok (.astore_n 3, 1) := by decide +kernel
theorem dL_append_16 : decode cL_append 16 = .ok (.iconst 2, 1) := by decide +kernel
theorem dL_append_17 : decode cL_append 17 = .ok (.ireturn, 1) := by decide +kernel
theorem dL_append_18 : decode cL_append 18 = .ok (.iconst 0, 1) := by decide +kernel
theorem dL_append_19 : decode cL_append 19 = .ok (.ireturn, 1) := by decide +kernel
theorem dL_run_0 : decode cL_run 0 = .ok (.aload_n 1, 1) := by decide +kernel
theorem dL_run_1 : decode cL_run 1 = .ok (.iconst 0, 1) := by decide +kernel
theorem dL_run_2 : decode cL_run 2 = .ok (.aload_n 0, 1) := by decide +kernel
theorem dL_run_3 : decode cL_run 3 = .ok (.invokevirtual 112, 3) := by decide +kernel
theorem dL_run_6 : decode cL_run 6 = .ok (.i2l, 1) := by decide +kernel
theorem dL_run_7 : decode cL_run 7 = .ok (.lastore, 1) := by decide +kernel
theorem dL_run_8 : decode cL_run 8 = .ok (.goto 9, 3) := by decide +kernel
theorem dL_run_11 : decode cL_run 11 = .ok (.astore_n 2, 1) := by decide +kernel
theorem dL_run_12 : decode cL_run 12 = .ok (.iconst 1, 1) := by decide +kernel
theorem dL_run_13 : decode cL_run 13 = .ok (.ireturn, 1) := by decide +kernel
theorem dL_run_14 : decode cL_run 14 = .ok (.astore_n 2, 1) := by decide +kernel
theorem dL_run_15 : decode cL_run 15 = .ok (.iconst 2, 1) := by decide +kernel
theorem dL_run_16 : decode cL_run 16 = .ok (.ireturn, 1) := by decide +kernel
theorem dL_run_17 : decode cL_run 17 = .ok (.iconst 0, 1) := by decide +kernel
theorem dL_run_18 : decode cL_run 18 = .ok (.ireturn, 1) := by decide +kernel
theorem dL_errorPosition_0 : decode cL_errorPosition 0 = .ok (.aload_n 1, 1) := by decide +kernel
theorem dL_errorPosition_1 : decode cL_errorPosition 1 = .ok (.iconst 0, 1) := by decide +kernel
theorem dL_errorPosition_2 : decode cL_errorPosition 2 = .ok (.aload_n 0, 1) := by decide +kernel
theorem dL_errorPosition_3 : decode cL_errorPosition 3 = .ok (.invokevirtual 115, 3) := by decide +kernel
theorem dL_errorPosition_6 : decode cL_errorPosition 6 = .ok (.i2l, 1) := by decide +kernel
theorem dL_errorPosition_7 : decode cL_errorPosition 7 = .ok (.lastore, 1) := by decide +kernel
theorem dL_errorPosition_8 : decode cL_errorPosition 8 = .ok (.goto 6, 3) := by decide +kernel
theorem dL_errorPosition_11 : decode cL_errorPosition 11 = .ok (.astore_n 2, 1) := by decide +kernel
theorem dL_errorPosition_12 : decode cL_errorPosition 12 = .ok (.iconst 1, 1) := by decide +kernel
theorem dL_errorPosition_13 : decode cL_errorPosition 13 = .ok (.ireturn, 1) := by decide +kernel
theorem dL_errorPosition_14 : decode cL_errorPosition 14 = .ok (.iconst 0, 1) := by decide +kernel
theorem dL_errorPosition_15 : decode cL_errorPosition 15 = .ok (.ireturn, 1) := by decide +kernel
theorem dL_failedCommand_0 : decode cL_failedCommand 0 = .ok (.aload_n 1, 1) := by decide +kernel
theorem dL_failedCommand_1 : decode cL_failedCommand 1 = .ok (.iconst 0, 1) := by decide +kernel
theorem dL_failedCommand_2 : decode cL_failedCommand 2 = .ok (.aload_n 0, 1) := by decide +kernel
theorem dL_failedCommand_3 : decode cL_failedCommand 3 = .ok (.invokevirtual 118, 3) := by decide +kernel
theorem dL_failedCommand_6 : decode cL_failedCommand 6 = .ok (.i2l, 1) := by decide +kernel
theorem dL_failedCommand_7 : decode cL_failedCommand 7 = .ok (.lastore, 1) := by decide +kernel
theorem dL_failedCommand_8 : decode cL_failedCommand 8 = .ok (.goto 6, 3) := by decide +kernel
theorem dL_failedCommand_11 : decode cL_failedCommand 11 = .ok (.astore_n 2, 1) := by decide +kernel
theorem dL_failedCommand_12 : decode cL_failedCommand 12 = .ok (.iconst 1, 1) := by decide +kernel
theorem dL_failedCommand_13 : decode cL_failedCommand 13 = .ok (.ireturn, 1) := by decide +kernel
theorem dL_failedCommand_14 : decode cL_failedCommand 14 = .ok (.iconst 0, 1) := by decide +kernel
theorem dL_failedCommand_15 : decode cL_failedCommand 15 = .ok (.ireturn, 1) := by decide +kernel
theorem dL_describeRow_0 : decode cL_describeRow 0 = .ok (.aload_n 2, 1) := by decide +kernel
theorem dL_describeRow_1 : decode cL_describeRow 1 = .ok (.iconst 0, 1) := by decide +kernel
theorem dL_describeRow_2 : decode cL_describeRow 2 = .ok (.aload_n 0, 1) := by decide +kernel
theorem dL_describeRow_3 : decode cL_describeRow 3 = .ok (.iload_n 1, 1) := by decide +kernel
theorem dL_describeRow_4 : decode cL_describeRow 4 = .ok (.invokevirtual 121, 3) := by decide +kernel
theorem dL_describeRow_7 : decode cL_describeRow 7 = .ok (.i2l, 1) := by decide +kernel
theorem dL_describeRow_8 : decode cL_describeRow 8 = .ok (.lastore, 1) := by decide +kernel
theorem dL_describeRow_9 : decode cL_describeRow 9 = .ok (.goto 6, 3) := by decide +kernel
theorem dL_describeRow_12 : decode cL_describeRow 12 = .ok (.astore_n 3, 1) := by decide +kernel
theorem dL_describeRow_13 : decode cL_describeRow 13 = .ok (.iconst 1, 1) := by decide +kernel
theorem dL_describeRow_14 : decode cL_describeRow 14 = .ok (.ireturn, 1) := by decide +kernel
theorem dL_describeRow_15 : decode cL_describeRow 15 = .ok (.iconst 0, 1) := by decide +kernel
theorem dL_describeRow_16 : decode cL_describeRow 16 = .ok (.ireturn, 1) := by decide +kernel
theorem dL_describeLegend_0 : decode cL_describeLegend 0 = .ok (.aload_n 2, 1) := by decide +kernel
theorem dL_describeLegend_1 : decode cL_describeLegend 1 = .ok (.iconst 0, 1) := by decide +kernel
theorem dL_describeLegend_2 : decode cL_describeLegend 2 = .ok (.aload_n 0, 1) := by decide +kernel
theorem dL_describeLegend_3 : decode cL_describeLegend 3 = .ok (.iload_n 1, 1) := by decide +kernel
theorem dL_describeLegend_4 : decode cL_describeLegend 4 = .ok (.invokevirtual 124, 3) := by decide +kernel
theorem dL_describeLegend_7 : decode cL_describeLegend 7 = .ok (.i2l, 1) := by decide +kernel
theorem dL_describeLegend_8 : decode cL_describeLegend 8 = .ok (.lastore, 1) := by decide +kernel
theorem dL_describeLegend_9 : decode cL_describeLegend 9 = .ok (.goto 9, 3) := by decide +kernel
theorem dL_describeLegend_12 : decode cL_describeLegend 12 = .ok (.astore_n 3, 1) := by decide +kernel
theorem dL_describeLegend_13 : decode cL_describeLegend 13 = .ok (.iconst 1, 1) := by decide +kernel
theorem dL_describeLegend_14 : decode cL_describeLegend 14 = .ok (.ireturn, 1) := by decide +kernel
theorem dL_describeLegend_15 : decode cL_describeLegend 15 = .ok (.astore_n 3, 1) := by decide +kernel
theorem dL_describeLegend_16 : decode cL_describeLegend 16 = .ok (.iconst 2, 1) := by decide +kernel
theorem dL_describeLegend_17 : decode cL_describeLegend 17 = .ok (.ireturn, 1) := by decide +kernel
theorem dL_describeLegend_18 : decode cL_describeLegend 18 = .ok (.iconst 0, 1) := by decide +kernel
theorem dL_describeLegend_19 : decode cL_describeLegend 19 = .ok (.ireturn, 1) := by decide +kernel
theorem dL_lineAt_0 : decode cL_lineAt 0 = .ok (.aload_n 2, 1) := by decide +kernel
theorem dL_lineAt_1 : decode cL_lineAt 1 = .ok (.iconst 0, 1) := by decide +kernel
theorem dL_lineAt_2 : decode cL_lineAt 2 = .ok (.aload_n 0, 1) := by decide +kernel
theorem dL_lineAt_3 : decode cL_lineAt 3 = .ok (.iload_n 1, 1) := by decide +kernel
theorem dL_lineAt_4 : decode cL_lineAt 4 = .ok (.invokevirtual 127, 3) := by decide +kernel
theorem dL_lineAt_7 : decode cL_lineAt 7 = .ok (.i2l, 1) := by decide +kernel
theorem dL_lineAt_8 : decode cL_lineAt 8 = .ok (.lastore, 1) := by decide +kernel
theorem dL_lineAt_9 : decode cL_lineAt 9 = .ok (.goto 6, 3) := by decide +kernel
theorem dL_lineAt_12 : decode cL_lineAt 12 = .ok (.astore_n 3, 1) := by decide +kernel
theorem dL_lineAt_13 : decode cL_lineAt 13 = .ok (.iconst 1, 1) := by decide +kernel
theorem dL_lineAt_14 : decode cL_lineAt 14 = .ok (.ireturn, 1) := by decide +kernel
theorem dL_lineAt_15 : decode cL_lineAt 15 = .ok (.iconst 0, 1) := by decide +kernel
theorem dL_lineAt_16 : decode cL_lineAt 16 = .ok (.ireturn, 1) := by decide +kernel
theorem dL_meanHeat_0 : decode cL_meanHeat 0 = .ok (.aload_n 1, 1) := by decide +kernel
theorem dL_meanHeat_1 : decode cL_meanHeat 1 = .ok (.iconst 0, 1) := by decide +kernel
theorem dL_meanHeat_2 : decode cL_meanHeat 2 = .ok (.aload_n 0, 1) := by decide +kernel
theorem dL_meanHeat_3 : decode cL_meanHeat 3 = .ok (.invokevirtual 131, 3) := by decide +kernel
theorem dL_meanHeat_6 : decode cL_meanHeat 6 = .ok (.dastore, 1) := by decide +kernel
theorem dL_meanHeat_7 : decode cL_meanHeat 7 = .ok (.goto 6, 3) := by decide +kernel
theorem dL_meanHeat_10 : decode cL_meanHeat 10 = .ok (.astore_n 2, 1) := by decide +kernel
theorem dL_meanHeat_11 : decode cL_meanHeat 11 = .ok (.iconst 1, 1) := by decide +kernel
theorem dL_meanHeat_12 : decode cL_meanHeat 12 = .ok (.ireturn, 1) := by decide +kernel
theorem dL_meanHeat_13 : decode cL_meanHeat 13 = .ok (.iconst 0, 1) := by decide +kernel
theorem dL_meanHeat_14 : decode cL_meanHeat 14 = .ok (.ireturn, 1) := by decide +kernel
theorem dL_levelShare_0 : decode cL_levelShare 0 = .ok (.aload_n 2, 1) := by decide +kernel
theorem dL_levelShare_1 : decode cL_levelShare 1 = .ok (.iconst 0, 1) := by decide +kernel
theorem dL_levelShare_2 : decode cL_levelShare 2 = .ok (.aload_n 0, 1) := by decide +kernel
theorem dL_levelShare_3 : decode cL_levelShare 3 = .ok (.iload_n 1, 1) := by decide +kernel
theorem dL_levelShare_4 : decode cL_levelShare 4 = .ok (.invokevirtual 137, 3) := by decide +kernel
theorem dL_levelShare_7 : decode cL_levelShare 7 = .ok (.f2d, 1) := by decide +kernel
theorem dL_levelShare_8 : decode cL_levelShare 8 = .ok (.dastore, 1) := by decide +kernel
theorem dL_levelShare_9 : decode cL_levelShare 9 = .ok (.goto 6, 3) := by decide +kernel
theorem dL_levelShare_12 : decode cL_levelShare 12 = .ok (.astore_n 3, 1) := by decide +kernel
theorem dL_levelShare_13 : decode cL_levelShare 13 = .ok (.iconst 1, 1) := by decide +kernel
theorem dL_levelShare_14 : decode cL_levelShare 14 = .ok (.ireturn, 1) := by decide +kernel
theorem dL_levelShare_15 : decode cL_levelShare 15 = .ok (.iconst 0, 1) := by decide +kernel
theorem dL_levelShare_16 : decode cL_levelShare 16 = .ok (.ireturn, 1) := by decide +kernel
theorem dL_undo_0 : decode cL_undo 0 = .ok (.aload_n 1, 1) := by decide +kernel
theorem dL_undo_1 : decode cL_undo 1 = .ok (.iconst 0, 1) := by decide +kernel
theorem dL_undo_2 : decode cL_undo 2 = .ok (.aload_n 0, 1) := by decide +kernel
theorem dL_undo_3 : decode cL_undo 3 = .ok (.invokevirtual 141, 3) := by decide +kernel
theorem dL_undo_6 : decode cL_undo 6 = .ok (.i2l, 1) := by decide +kernel
theorem dL_undo_7 : decode cL_undo 7 = .ok (.lastore, 1) := by decide +kernel
theorem dL_undo_8 : decode cL_undo 8 = .ok (.goto 6, 3) := by decide +kernel
theorem dL_undo_11 : decode cL_undo 11 = .ok (.astore_n 2, 1) := by decide +kernel
theorem dL_undo_12 : decode cL_undo 12 = .ok (.iconst 1, 1) := by decide +kernel
theorem dL_undo_13 : decode cL_undo 13 = .ok (.ireturn, 1) := by decide +kernel
theorem dL_undo_14 : decode cL_undo 14 = .ok (.iconst 0, 1) := by decide +kernel
theorem dL_undo_15 : decode cL_undo 15 = .ok (.ireturn, 1) := by decide +kernel
theorem dL_restore_0 : decode cL_restore 0 = .ok (.aload_n 1, 1) := by decide +kernel
theorem dL_restore_1 : decode cL_restore 1 = .ok (.iconst 0, 1) := by decide +kernel
theorem dL_restore_2 : decode cL_restore 2 = .ok (.aload_n 0, 1) := by decide +kernel
theorem dL_restore_3 : decode cL_restore 3 = .ok (.invokevirtual 144, 3) := by decide +kernel
theorem dL_restore_6 : decode cL_restore 6 = .ok (.i2l, 1) := by decide +kernel
theorem dL_restore_7 : decode cL_restore 7 = .ok (.lastore, 1) := by decide +kernel
theorem dL_restore_8 : decode cL_restore 8 = .ok (.goto 6, 3) := by decide +kernel
theorem dL_restore_11 : decode cL_restore 11 = .ok (.astore_n 2, 1) := by decide +kernel
theorem dL_restore_12 : decode cL_restore 12 = .ok (.iconst 1, 1) := by decide +kernel
theorem dL_restore_13 : decode cL_restore 13 = .ok (.ireturn, 1) := by decide +kernel
theorem dL_restore_14 : decode cL_restore 14 = .ok (.iconst 0, 1) := by decide +kernel
theorem dL_restore_15 : decode cL_restore 15 = .ok (.ireturn, 1) := by decide +kernel
theorem dL_law_0 : decode cL_law 0 = .ok (.new 8, 3) := by decide +kernel
theorem dL_law_3 : decode cL_law 3 = .ok (.dup, 1) := by decide +kernel
theorem dL_law_4 : decode cL_law 4 = .ok (.invokespecial 147, 3) := by decide +kernel
theorem dL_law_7 : decode cL_law 7 = .ok (.astore_n 1, 1) := by decide +kernel
theorem dL_law_8 : decode cL_law 8 = .ok (.new 148, 3) := by decide +kernel
theorem dL_law_11 : decode cL_law 11 = .ok (.dup, 1) := by decide +kernel
theorem dL_law_12 : decode cL_law 12 = .ok (.invokespecial 150, 3) := by decide +kernel
theorem dL_law_15 : decode cL_law 15 = .ok (.astore_n 2, 1) := by decide +kernel
theorem dL_law_16 : decode cL_law 16 = .ok (.iconst 1, 1) := by decide +kernel
theorem dL_law_17 : decode cL_law 17 = .ok (.newarray .long, 2) := by decide +kernel
theorem dL_law_19 : decode cL_law 19 = .ok (.astore_n 3, 1) := by decide +kernel
theorem dL_law_20 : decode cL_law 20 = .ok (.iconst 1, 1) := by decide +kernel
theorem dL_law_21 : decode cL_law 21 = .ok (.newarray .double, 2) := by decide +kernel
theorem dL_law_23 : decode cL_law 23 = .ok (.astore 4, 2) := by decide +kernel
theorem dL_law_25 : decode cL_law 25 = .ok (.iconst 0, 1) := by decide +kernel
theorem dL_law_26 : decode cL_law 26 = .ok (.istore 5, 2) := by decide +kernel
theorem dL_law_28 : decode cL_law 28 = .ok (.iload 5, 2) := by decide +kernel
theorem dL_law_30 : decode cL_law 30 = .ok (.aload_n 0, 1) := by decide +kernel
theorem dL_law_31 : decode cL_law 31 = .ok (.arraylength, 1) := by decide +kernel
theorem dL_law_32 : decode cL_law 32 = .ok (.iconst 5, 1) := by decide +kernel
theorem dL_law_33 : decode cL_law 33 = .ok (.isub, 1) := by decide +kernel
theorem dL_law_34 : decode cL_law 34 = .ok (.if_icmp .gt 2592, 3) := by decide +kernel
theorem dL_law_37 : decode cL_law 37 = .ok (.aload_n 0, 1) := by decide +kernel
theorem dL_law_38 : decode cL_law 38 = .ok (.iload 5, 2) := by decide +kernel
theorem dL_law_40 : decode cL_law 40 = .ok (.iaload, 1) := by decide +kernel
theorem dL_law_41 : decode cL_law 41 = .ok (.bipush 63, 2) := by decide +kernel
theorem dL_law_43 : decode cL_law 43 = .ok (.iand, 1) := by decide +kernel
theorem dL_law_44 : decode cL_law 44 = .ok (.tableswitch 2576 0 43 #[192, 274, 342, 422, 490, 558, 571, 584, 640, 684, 728, 796, 852, 908, 964, 977, 990, 1046, 1101, 1157, 1213, 1269, 1325, 1381, 1437, 1517, 1609, 1701, 1757, 1813, 1881, 1961, 2019, 2063, 2107, 2151, 2207, 2263, 2319, 2384, 2462, 2475, 2519, 2532], 192) := by decide +kernel
theorem dL_law_236 : decode cL_law 236 = .ok (.aload_n 1, 1) := by decide +kernel
theorem dL_law_237 : decode cL_law 237 = .ok (.aload_n 0, 1) := by decide +kernel
theorem dL_law_238 : decode cL_law 238 = .ok (.iload 5, 2) := by decide +kernel
theorem dL_law_240 : decode cL_law 240 = .ok (.iconst 1, 1) := by decide +kernel
theorem dL_law_241 : decode cL_law 241 = .ok (.iadd, 1) := by decide +kernel
theorem dL_law_242 : decode cL_law 242 = .ok (.iaload, 1) := by decide +kernel
theorem dL_law_243 : decode cL_law 243 = .ok (.aload_n 0, 1) := by decide +kernel
theorem dL_law_244 : decode cL_law 244 = .ok (.iload 5, 2) := by decide +kernel
theorem dL_law_246 : decode cL_law 246 = .ok (.iconst 2, 1) := by decide +kernel
theorem dL_law_247 : decode cL_law 247 = .ok (.iadd, 1) := by decide +kernel
theorem dL_law_248 : decode cL_law 248 = .ok (.iaload, 1) := by decide +kernel
theorem dL_law_249 : decode cL_law 249 = .ok (.aload_n 0, 1) := by decide +kernel
theorem dL_law_250 : decode cL_law 250 = .ok (.iload 5, 2) := by decide +kernel
theorem dL_law_252 : decode cL_law 252 = .ok (.iconst 3, 1) := by decide +kernel
theorem dL_law_253 : decode cL_law 253 = .ok (.iadd, 1) := by decide +kernel
theorem dL_law_254 : decode cL_law 254 = .ok (.iaload, 1) := by decide +kernel
theorem dL_law_255 : decode cL_law 255 = .ok (.i2c, 1) := by decide +kernel
theorem dL_law_256 : decode cL_law 256 = .ok (.aload_n 3, 1) := by decide +kernel
theorem dL_law_257 : decode cL_law 257 = .ok (.invokestatic 151, 3) := by decide +kernel
theorem dL_law_260 : decode cL_law 260 = .ok (.istore 6, 2) := by decide +kernel
theorem dL_law_262 : decode cL_law 262 = .ok (.aload_n 2, 1) := by decide +kernel
theorem dL_law_263 : decode cL_law 263 = .ok (.aload_n 0, 1) := by decide +kernel
theorem dL_law_264 : decode cL_law 264 = .ok (.iload 5, 2) := by decide +kernel
theorem dL_law_266 : decode cL_law 266 = .ok (.iconst 1, 1) := by decide +kernel
theorem dL_law_267 : decode cL_law 267 = .ok (.iadd, 1) := by decide +kernel
theorem dL_law_268 : decode cL_law 268 = .ok (.iaload, 1) := by decide +kernel
theorem dL_law_269 : decode cL_law 269 = .ok (.aload_n 0, 1) := by decide +kernel
theorem dL_law_270 : decode cL_law 270 = .ok (.iload 5, 2) := by decide +kernel
theorem dL_law_272 : decode cL_law 272 = .ok (.iconst 2, 1) := by decide +kernel
theorem dL_law_273 : decode cL_law 273 = .ok (.iadd, 1) := by decide +kernel
theorem dL_law_274 : decode cL_law 274 = .ok (.iaload, 1) := by decide +kernel
theorem dL_law_275 : decode cL_law 275 = .ok (.aload_n 0, 1) := by decide +kernel
theorem dL_law_276 : decode cL_law 276 = .ok (.iload 5, 2) := by decide +kernel
theorem dL_law_278 : decode cL_law 278 = .ok (.iconst 3, 1) := by decide +kernel
theorem dL_law_279 : decode cL_law 279 = .ok (.iadd, 1) := by decide +kernel
theorem dL_law_280 : decode cL_law 280 = .ok (.iaload, 1) := by decide +kernel
theorem dL_law_281 : decode cL_law 281 = .ok (.i2c, 1) := by decide +kernel
theorem dL_law_282 : decode cL_law 282 = .ok (.invokevirtual 156, 3) := by decide +kernel
theorem dL_law_285 : decode cL_law 285 = .ok (.istore 7, 2) := by decide +kernel
theorem dL_law_287 : decode cL_law 287 = .ok (.aload_n 2, 1) := by decide +kernel
theorem dL_law_288 : decode cL_law 288 = .ok (.invokevirtual 157, 3) := by decide +kernel
theorem dL_law_291 : decode cL_law 291 = .ok (.iload 6, 2) := by decide +kernel
theorem dL_law_293 : decode cL_law 293 = .ok (.if_icmp .eq 5, 3) := by decide +kernel
theorem dL_law_296 : decode cL_law 296 = .ok (.iconst 0, 1) := by decide +kernel
theorem dL_law_297 : decode cL_law 297 = .ok (.ireturn, 1) := by decide +kernel
theorem dL_law_298 : decode cL_law 298 = .ok (.iload 6, 2) := by decide +kernel
theorem dL_law_300 : decode cL_law 300 = .ok (.ifCond .ne 15, 3) := by decide +kernel
theorem dL_law_303 : decode cL_law 303 = .ok (.aload_n 3, 1) := by decide +kernel
theorem dL_law_304 : decode cL_law 304 = .ok (.iconst 0, 1) := by decide +kernel
theorem dL_law_305 : decode cL_law 305 = .ok (.laload, 1) := by decide +kernel
theorem dL_law_306 : decode cL_law 306 = .ok (.iload 7, 2) := by decide +kernel
theorem dL_law_308 : decode cL_law 308 = .ok (.i2l, 1) := by decide +kernel
theorem dL_law_309 : decode cL_law 309 = .ok (.lcmp, 1) := by decide +kernel
theorem dL_law_310 : decode cL_law 310 = .ok (.ifCond .eq 5, 3) := by decide +kernel
theorem dL_law_313 : decode cL_law 313 = .ok (.iconst 0, 1) := by decide +kernel
theorem dL_law_314 : decode cL_law 314 = .ok (.ireturn, 1) := by decide +kernel
theorem dL_law_315 : decode cL_law 315 = .ok (.goto 2305, 3) := by decide +kernel
theorem dL_law_318 : decode cL_law 318 = .ok (.aload_n 1, 1) := by decide +kernel
theorem dL_law_319 : decode cL_law 319 = .ok (.aload_n 0, 1) := by decide +kernel
theorem dL_law_320 : decode cL_law 320 = .ok (.iload 5, 2) := by decide +kernel
theorem dL_law_322 : decode cL_law 322 = .ok (.iconst 1, 1) := by decide +kernel
theorem dL_law_323 : decode cL_law 323 = .ok (.iadd, 1) := by decide +kernel
theorem dL_law_324 : decode cL_law 324 = .ok (.iaload, 1) := by decide +kernel
theorem dL_law_325 : decode cL_law 325 = .ok (.aload_n 0, 1) := by decide +kernel
theorem dL_law_326 : decode cL_law 326 = .ok (.iload 5, 2) := by decide +kernel
theorem dL_law_328 : decode cL_law 328 = .ok (.iconst 2, 1) := by decide +kernel
theorem dL_law_329 : decode cL_law 329 = .ok (.iadd, 1) := by decide +kernel
theorem dL_law_330 : decode cL_law 330 = .ok (.iaload, 1) := by decide +kernel
theorem dL_law_331 : decode cL_law 331 = .ok (.aload_n 3, 1) := by decide +kernel
theorem dL_law_332 : decode cL_law 332 = .ok (.invokestatic 160, 3) := by decide +kernel
theorem dL_law_335 : decode cL_law 335 = .ok (.istore 6, 2) := by decide +kernel
theorem dL_law_337 : decode cL_law 337 = .ok (.aload_n 2, 1) := by decide +kernel
theorem dL_law_338 : decode cL_law 338 = .ok (.aload_n 0, 1) := by decide +kernel
theorem dL_law_339 : decode cL_law 339 = .ok (.iload 5, 2) := by decide +kernel
theorem dL_law_341 : decode cL_law 341 = .ok (.iconst 1, 1) := by decide +kernel
theorem dL_law_342 : decode cL_law 342 = .ok (.iadd, 1) := by decide +kernel
theorem dL_law_343 : decode cL_law 343 = .ok (.iaload, 1) := by decide +kernel
theorem dL_law_344 : decode cL_law 344 = .ok (.aload_n 0, 1) := by decide +kernel
theorem dL_law_345 : decode cL_law 345 = .ok (.iload 5, 2) := by decide +kernel
theorem dL_law_347 : decode cL_law 347 = .ok (.iconst 2, 1) := by decide +kernel
theorem dL_law_348 : decode cL_law 348 = .ok (.iadd, 1) := by decide +kernel
theorem dL_law_349 : decode cL_law 349 = .ok (.iaload, 1) := by decide +kernel
theorem dL_law_350 : decode cL_law 350 = .ok (.invokevirtual 163, 3) := by decide +kernel
theorem dL_law_353 : decode cL_law 353 = .ok (.istore 7, 2) := by decide +kernel
theorem dL_law_355 : decode cL_law 355 = .ok (.aload_n 2, 1) := by decide +kernel
theorem dL_law_356 : decode cL_law 356 = .ok (.invokevirtual 157, 3) := by decide +kernel
theorem dL_law_359 : decode cL_law 359 = .ok (.iload 6, 2) := by decide +kernel
theorem dL_law_361 : decode cL_law 361 = .ok (.if_icmp .eq 5, 3) := by decide +kernel
theorem dL_law_364 : decode cL_law 364 = .ok (.iconst 0, 1) := by decide +kernel
theorem dL_law_365 : decode cL_law 365 = .ok (.ireturn, 1) := by decide +kernel
theorem dL_law_366 : decode cL_law 366 = .ok (.iload 6, 2) := by decide +kernel
theorem dL_law_368 : decode cL_law 368 = .ok (.ifCond .ne 15, 3) := by decide +kernel
theorem dL_law_371 : decode cL_law 371 = .ok (.aload_n 3, 1) := by decide +kernel
theorem dL_law_372 : decode cL_law 372 = .ok (.iconst 0, 1) := by decide +kernel
theorem dL_law_373 : decode cL_law 373 = .ok (.laload, 1) := by decide +kernel
theorem dL_law_374 : decode cL_law 374 = .ok (.iload 7, 2) := by decide +kernel
theorem dL_law_376 : decode cL_law 376 = .ok (.i2l, 1) := by decide +kernel
theorem dL_law_377 : decode cL_law 377 = .ok (.lcmp, 1) := by decide +kernel
theorem dL_law_378 : decode cL_law 378 = .ok (.ifCond .eq 5, 3) := by decide +kernel
theorem dL_law_381 : decode cL_law 381 = .ok (.iconst 0, 1) := by decide +kernel
theorem dL_law_382 : decode cL_law 382 = .ok (.ireturn, 1) := by decide +kernel
theorem dL_law_383 : decode cL_law 383 = .ok (.goto 2237, 3) := by decide +kernel
theorem dL_law_386 : decode cL_law 386 = .ok (.aload_n 1, 1) := by decide +kernel
theorem dL_law_387 : decode cL_law 387 = .ok (.aload_n 0, 1) := by decide +kernel
theorem dL_law_388 : decode cL_law 388 = .ok (.iload 5, 2) := by decide +kernel
theorem dL_law_390 : decode cL_law 390 = .ok (.iconst 1, 1) := by decide +kernel
theorem dL_law_391 : decode cL_law 391 = .ok (.iadd, 1) := by decide +kernel
theorem dL_law_392 : decode cL_law 392 = .ok (.iaload, 1) := by decide +kernel
theorem dL_law_393 : decode cL_law 393 = .ok (.aload_n 0, 1) := by decide +kernel
theorem dL_law_394 : decode cL_law 394 = .ok (.iload 5, 2) := by decide +kernel
theorem dL_law_396 : decode cL_law 396 = .ok (.iconst 2, 1) := by decide +kernel
theorem dL_law_397 : decode cL_law 397 = .ok (.iadd, 1) := by decide +kernel
theorem dL_law_398 : decode cL_law 398 = .ok (.iaload, 1) := by decide +kernel
theorem dL_law_399 : decode cL_law 399 = .ok (.aload_n 0, 1) := by decide +kernel
theorem dL_law_400 : decode cL_law 400 = .ok (.iload 5, 2) := by decide +kernel
theorem dL_law_402 : decode cL_law 402 = .ok (.iconst 3, 1) := by decide +kernel
theorem dL_law_403 : decode cL_law 403 = .ok (.iadd, 1) := by decide +kernel
theorem dL_law_404 : decode cL_law 404 = .ok (.iaload, 1) := by decide +kernel
theorem dL_law_405 : decode cL_law 405 = .ok (.aload_n 3, 1) := by decide +kernel
theorem dL_law_406 : decode cL_law 406 = .ok (.invokestatic 164, 3) := by decide +kernel
theorem dL_law_409 : decode cL_law 409 = .ok (.istore 6, 2) := by decide +kernel
theorem dL_law_411 : decode cL_law 411 = .ok (.aload_n 2, 1) := by decide +kernel
theorem dL_law_412 : decode cL_law 412 = .ok (.aload_n 0, 1) := by decide +kernel
theorem dL_law_413 : decode cL_law 413 = .ok (.iload 5, 2) := by decide +kernel
theorem dL_law_415 : decode cL_law 415 = .ok (.iconst 1, 1) := by decide +kernel
theorem dL_law_416 : decode cL_law 416 = .ok (.iadd, 1) := by decide +kernel
theorem dL_law_417 : decode cL_law 417 = .ok (.iaload, 1) := by decide +kernel
theorem dL_law_418 : decode cL_law 418 = .ok (.aload_n 0, 1) := by decide +kernel
theorem dL_law_419 : decode cL_law 419 = .ok (.iload 5, 2) := by decide +kernel
theorem dL_law_421 : decode cL_law 421 = .ok (.iconst 2, 1) := by decide +kernel
theorem dL_law_422 : decode cL_law 422 = .ok (.iadd, 1) := by decide +kernel
theorem dL_law_423 : decode cL_law 423 = .ok (.iaload, 1) := by decide +kernel
theorem dL_law_424 : decode cL_law 424 = .ok (.aload_n 0, 1) := by decide +kernel
theorem dL_law_425 : decode cL_law 425 = .ok (.iload 5, 2) := by decide +kernel
theorem dL_law_427 : decode cL_law 427 = .ok (.iconst 3, 1) := by decide +kernel
theorem dL_law_428 : decode cL_law 428 = .ok (.iadd, 1) := by decide +kernel
theorem dL_law_429 : decode cL_law 429 = .ok (.iaload, 1) := by decide +kernel
theorem dL_law_430 : decode cL_law 430 = .ok (.invokevirtual 167, 3) := by decide +kernel
theorem dL_law_433 : decode cL_law 433 = .ok (.istore 7, 2) := by decide +kernel
theorem dL_law_435 : decode cL_law 435 = .ok (.aload_n 2, 1) := by decide +kernel
theorem dL_law_436 : decode cL_law 436 = .ok (.invokevirtual 157, 3) := by decide +kernel
theorem dL_law_439 : decode cL_law 439 = .ok (.iload 6, 2) := by decide +kernel
theorem dL_law_441 : decode cL_law 441 = .ok (.if_icmp .eq 5, 3) := by decide +kernel
theorem dL_law_444 : decode cL_law 444 = .ok (.iconst 0, 1) := by decide +kernel
theorem dL_law_445 : decode cL_law 445 = .ok (.ireturn, 1) := by decide +kernel
theorem dL_law_446 : decode cL_law 446 = .ok (.iload 6, 2) := by decide +kernel
theorem dL_law_448 : decode cL_law 448 = .ok (.ifCond .ne 15, 3) := by decide +kernel
theorem dL_law_451 : decode cL_law 451 = .ok (.aload_n 3, 1) := by decide +kernel
theorem dL_law_452 : decode cL_law 452 = .ok (.iconst 0, 1) := by decide +kernel
theorem dL_law_453 : decode cL_law 453 = .ok (.laload, 1) := by decide +kernel
theorem dL_law_454 : decode cL_law 454 = .ok (.iload 7, 2) := by decide +kernel
theorem dL_law_456 : decode cL_law 456 = .ok (.i2l, 1) := by decide +kernel
theorem dL_law_457 : decode cL_law 457 = .ok (.lcmp, 1) := by decide +kernel
theorem dL_law_458 : decode cL_law 458 = .ok (.ifCond .eq 5, 3) := by decide +kernel
theorem dL_law_461 : decode cL_law 461 = .ok (.iconst 0, 1) := by decide +kernel
theorem dL_law_462 : decode cL_law 462 = .ok (.ireturn, 1) := by decide +kernel
theorem dL_law_463 : decode cL_law 463 = .ok (.goto 2157, 3) := by decide +kernel
theorem dL_law_466 : decode cL_law 466 = .ok (.aload_n 1, 1) := by decide +kernel
theorem dL_law_467 : decode cL_law 467 = .ok (.aload_n 0, 1) := by decide +kernel
theorem dL_law_468 : decode cL_law 468 = .ok (.iload 5, 2) := by decide +kernel
theorem dL_law_470 : decode cL_law 470 = .ok (.iconst 1, 1) := by decide +kernel
theorem dL_law_471 : decode cL_law 471 = .ok (.iadd, 1) := by decide +kernel
theorem dL_law_472 : decode cL_law 472 = .ok (.iaload, 1) := by decide +kernel
theorem dL_law_473 : decode cL_law 473 = .ok (.aload_n 0, 1) := by decide +kernel
theorem dL_law_474 : decode cL_law 474 = .ok (.iload 5, 2) := by decide +kernel
theorem dL_law_476 : decode cL_law 476 = .ok (.iconst 2, 1) := by decide +kernel
theorem dL_law_477 : decode cL_law 477 = .ok (.iadd, 1) := by decide +kernel
theorem dL_law_478 : decode cL_law 478 = .ok (.iaload, 1) := by decide +kernel
theorem dL_law_479 : decode cL_law 479 = .ok (.aload_n 3, 1) := by decide +kernel
theorem dL_law_480 : decode cL_law 480 = .ok (.invokestatic 168, 3) := by decide +kernel
theorem dL_law_483 : decode cL_law 483 = .ok (.istore 6, 2) := by decide +kernel
theorem dL_law_485 : decode cL_law 485 = .ok (.aload_n 2, 1) := by decide +kernel
theorem dL_law_486 : decode cL_law 486 = .ok (.aload_n 0, 1) := by decide +kernel
theorem dL_law_487 : decode cL_law 487 = .ok (.iload 5, 2) := by decide +kernel
theorem dL_law_489 : decode cL_law 489 = .ok (.iconst 1, 1) := by decide +kernel
theorem dL_law_490 : decode cL_law 490 = .ok (.iadd, 1) := by decide +kernel
theorem dL_law_491 : decode cL_law 491 = .ok (.iaload, 1) := by decide +kernel
theorem dL_law_492 : decode cL_law 492 = .ok (.aload_n 0, 1) := by decide +kernel
theorem dL_law_493 : decode cL_law 493 = .ok (.iload 5, 2) := by decide +kernel
theorem dL_law_495 : decode cL_law 495 = .ok (.iconst 2, 1) := by decide +kernel
theorem dL_law_496 : decode cL_law 496 = .ok (.iadd, 1) := by decide +kernel
theorem dL_law_497 : decode cL_law 497 = .ok (.iaload, 1) := by decide +kernel
theorem dL_law_498 : decode cL_law 498 = .ok (.invokevirtual 170, 3) := by decide +kernel
theorem dL_law_501 : decode cL_law 501 = .ok (.istore 7, 2) := by decide +kernel
theorem dL_law_503 : decode cL_law 503 = .ok (.aload_n 2, 1) := by decide +kernel
theorem dL_law_504 : decode cL_law 504 = .ok (.invokevirtual 157, 3) := by decide +kernel
theorem dL_law_507 : decode cL_law 507 = .ok (.iload 6, 2) := by decide +kernel
theorem dL_law_509 : decode cL_law 509 = .ok (.if_icmp .eq 5, 3) := by decide +kernel
theorem dL_law_512 : decode cL_law 512 = .ok (.iconst 0, 1) := by decide +kernel
theorem dL_law_513 : decode cL_law 513 = .ok (.ireturn, 1) := by decide +kernel
theorem dL_law_514 : decode cL_law 514 = .ok (.iload 6, 2) := by decide +kernel
theorem dL_law_516 : decode cL_law 516 = .ok (.ifCond .ne 15, 3) := by decide +kernel
theorem dL_law_519 : decode cL_law 519 = .ok (.aload_n 3, 1) := by decide +kernel
theorem dL_law_520 : decode cL_law 520 = .ok (.iconst 0, 1) := by decide +kernel
theorem dL_law_521 : decode cL_law 521 = .ok (.laload, 1) := by decide +kernel
theorem dL_law_522 : decode cL_law 522 = .ok (.iload 7, 2) := by decide +kernel
theorem dL_law_524 : decode cL_law 524 = .ok (.i2l, 1) := by decide +kernel
theorem dL_law_525 : decode cL_law 525 = .ok (.lcmp, 1) := by decide +kernel
theorem dL_law_526 : decode cL_law 526 = .ok (.ifCond .eq 5, 3) := by decide +kernel
theorem dL_law_529 : decode cL_law 529 = .ok (.iconst 0, 1) := by decide +kernel
theorem dL_law_530 : decode cL_law 530 = .ok (.ireturn, 1) := by decide +kernel
theorem dL_law_531 : decode cL_law 531 = .ok (.goto 2089, 3) := by decide +kernel
theorem dL_law_534 : decode cL_law 534 = .ok (.aload_n 1, 1) := by decide +kernel
theorem dL_law_535 : decode cL_law 535 = .ok (.aload_n 0, 1) := by decide +kernel
theorem dL_law_536 : decode cL_law 536 = .ok (.iload 5, 2) := by decide +kernel
theorem dL_law_538 : decode cL_law 538 = .ok (.iconst 1, 1) := by decide +kernel
theorem dL_law_539 : decode cL_law 539 = .ok (.iadd, 1) := by decide +kernel
theorem dL_law_540 : decode cL_law 540 = .ok (.iaload, 1) := by decide +kernel
theorem dL_law_541 : decode cL_law 541 = .ok (.aload_n 0, 1) := by decide +kernel
theorem dL_law_542 : decode cL_law 542 = .ok (.iload 5, 2) := by decide +kernel
theorem dL_law_544 : decode cL_law 544 = .ok (.iconst 2, 1) := by decide +kernel
theorem dL_law_545 : decode cL_law 545 = .ok (.iadd, 1) := by decide +kernel
theorem dL_law_546 : decode cL_law 546 = .ok (.iaload, 1) := by decide +kernel
theorem dL_law_547 : decode cL_law 547 = .ok (.aload_n 3, 1) := by decide +kernel
theorem dL_law_548 : decode cL_law 548 = .ok (.invokestatic 171, 3) := by decide +kernel
theorem dL_law_551 : decode cL_law 551 = .ok (.istore 6, 2) := by decide +kernel
theorem dL_law_553 : decode cL_law 553 = .ok (.aload_n 2, 1) := by decide +kernel
theorem dL_law_554 : decode cL_law 554 = .ok (.aload_n 0, 1) := by decide +kernel
theorem dL_law_555 : decode cL_law 555 = .ok (.iload 5, 2) := by decide +kernel
theorem dL_law_557 : decode cL_law 557 = .ok (.iconst 1, 1) := by decide +kernel
theorem dL_law_558 : decode cL_law 558 = .ok (.iadd, 1) := by decide +kernel
theorem dL_law_559 : decode cL_law 559 = .ok (.iaload, 1) := by decide +kernel
theorem dL_law_560 : decode cL_law 560 = .ok (.aload_n 0, 1) := by decide +kernel
theorem dL_law_561 : decode cL_law 561 = .ok (.iload 5, 2) := by decide +kernel
theorem dL_law_563 : decode cL_law 563 = .ok (.iconst 2, 1) := by decide +kernel
theorem dL_law_564 : decode cL_law 564 = .ok (.iadd, 1) := by decide +kernel
theorem dL_law_565 : decode cL_law 565 = .ok (.iaload, 1) := by decide +kernel
theorem dL_law_566 : decode cL_law 566 = .ok (.invokevirtual 173, 3) := by decide +kernel
theorem dL_law_569 : decode cL_law 569 = .ok (.istore 7, 2) := by decide +kernel
theorem dL_law_571 : decode cL_law 571 = .ok (.aload_n 2, 1) := by decide +kernel
theorem dL_law_572 : decode cL_law 572 = .ok (.invokevirtual 157, 3) := by decide +kernel
theorem dL_law_575 : decode cL_law 575 = .ok (.iload 6, 2) := by decide +kernel
theorem dL_law_577 : decode cL_law 577 = .ok (.if_icmp .eq 5, 3) := by decide +kernel
theorem dL_law_580 : decode cL_law 580 = .ok (.iconst 0, 1) := by decide +kernel
theorem dL_law_581 : decode cL_law 581 = .ok (.ireturn, 1) := by decide +kernel
theorem dL_law_582 : decode cL_law 582 = .ok (.iload 6, 2) := by decide +kernel
theorem dL_law_584 : decode cL_law 584 = .ok (.ifCond .ne 15, 3) := by decide +kernel
theorem dL_law_587 : decode cL_law 587 = .ok (.aload_n 3, 1) := by decide +kernel
theorem dL_law_588 : decode cL_law 588 = .ok (.iconst 0, 1) := by decide +kernel
theorem dL_law_589 : decode cL_law 589 = .ok (.laload, 1) := by decide +kernel
theorem dL_law_590 : decode cL_law 590 = .ok (.iload 7, 2) := by decide +kernel
theorem dL_law_592 : decode cL_law 592 = .ok (.i2l, 1) := by decide +kernel
theorem dL_law_593 : decode cL_law 593 = .ok (.lcmp, 1) := by decide +kernel
theorem dL_law_594 : decode cL_law 594 = .ok (.ifCond .eq 5, 3) := by decide +kernel
theorem dL_law_597 : decode cL_law 597 = .ok (.iconst 0, 1) := by decide +kernel
theorem dL_law_598 : decode cL_law 598 = .ok (.ireturn, 1) := by decide +kernel
theorem dL_law_599 : decode cL_law 599 = .ok (.goto 2021, 3) := by decide +kernel
theorem dL_law_602 : decode cL_law 602 = .ok (.aload_n 1, 1) := by decide +kernel
theorem dL_law_603 : decode cL_law 603 = .ok (.invokevirtual 174, 3) := by decide +kernel
theorem dL_law_606 : decode cL_law 606 = .ok (.aload_n 2, 1) := by decide +kernel
theorem dL_law_607 : decode cL_law 607 = .ok (.invokevirtual 177, 3) := by decide +kernel
theorem dL_law_610 : decode cL_law 610 = .ok (.if_icmp .eq 2010, 3) := by decide +kernel
theorem dL_law_613 : decode cL_law 613 = .ok (.iconst 0, 1) := by decide +kernel
theorem dL_law_614 : decode cL_law 614 = .ok (.ireturn, 1) := by decide +kernel
theorem dL_law_615 : decode cL_law 615 = .ok (.aload_n 1, 1) := by decide +kernel
theorem dL_law_616 : decode cL_law 616 = .ok (.invokevirtual 178, 3) := by decide +kernel
theorem dL_law_619 : decode cL_law 619 = .ok (.aload_n 2, 1) := by decide +kernel
theorem dL_law_620 : decode cL_law 620 = .ok (.invokevirtual 181, 3) := by decide +kernel
theorem dL_law_623 : decode cL_law 623 = .ok (.if_icmp .eq 1997, 3) := by decide +kernel
theorem dL_law_626 : decode cL_law 626 = .ok (.iconst 0, 1) := by decide +kernel
theorem dL_law_627 : decode cL_law 627 = .ok (.ireturn, 1) := by decide +kernel
theorem dL_law_628 : decode cL_law 628 = .ok (.aload_n 1, 1) := by decide +kernel
theorem dL_law_629 : decode cL_law 629 = .ok (.aload_n 0, 1) := by decide +kernel
theorem dL_law_630 : decode cL_law 630 = .ok (.iload 5, 2) := by decide +kernel
theorem dL_law_632 : decode cL_law 632 = .ok (.iconst 1, 1) := by decide +kernel
theorem dL_law_633 : decode cL_law 633 = .ok (.iadd, 1) := by decide +kernel
theorem dL_law_634 : decode cL_law 634 = .ok (.iaload, 1) := by decide +kernel
theorem dL_law_635 : decode cL_law 635 = .ok (.aload_n 3, 1) := by decide +kernel
theorem dL_law_636 : decode cL_law 636 = .ok (.invokestatic 182, 3) := by decide +kernel
theorem dL_law_639 : decode cL_law 639 = .ok (.istore 6, 2) := by decide +kernel
theorem dL_law_641 : decode cL_law 641 = .ok (.aload_n 2, 1) := by decide +kernel
theorem dL_law_642 : decode cL_law 642 = .ok (.aload_n 0, 1) := by decide +kernel
theorem dL_law_643 : decode cL_law 643 = .ok (.iload 5, 2) := by decide +kernel
theorem dL_law_645 : decode cL_law 645 = .ok (.iconst 1, 1) := by decide +kernel
theorem dL_law_646 : decode cL_law 646 = .ok (.iadd, 1) := by decide +kernel
theorem dL_law_647 : decode cL_law 647 = .ok (.iaload, 1) := by decide +kernel
theorem dL_law_648 : decode cL_law 648 = .ok (.invokevirtual 185, 3) := by decide +kernel
theorem dL_law_651 : decode cL_law 651 = .ok (.istore 7, 2) := by decide +kernel
theorem dL_law_653 : decode cL_law 653 = .ok (.aload_n 2, 1) := by decide +kernel
theorem dL_law_654 : decode cL_law 654 = .ok (.invokevirtual 157, 3) := by decide +kernel
theorem dL_law_657 : decode cL_law 657 = .ok (.iload 6, 2) := by decide +kernel
theorem dL_law_659 : decode cL_law 659 = .ok (.if_icmp .eq 5, 3) := by decide +kernel
theorem dL_law_662 : decode cL_law 662 = .ok (.iconst 0, 1) := by decide +kernel
theorem dL_law_663 : decode cL_law 663 = .ok (.ireturn, 1) := by decide +kernel
theorem dL_law_664 : decode cL_law 664 = .ok (.iload 6, 2) := by decide +kernel
theorem dL_law_666 : decode cL_law 666 = .ok (.ifCond .ne 15, 3) := by decide +kernel
theorem dL_law_669 : decode cL_law 669 = .ok (.aload_n 3, 1) := by decide +kernel
theorem dL_law_670 : decode cL_law 670 = .ok (.iconst 0, 1) := by decide +kernel
theorem dL_law_671 : decode cL_law 671 = .ok (.laload, 1) := by decide +kernel
theorem dL_law_672 : decode cL_law 672 = .ok (.iload 7, 2) := by decide +kernel
theorem dL_law_674 : decode cL_law 674 = .ok (.i2l, 1) := by decide +kernel
theorem dL_law_675 : decode cL_law 675 = .ok (.lcmp, 1) := by decide +kernel
theorem dL_law_676 : decode cL_law 676 = .ok (.ifCond .eq 5, 3) := by decide +kernel
theorem dL_law_679 : decode cL_law 679 = .ok (.iconst 0, 1) := by decide +kernel
theorem dL_law_680 : decode cL_law 680 = .ok (.ireturn, 1) := by decide +kernel
theorem dL_law_681 : decode cL_law 681 = .ok (.goto 1939, 3) := by decide +kernel
theorem dL_law_684 : decode cL_law 684 = .ok (.aload_n 1, 1) := by decide +kernel
theorem dL_law_685 : decode cL_law 685 = .ok (.aload_n 3, 1) := by decide +kernel
theorem dL_law_686 : decode cL_law 686 = .ok (.invokestatic 186, 3) := by decide +kernel
theorem dL_law_689 : decode cL_law 689 = .ok (.istore 6, 2) := by decide +kernel
theorem dL_law_691 : decode cL_law 691 = .ok (.aload_n 2, 1) := by decide +kernel
theorem dL_law_692 : decode cL_law 692 = .ok (.invokevirtual 189, 3) := by decide +kernel
theorem dL_law_695 : decode cL_law 695 = .ok (.istore 7, 2) := by decide +kernel
theorem dL_law_697 : decode cL_law 697 = .ok (.aload_n 2, 1) := by decide +kernel
theorem dL_law_698 : decode cL_law 698 = .ok (.invokevirtual 157, 3) := by decide +kernel
theorem dL_law_701 : decode cL_law 701 = .ok (.iload 6, 2) := by decide +kernel
theorem dL_law_703 : decode cL_law 703 = .ok (.if_icmp .eq 5, 3) := by decide +kernel
theorem dL_law_706 : decode cL_law 706 = .ok (.iconst 0, 1) := by decide +kernel
theorem dL_law_707 : decode cL_law 707 = .ok (.ireturn, 1) := by decide +kernel
theorem dL_law_708 : decode cL_law 708 = .ok (.iload 6, 2) := by decide +kernel
theorem dL_law_710 : decode cL_law 710 = .ok (.ifCond .ne 15, 3) := by decide +kernel
theorem dL_law_713 : decode cL_law 713 = .ok (.aload_n 3, 1) := by decide +kernel
theorem dL_law_714 : decode cL_law 714 = .ok (.iconst 0, 1) := by decide +kernel
theorem dL_law_715 : decode cL_law 715 = .ok (.laload, 1) := by decide +kernel
theorem dL_law_716 : decode cL_law 716 = .ok (.iload 7, 2) := by decide +kernel
theorem dL_law_718 : decode cL_law 718 = .ok (.i2l, 1) := by decide +kernel
theorem dL_law_719 : decode cL_law 719 = .ok (.lcmp, 1) := by decide +kernel
theorem dL_law_720 : decode cL_law 720 = .ok (.ifCond .eq 5, 3) := by decide +kernel
theorem dL_law_723 : decode cL_law 723 = .ok (.iconst 0, 1) := by decide +kernel
theorem dL_law_724 : decode cL_law 724 = .ok (.ireturn, 1) := by decide +kernel
theorem dL_law_725 : decode cL_law 725 = .ok (.goto 1895, 3) := by decide +kernel
theorem dL_law_728 : decode cL_law 728 = .ok (.aload_n 1, 1) := by decide +kernel
theorem dL_law_729 : decode cL_law 729 = .ok (.aload_n 3, 1) := by decide +kernel
theorem dL_law_730 : decode cL_law 730 = .ok (.invokestatic 190, 3) := by decide +kernel
theorem dL_law_733 : decode cL_law 733 = .ok (.istore 6, 2) := by decide +kernel
theorem dL_law_735 : decode cL_law 735 = .ok (.aload_n 2, 1) := by decide +kernel
theorem dL_law_736 : decode cL_law 736 = .ok (.invokevirtual 192, 3) := by decide +kernel
theorem dL_law_739 : decode cL_law 739 = .ok (.istore 7, 2) := by decide +kernel
theorem dL_law_741 : decode cL_law 741 = .ok (.aload_n 2, 1) := by decide +kernel
theorem dL_law_742 : decode cL_law 742 = .ok (.invokevirtual 157, 3) := by decide +kernel
theorem dL_law_745 : decode cL_law 745 = .ok (.iload 6, 2) := by decide +kernel
theorem dL_law_747 : decode cL_law 747 = .ok (.if_icmp .eq 5, 3) := by decide +kernel
theorem dL_law_750 : decode cL_law 750 = .ok (.iconst 0, 1) := by decide +kernel
theorem dL_law_751 : decode cL_law 751 = .ok (.ireturn, 1) := by decide +kernel
theorem dL_law_752 : decode cL_law 752 = .ok (.iload 6, 2) := by decide +kernel
theorem dL_law_754 : decode cL_law 754 = .ok (.ifCond .ne 15, 3) := by decide +kernel
theorem dL_law_757 : decode cL_law 757 = .ok (.aload_n 3, 1) := by decide +kernel
theorem dL_law_758 : decode cL_law 758 = .ok (.iconst 0, 1) := by decide +kernel
theorem dL_law_759 : decode cL_law 759 = .ok (.laload, 1) := by decide +kernel
theorem dL_law_760 : decode cL_law 760 = .ok (.iload 7, 2) := by decide +kernel
theorem dL_law_762 : decode cL_law 762 = .ok (.i2l, 1) := by decide +kernel
theorem dL_law_763 : decode cL_law 763 = .ok (.lcmp, 1) := by decide +kernel
theorem dL_law_764 : decode cL_law 764 = .ok (.ifCond .eq 5, 3) := by decide +kernel
theorem dL_law_767 : decode cL_law 767 = .ok (.iconst 0, 1) := by decide +kernel
theorem dL_law_768 : decode cL_law 768 = .ok (.ireturn, 1) := by decide +kernel
theorem dL_law_769 : decode cL_law 769 = .ok (.goto 1851, 3) := by decide +kernel
theorem dL_law_772 : decode cL_law 772 = .ok (.aload_n 1, 1) := by decide +kernel
theorem dL_law_773 : decode cL_law 773 = .ok (.aload_n 0, 1) := by decide +kernel
theorem dL_law_774 : decode cL_law 774 = .ok (.iload 5, 2) := by decide +kernel
theorem dL_law_776 : decode cL_law 776 = .ok (.iconst 1, 1) := by decide +kernel
theorem dL_law_777 : decode cL_law 777 = .ok (.iadd, 1) := by decide +kernel
theorem dL_law_778 : decode cL_law 778 = .ok (.iaload, 1) := by decide +kernel
theorem dL_law_779 : decode cL_law 779 = .ok (.aload_n 0, 1) := by decide +kernel
theorem dL_law_780 : decode cL_law 780 = .ok (.iload 5, 2) := by decide +kernel
theorem dL_law_782 : decode cL_law 782 = .ok (.iconst 2, 1) := by decide +kernel
theorem dL_law_783 : decode cL_law 783 = .ok (.iadd, 1) := by decide +kernel
theorem dL_law_784 : decode cL_law 784 = .ok (.iaload, 1) := by decide +kernel
theorem dL_law_785 : decode cL_law 785 = .ok (.aload_n 3, 1) := by decide +kernel
theorem dL_law_786 : decode cL_law 786 = .ok (.invokestatic 193, 3) := by decide +kernel
theorem dL_law_789 : decode cL_law 789 = .ok (.istore 6, 2) := by decide +kernel
theorem dL_law_791 : decode cL_law 791 = .ok (.aload_n 2, 1) := by decide +kernel
theorem dL_law_792 : decode cL_law 792 = .ok (.aload_n 0, 1) := by decide +kernel
theorem dL_law_793 : decode cL_law 793 = .ok (.iload 5, 2) := by decide +kernel
theorem dL_law_795 : decode cL_law 795 = .ok (.iconst 1, 1) := by decide +kernel
theorem dL_law_796 : decode cL_law 796 = .ok (.iadd, 1) := by decide +kernel
theorem dL_law_797 : decode cL_law 797 = .ok (.iaload, 1) := by decide +kernel
theorem dL_law_798 : decode cL_law 798 = .ok (.aload_n 0, 1) := by decide +kernel
theorem dL_law_799 : decode cL_law 799 = .ok (.iload 5, 2) := by decide +kernel
theorem dL_law_801 : decode cL_law 801 = .ok (.iconst 2, 1) := by decide +kernel
theorem dL_law_802 : decode cL_law 802 = .ok (.iadd, 1) := by decide +kernel
theorem dL_law_803 : decode cL_law 803 = .ok (.iaload, 1) := by decide +kernel
theorem dL_law_804 : decode cL_law 804 = .ok (.invokevirtual 195, 3) := by decide +kernel
theorem dL_law_807 : decode cL_law 807 = .ok (.istore 7, 2) := by decide +kernel
theorem dL_law_809 : decode cL_law 809 = .ok (.aload_n 2, 1) := by decide +kernel
theorem dL_law_810 : decode cL_law 810 = .ok (.invokevirtual 157, 3) := by decide +kernel
theorem dL_law_813 : decode cL_law 813 = .ok (.iload 6, 2) := by decide +kernel
theorem dL_law_815 : decode cL_law 815 = .ok (.if_icmp .eq 5, 3) := by decide +kernel
theorem dL_law_818 : decode cL_law 818 = .ok (.iconst 0, 1) := by decide +kernel
theorem dL_law_819 : decode cL_law 819 = .ok (.ireturn, 1) := by decide +kernel
theorem dL_law_820 : decode cL_law 820 = .ok (.iload 6, 2) := by decide +kernel
theorem dL_law_822 : decode cL_law 822 = .ok (.ifCond .ne 15, 3) := by decide +kernel
theorem dL_law_825 : decode cL_law 825 = .ok (.aload_n 3, 1) := by decide +kernel
theorem dL_law_826 : decode cL_law 826 = .ok (.iconst 0, 1) := by decide +kernel
theorem dL_law_827 : decode cL_law 827 = .ok (.laload, 1) := by decide +kernel
theorem dL_law_828 : decode cL_law 828 = .ok (.iload 7, 2) := by decide +kernel
theorem dL_law_830 : decode cL_law 830 = .ok (.i2l, 1) := by decide +kernel
theorem dL_law_831 : decode cL_law 831 = .ok (.lcmp, 1) := by decide +kernel
theorem dL_law_832 : decode cL_law 832 = .ok (.ifCond .eq 5, 3) := by decide +kernel
theorem dL_law_835 : decode cL_law 835 = .ok (.iconst 0, 1) := by decide +kernel
theorem dL_law_836 : decode cL_law 836 = .ok (.ireturn, 1) := by decide +kernel
theorem dL_law_837 : decode cL_law 837 = .ok (.goto 1783, 3) := by decide +kernel
theorem dL_law_840 : decode cL_law 840 = .ok (.aload_n 1, 1) := by decide +kernel
theorem dL_law_841 : decode cL_law 841 = .ok (.aload_n 0, 1) := by decide +kernel
theorem dL_law_842 : decode cL_law 842 = .ok (.iload 5, 2) := by decide +kernel
theorem dL_law_844 : decode cL_law 844 = .ok (.iconst 1, 1) := by decide +kernel
theorem dL_law_845 : decode cL_law 845 = .ok (.iadd, 1) := by decide +kernel
theorem dL_law_846 : decode cL_law 846 = .ok (.iaload, 1) := by decide +kernel
theorem dL_law_847 : decode cL_law 847 = .ok (.aload_n 3, 1) := by decide +kernel
theorem dL_law_848 : decode cL_law 848 = .ok (.invokestatic 196, 3) := by decide +kernel
theorem dL_law_851 : decode cL_law 851 = .ok (.istore 6, 2) := by decide +kernel
theorem dL_law_853 : decode cL_law 853 = .ok (.aload_n 2, 1) := by decide +kernel
theorem dL_law_854 : decode cL_law 854 = .ok (.aload_n 0, 1) := by decide +kernel
theorem dL_law_855 : decode cL_law 855 = .ok (.iload 5, 2) := by decide +kernel
theorem dL_law_857 : decode cL_law 857 = .ok (.iconst 1, 1) := by decide +kernel
theorem dL_law_858 : decode cL_law 858 = .ok (.iadd, 1) := by decide +kernel
theorem dL_law_859 : decode cL_law 859 = .ok (.iaload, 1) := by decide +kernel
theorem dL_law_860 : decode cL_law 860 = .ok (.invokevirtual 198, 3) := by decide +kernel
theorem dL_law_863 : decode cL_law 863 = .ok (.istore 7, 2) := by decide +kernel
theorem dL_law_865 : decode cL_law 865 = .ok (.aload_n 2, 1) := by decide +kernel
theorem dL_law_866 : decode cL_law 866 = .ok (.invokevirtual 157, 3) := by decide +kernel
theorem dL_law_869 : decode cL_law 869 = .ok (.iload 6, 2) := by decide +kernel
theorem dL_law_871 : decode cL_law 871 = .ok (.if_icmp .eq 5, 3) := by decide +kernel
theorem dL_law_874 : decode cL_law 874 = .ok (.iconst 0, 1) := by decide +kernel
theorem dL_law_875 : decode cL_law 875 = .ok (.ireturn, 1) := by decide +kernel
theorem dL_law_876 : decode cL_law 876 = .ok (.iload 6, 2) := by decide +kernel
theorem dL_law_878 : decode cL_law 878 = .ok (.ifCond .ne 15, 3) := by decide +kernel
theorem dL_law_881 : decode cL_law 881 = .ok (.aload_n 3, 1) := by decide +kernel
theorem dL_law_882 : decode cL_law 882 = .ok (.iconst 0, 1) := by decide +kernel
theorem dL_law_883 : decode cL_law 883 = .ok (.laload, 1) := by decide +kernel
theorem dL_law_884 : decode cL_law 884 = .ok (.iload 7, 2) := by decide +kernel
theorem dL_law_886 : decode cL_law 886 = .ok (.i2l, 1) := by decide +kernel
theorem dL_law_887 : decode cL_law 887 = .ok (.lcmp, 1) := by decide +kernel
theorem dL_law_888 : decode cL_law 888 = .ok (.ifCond .eq 5, 3) := by decide +kernel
theorem dL_law_891 : decode cL_law 891 = .ok (.iconst 0, 1) := by decide +kernel
theorem dL_law_892 : decode cL_law 892 = .ok (.ireturn, 1) := by decide +kernel
theorem dL_law_893 : decode cL_law 893 = .ok (.goto 1727, 3) := by decide +kernel
theorem dL_law_896 : decode cL_law 896 = .ok (.aload_n 1, 1) := by decide +kernel
theorem dL_law_897 : decode cL_law 897 = .ok (.aload_n 0, 1) := by decide +kernel
theorem dL_law_898 : decode cL_law 898 = .ok (.iload 5, 2) := by decide +kernel
theorem dL_law_900 : decode cL_law 900 = .ok (.iconst 1, 1) := by decide +kernel
theorem dL_law_901 : decode cL_law 901 = .ok (.iadd, 1) := by decide +kernel
theorem dL_law_902 : decode cL_law 902 = .ok (.iaload, 1) := by decide +kernel
theorem dL_law_903 : decode cL_law 903 = .ok (.aload_n 3, 1) := by decide +kernel
theorem dL_law_904 : decode cL_law 904 = .ok (.invokestatic 199, 3) := by decide +kernel
theorem dL_law_907 : decode cL_law 907 = .ok (.istore 6, 2) := by decide +kernel
theorem dL_law_909 : decode cL_law 909 = .ok (.aload_n 2, 1) := by decide +kernel
theorem dL_law_910 : decode cL_law 910 = .ok (.aload_n 0, 1) := by decide +kernel
theorem dL_law_911 : decode cL_law 911 = .ok (.iload 5, 2) := by decide +kernel
theorem dL_law_913 : decode cL_law 913 = .ok (.iconst 1, 1) := by decide +kernel
theorem dL_law_914 : decode cL_law 914 = .ok (.iadd, 1) := by decide +kernel
theorem dL_law_915 : decode cL_law 915 = .ok (.iaload, 1) := by decide +kernel
theorem dL_law_916 : decode cL_law 916 = .ok (.invokevirtual 201, 3) := by decide +kernel
theorem dL_law_919 : decode cL_law 919 = .ok (.istore 7, 2) := by decide +kernel
theorem dL_law_921 : decode cL_law 921 = .ok (.aload_n 2, 1) := by decide +kernel
theorem dL_law_922 : decode cL_law 922 = .ok (.invokevirtual 157, 3) := by decide +kernel
theorem dL_law_925 : decode cL_law 925 = .ok (.iload 6, 2) := by decide +kernel
theorem dL_law_927 : decode cL_law 927 = .ok (.if_icmp .eq 5, 3) := by decide +kernel
theorem dL_law_930 : decode cL_law 930 = .ok (.iconst 0, 1) := by decide +kernel
theorem dL_law_931 : decode cL_law 931 = .ok (.ireturn, 1) := by decide +kernel
theorem dL_law_932 : decode cL_law 932 = .ok (.iload 6, 2) := by decide +kernel
theorem dL_law_934 : decode cL_law 934 = .ok (.ifCond .ne 15, 3) := by decide +kernel
theorem dL_law_937 : decode cL_law 937 = .ok (.aload_n 3, 1) := by decide +kernel
theorem dL_law_938 : decode cL_law 938 = .ok (.iconst 0, 1) := by decide +kernel
theorem dL_law_939 : decode cL_law 939 = .ok (.laload, 1) := by decide +kernel
theorem dL_law_940 : decode cL_law 940 = .ok (.iload 7, 2) := by decide +kernel
theorem dL_law_942 : decode cL_law 942 = .ok (.i2l, 1) := by decide +kernel
theorem dL_law_943 : decode cL_law 943 = .ok (.lcmp, 1) := by decide +kernel
theorem dL_law_944 : decode cL_law 944 = .ok (.ifCond .eq 5, 3) := by decide +kernel
theorem dL_law_947 : decode cL_law 947 = .ok (.iconst 0, 1) := by decide +kernel
theorem dL_law_948 : decode cL_law 948 = .ok (.ireturn, 1) := by decide +kernel
theorem dL_law_949 : decode cL_law 949 = .ok (.goto 1671, 3) := by decide +kernel
theorem dL_law_952 : decode cL_law 952 = .ok (.aload_n 1, 1) := by decide +kernel
theorem dL_law_953 : decode cL_law 953 = .ok (.aload_n 0, 1) := by decide +kernel
theorem dL_law_954 : decode cL_law 954 = .ok (.iload 5, 2) := by decide +kernel
theorem dL_law_956 : decode cL_law 956 = .ok (.iconst 1, 1) := by decide +kernel
theorem dL_law_957 : decode cL_law 957 = .ok (.iadd, 1) := by decide +kernel
theorem dL_law_958 : decode cL_law 958 = .ok (.iaload, 1) := by decide +kernel
theorem dL_law_959 : decode cL_law 959 = .ok (.aload_n 3, 1) := by decide +kernel
theorem dL_law_960 : decode cL_law 960 = .ok (.invokestatic 202, 3) := by decide +kernel
theorem dL_law_963 : decode cL_law 963 = .ok (.istore 6, 2) := by decide +kernel
theorem dL_law_965 : decode cL_law 965 = .ok (.aload_n 2, 1) := by decide +kernel
theorem dL_law_966 : decode cL_law 966 = .ok (.aload_n 0, 1) := by decide +kernel
theorem dL_law_967 : decode cL_law 967 = .ok (.iload 5, 2) := by decide +kernel
theorem dL_law_969 : decode cL_law 969 = .ok (.iconst 1, 1) := by decide +kernel
theorem dL_law_970 : decode cL_law 970 = .ok (.iadd, 1) := by decide +kernel
theorem dL_law_971 : decode cL_law 971 = .ok (.iaload, 1) := by decide +kernel
theorem dL_law_972 : decode cL_law 972 = .ok (.invokevirtual 204, 3) := by decide +kernel
theorem dL_law_975 : decode cL_law 975 = .ok (.istore 7, 2) := by decide +kernel
theorem dL_law_977 : decode cL_law 977 = .ok (.aload_n 2, 1) := by decide +kernel
theorem dL_law_978 : decode cL_law 978 = .ok (.invokevirtual 157, 3) := by decide +kernel
theorem dL_law_981 : decode cL_law 981 = .ok (.iload 6, 2) := by decide +kernel
theorem dL_law_983 : decode cL_law 983 = .ok (.if_icmp .eq 5, 3) := by decide +kernel
theorem dL_law_986 : decode cL_law 986 = .ok (.iconst 0, 1) := by decide +kernel
theorem dL_law_987 : decode cL_law 987 = .ok (.ireturn, 1) := by decide +kernel
theorem dL_law_988 : decode cL_law 988 = .ok (.iload 6, 2) := by decide +kernel
theorem dL_law_990 : decode cL_law 990 = .ok (.ifCond .ne 15, 3) := by decide +kernel
theorem dL_law_993 : decode cL_law 993 = .ok (.aload_n 3, 1) := by decide +kernel
theorem dL_law_994 : decode cL_law 994 = .ok (.iconst 0, 1) := by decide +kernel
theorem dL_law_995 : decode cL_law 995 = .ok (.laload, 1) := by decide +kernel
theorem dL_law_996 : decode cL_law 996 = .ok (.iload 7, 2) := by decide +kernel
theorem dL_law_998 : decode cL_law 998 = .ok (.i2l, 1) := by decide +kernel
theorem dL_law_999 : decode cL_law 999 = .ok (.lcmp, 1) := by decide +kernel
theorem dL_law_1000 : decode cL_law 1000 = .ok (.ifCond .eq 5, 3) := by decide +kernel
theorem dL_law_1003 : decode cL_law 1003 = .ok (.iconst 0, 1) := by decide +kernel
theorem dL_law_1004 : decode cL_law 1004 = .ok (.ireturn, 1) := by decide +kernel
theorem dL_law_1005 : decode cL_law 1005 = .ok (.goto 1615, 3) := by decide +kernel
theorem dL_law_1008 : decode cL_law 1008 = .ok (.aload_n 1, 1) := by decide +kernel
theorem dL_law_1009 : decode cL_law 1009 = .ok (.invokevirtual 205, 3) := by decide +kernel
theorem dL_law_1012 : decode cL_law 1012 = .ok (.aload_n 2, 1) := by decide +kernel
theorem dL_law_1013 : decode cL_law 1013 = .ok (.invokevirtual 208, 3) := by decide +kernel
theorem dL_law_1016 : decode cL_law 1016 = .ok (.if_icmp .eq 1604, 3) := by decide +kernel
theorem dL_law_1019 : decode cL_law 1019 = .ok (.iconst 0, 1) := by decide +kernel
theorem dL_law_1020 : decode cL_law 1020 = .ok (.ireturn, 1) := by decide +kernel
theorem dL_law_1021 : decode cL_law 1021 = .ok (.aload_n 1, 1) := by decide +kernel
theorem dL_law_1022 : decode cL_law 1022 = .ok (.invokevirtual 209, 3) := by decide +kernel
theorem dL_law_1025 : decode cL_law 1025 = .ok (.aload_n 2, 1) := by decide +kernel
theorem dL_law_1026 : decode cL_law 1026 = .ok (.invokevirtual 212, 3) := by decide +kernel
theorem dL_law_1029 : decode cL_law 1029 = .ok (.if_icmp .eq 1591, 3) := by decide +kernel
theorem dL_law_1032 : decode cL_law 1032 = .ok (.iconst 0, 1) := by decide +kernel
theorem dL_law_1033 : decode cL_law 1033 = .ok (.ireturn, 1) := by decide +kernel
theorem dL_law_1034 : decode cL_law 1034 = .ok (.aload_n 1, 1) := by decide +kernel
theorem dL_law_1035 : decode cL_law 1035 = .ok (.aload_n 0, 1) := by decide +kernel
theorem dL_law_1036 : decode cL_law 1036 = .ok (.iload 5, 2) := by decide +kernel
theorem dL_law_1038 : decode cL_law 1038 = .ok (.iconst 1, 1) := by decide +kernel
theorem dL_law_1039 : decode cL_law 1039 = .ok (.iadd, 1) := by decide +kernel
theorem dL_law_1040 : decode cL_law 1040 = .ok (.iaload, 1) := by decide +kernel
theorem dL_law_1041 : decode cL_law 1041 = .ok (.aload_n 3, 1) := by decide +kernel
theorem dL_law_1042 : decode cL_law 1042 = .ok (.invokestatic 213, 3) := by decide +kernel
theorem dL_law_1045 : decode cL_law 1045 = .ok (.istore 6, 2) := by decide +kernel
theorem dL_law_1047 : decode cL_law 1047 = .ok (.aload_n 2, 1) := by decide +kernel
theorem dL_law_1048 : decode cL_law 1048 = .ok (.aload_n 0, 1) := by decide +kernel
theorem dL_law_1049 : decode cL_law 1049 = .ok (.iload 5, 2) := by decide +kernel
theorem dL_law_1051 : decode cL_law 1051 = .ok (.iconst 1, 1) := by decide +kernel
theorem dL_law_1052 : decode cL_law 1052 = .ok (.iadd, 1) := by decide +kernel
theorem dL_law_1053 : decode cL_law 1053 = .ok (.iaload, 1) := by decide +kernel
theorem dL_law_1054 : decode cL_law 1054 = .ok (.invokevirtual 215, 3) := by decide +kernel
theorem dL_law_1057 : decode cL_law 1057 = .ok (.istore 7, 2) := by decide +kernel
theorem dL_law_1059 : decode cL_law 1059 = .ok (.aload_n 2, 1) := by decide +kernel
theorem dL_law_1060 : decode cL_law 1060 = .ok (.invokevirtual 157, 3) := by decide +kernel
theorem dL_law_1063 : decode cL_law 1063 = .ok (.iload 6, 2) := by decide +kernel
theorem dL_law_1065 : decode cL_law 1065 = .ok (.if_icmp .eq 5, 3) := by decide +kernel
theorem dL_law_1068 : decode cL_law 1068 = .ok (.iconst 0, 1) := by decide +kernel
theorem dL_law_1069 : decode cL_law 1069 = .ok (.ireturn, 1) := by decide +kernel
theorem dL_law_1070 : decode cL_law 1070 = .ok (.iload 6, 2) := by decide +kernel
theorem dL_law_1072 : decode cL_law 1072 = .ok (.ifCond .ne 15, 3) := by decide +kernel
theorem dL_law_1075 : decode cL_law 1075 = .ok (.aload_n 3, 1) := by decide +kernel
theorem dL_law_1076 : decode cL_law 1076 = .ok (.iconst 0, 1) := by decide +kernel
theorem dL_law_1077 : decode cL_law 1077 = .ok (.laload, 1) := by decide +kernel
theorem dL_law_1078 : decode cL_law 1078 = .ok (.iload 7, 2) := by decide +kernel
theorem dL_law_1080 : decode cL_law 1080 = .ok (.i2l, 1) := by decide +kernel
theorem dL_law_1081 : decode cL_law 1081 = .ok (.lcmp, 1) := by decide +kernel
theorem dL_law_1082 : decode cL_law 1082 = .ok (.ifCond .eq 5, 3) := by decide +kernel
theorem dL_law_1085 : decode cL_law 1085 = .ok (.iconst 0, 1) := by decide +kernel
theorem dL_law_1086 : decode cL_law 1086 = .ok (.ireturn, 1) := by decide +kernel
theorem dL_law_1087 : decode cL_law 1087 = .ok (.goto 1533, 3) := by decide +kernel
theorem dL_law_1090 : decode cL_law 1090 = .ok (.aload_n 1, 1) := by decide +kernel
theorem dL_law_1091 : decode cL_law 1091 = .ok (.aload_n 0, 1) := by decide +kernel
theorem dL_law_1092 : decode cL_law 1092 = .ok (.iload 5, 2) := by decide +kernel
theorem dL_law_1094 : decode cL_law 1094 = .ok (.iconst 1, 1) := by decide +kernel
theorem dL_law_1095 : decode cL_law 1095 = .ok (.iadd, 1) := by decide +kernel
theorem dL_law_1096 : decode cL_law 1096 = .ok (.iaload, 1) := by decide +kernel
theorem dL_law_1097 : decode cL_law 1097 = .ok (.aload_n 3, 1) := by decide +kernel
theorem dL_law_1098 : decode cL_law 1098 = .ok (.invokestatic 216, 3) := by decide +kernel
theorem dL_law_1101 : decode cL_law 1101 = .ok (.istore 6, 2) := by decide +kernel
theorem dL_law_1103 : decode cL_law 1103 = .ok (.aload_n 2, 1) := by decide +kernel
theorem dL_law_1104 : decode cL_law 1104 = .ok (.aload_n 0, 1) := by decide +kernel
theorem dL_law_1105 : decode cL_law 1105 = .ok (.iload 5, 2) := by decide +kernel
theorem dL_law_1107 : decode cL_law 1107 = .ok (.iconst 1, 1) := by decide +kernel
theorem dL_law_1108 : decode cL_law 1108 = .ok (.iadd, 1) := by decide +kernel
theorem dL_law_1109 : decode cL_law 1109 = .ok (.iaload, 1) := by decide +kernel
theorem dL_law_1110 : decode cL_law 1110 = .ok (.invokevirtual 218, 3) := by decide +kernel
theorem dL_law_1113 : decode cL_law 1113 = .ok (.lstore 7, 2) := by decide +kernel
theorem dL_law_1115 : decode cL_law 1115 = .ok (.aload_n 2, 1) := by decide +kernel
theorem dL_law_1116 : decode cL_law 1116 = .ok (.invokevirtual 157, 3) := by decide +kernel
theorem dL_law_1119 : decode cL_law 1119 = .ok (.iload 6, 2) := by decide +kernel
theorem dL_law_1121 : decode cL_law 1121 = .ok (.if_icmp .eq 5, 3) := by decide +kernel
theorem dL_law_1124 : decode cL_law 1124 = .ok (.iconst 0, 1) := by decide +kernel
theorem dL_law_1125 : decode cL_law 1125 = .ok (.ireturn, 1) := by decide +kernel
theorem dL_law_1126 : decode cL_law 1126 = .ok (.iload 6, 2) := by decide +kernel
theorem dL_law_1128 : decode cL_law 1128 = .ok (.ifCond .ne 14, 3) := by decide +kernel
theorem dL_law_1131 : decode cL_law 1131 = .ok (.aload_n 3, 1) := by decide +kernel
theorem dL_law_1132 : decode cL_law 1132 = .ok (.iconst 0, 1) := by decide +kernel
theorem dL_law_1133 : decode cL_law 1133 = .ok (.laload, 1) := by decide +kernel
theorem dL_law_1134 : decode cL_law 1134 = .ok (.lload 7, 2) := by decide +kernel
theorem dL_law_1136 : decode cL_law 1136 = .ok (.lcmp, 1) := by decide +kernel
theorem dL_law_1137 : decode cL_law 1137 = .ok (.ifCond .eq 5, 3) := by decide +kernel
theorem dL_law_1140 : decode cL_law 1140 = .ok (.iconst 0, 1) := by decide +kernel
theorem dL_law_1141 : decode cL_law 1141 = .ok (.ireturn, 1) := by decide +kernel
theorem dL_law_1142 : decode cL_law 1142 = .ok (.goto 1478, 3) := by decide +kernel
theorem dL_law_1145 : decode cL_law 1145 = .ok (.aload_n 1, 1) := by decide +kernel
theorem dL_law_1146 : decode cL_law 1146 = .ok (.aload_n 0, 1) := by decide +kernel
theorem dL_law_1147 : decode cL_law 1147 = .ok (.iload 5, 2) := by decide +kernel
theorem dL_law_1149 : decode cL_law 1149 = .ok (.iconst 1, 1) := by decide +kernel
theorem dL_law_1150 : decode cL_law 1150 = .ok (.iadd, 1) := by decide +kernel
theorem dL_law_1151 : decode cL_law 1151 = .ok (.iaload, 1) := by decide +kernel
theorem dL_law_1152 : decode cL_law 1152 = .ok (.aload_n 3, 1) := by decide +kernel
theorem dL_law_1153 : decode cL_law 1153 = .ok (.invokestatic 219, 3) := by decide +kernel
theorem dL_law_1156 : decode cL_law 1156 = .ok (.istore 6, 2) := by decide +kernel
theorem dL_law_1158 : decode cL_law 1158 = .ok (.aload_n 2, 1) := by decide +kernel
theorem dL_law_1159 : decode cL_law 1159 = .ok (.aload_n 0, 1) := by decide +kernel
theorem dL_law_1160 : decode cL_law 1160 = .ok (.iload 5, 2) := by decide +kernel
theorem dL_law_1162 : decode cL_law 1162 = .ok (.iconst 1, 1) := by decide +kernel
theorem dL_law_1163 : decode cL_law 1163 = .ok (.iadd, 1) := by decide +kernel
theorem dL_law_1164 : decode cL_law 1164 = .ok (.iaload, 1) := by decide +kernel
theorem dL_law_1165 : decode cL_law 1165 = .ok (.invokevirtual 221, 3) := by decide +kernel
theorem dL_law_1168 : decode cL_law 1168 = .ok (.istore 7, 2) := by decide +kernel
theorem dL_law_1170 : decode cL_law 1170 = .ok (.aload_n 2, 1) := by decide +kernel
theorem dL_law_1171 : decode cL_law 1171 = .ok (.invokevirtual 157, 3) := by decide +kernel
theorem dL_law_1174 : decode cL_law 1174 = .ok (.iload 6, 2) := by decide +kernel
theorem dL_law_1176 : decode cL_law 1176 = .ok (.if_icmp .eq 5, 3) := by decide +kernel
theorem dL_law_1179 : decode cL_law 1179 = .ok (.iconst 0, 1) := by decide +kernel
theorem dL_law_1180 : decode cL_law 1180 = .ok (.ireturn, 1) := by decide +kernel
theorem dL_law_1181 : decode cL_law 1181 = .ok (.iload 6, 2) := by decide +kernel
theorem dL_law_1183 : decode cL_law 1183 = .ok (.ifCond .ne 15, 3) := by decide +kernel
theorem dL_law_1186 : decode cL_law 1186 = .ok (.aload_n 3, 1) := by decide +kernel
theorem dL_law_1187 : decode cL_law 1187 = .ok (.iconst 0, 1) := by decide +kernel
theorem dL_law_1188 : decode cL_law 1188 = .ok (.laload, 1) := by decide +kernel
theorem dL_law_1189 : decode cL_law 1189 = .ok (.iload 7, 2) := by decide +kernel
theorem dL_law_1191 : decode cL_law 1191 = .ok (.i2l, 1) := by decide +kernel
theorem dL_law_1192 : decode cL_law 1192 = .ok (.lcmp, 1) := by decide +kernel
theorem dL_law_1193 : decode cL_law 1193 = .ok (.ifCond .eq 5, 3) := by decide +kernel
theorem dL_law_1196 : decode cL_law 1196 = .ok (.iconst 0, 1) := by decide +kernel
theorem dL_law_1197 : decode cL_law 1197 = .ok (.ireturn, 1) := by decide +kernel
theorem dL_law_1198 : decode cL_law 1198 = .ok (.goto 1422, 3) := by decide +kernel
theorem dL_law_1201 : decode cL_law 1201 = .ok (.aload_n 1, 1) := by decide +kernel
theorem dL_law_1202 : decode cL_law 1202 = .ok (.aload_n 0, 1) := by decide +kernel
theorem dL_law_1203 : decode cL_law 1203 = .ok (.iload 5, 2) := by decide +kernel
theorem dL_law_1205 : decode cL_law 1205 = .ok (.iconst 1, 1) := by decide +kernel
theorem dL_law_1206 : decode cL_law 1206 = .ok (.iadd, 1) := by decide +kernel
theorem dL_law_1207 : decode cL_law 1207 = .ok (.iaload, 1) := by decide +kernel
theorem dL_law_1208 : decode cL_law 1208 = .ok (.aload_n 3, 1) := by decide +kernel
theorem dL_law_1209 : decode cL_law 1209 = .ok (.invokestatic 222, 3) := by decide +kernel
theorem dL_law_1212 : decode cL_law 1212 = .ok (.istore 6, 2) := by decide +kernel
theorem dL_law_1214 : decode cL_law 1214 = .ok (.aload_n 2, 1) := by decide +kernel
theorem dL_law_1215 : decode cL_law 1215 = .ok (.aload_n 0, 1) := by decide +kernel
theorem dL_law_1216 : decode cL_law 1216 = .ok (.iload 5, 2) := by decide +kernel
theorem dL_law_1218 : decode cL_law 1218 = .ok (.iconst 1, 1) := by decide +kernel
theorem dL_law_1219 : decode cL_law 1219 = .ok (.iadd, 1) := by decide +kernel
theorem dL_law_1220 : decode cL_law 1220 = .ok (.iaload, 1) := by decide +kernel
theorem dL_law_1221 : decode cL_law 1221 = .ok (.invokevirtual 224, 3) := by decide +kernel
theorem dL_law_1224 : decode cL_law 1224 = .ok (.istore 7, 2) := by decide +kernel
theorem dL_law_1226 : decode cL_law 1226 = .ok (.aload_n 2, 1) := by decide +kernel
theorem dL_law_1227 : decode cL_law 1227 = .ok (.invokevirtual 157, 3) := by decide +kernel
theorem dL_law_1230 : decode cL_law 1230 = .ok (.iload 6, 2) := by decide +kernel
theorem dL_law_1232 : decode cL_law 1232 = .ok (.if_icmp .eq 5, 3) := by decide +kernel
theorem dL_law_1235 : decode cL_law 1235 = .ok (.iconst 0, 1) := by decide +kernel
theorem dL_law_1236 : decode cL_law 1236 = .ok (.ireturn, 1) := by decide +kernel
theorem dL_law_1237 : decode cL_law 1237 = .ok (.iload 6, 2) := by decide +kernel
theorem dL_law_1239 : decode cL_law 1239 = .ok (.ifCond .ne 15, 3) := by decide +kernel
theorem dL_law_1242 : decode cL_law 1242 = .ok (.aload_n 3, 1) := by decide +kernel
theorem dL_law_1243 : decode cL_law 1243 = .ok (.iconst 0, 1) := by decide +kernel
theorem dL_law_1244 : decode cL_law 1244 = .ok (.laload, 1) := by decide +kernel
theorem dL_law_1245 : decode cL_law 1245 = .ok (.iload 7, 2) := by decide +kernel
theorem dL_law_1247 : decode cL_law 1247 = .ok (.i2l, 1) := by decide +kernel
theorem dL_law_1248 : decode cL_law 1248 = .ok (.lcmp, 1) := by decide +kernel
theorem dL_law_1249 : decode cL_law 1249 = .ok (.ifCond .eq 5, 3) := by decide +kernel
theorem dL_law_1252 : decode cL_law 1252 = .ok (.iconst 0, 1) := by decide +kernel
theorem dL_law_1253 : decode cL_law 1253 = .ok (.ireturn, 1) := by decide +kernel
theorem dL_law_1254 : decode cL_law 1254 = .ok (.goto 1366, 3) := by decide +kernel
theorem dL_law_1257 : decode cL_law 1257 = .ok (.aload_n 1, 1) := by decide +kernel
theorem dL_law_1258 : decode cL_law 1258 = .ok (.aload_n 0, 1) := by decide +kernel
theorem dL_law_1259 : decode cL_law 1259 = .ok (.iload 5, 2) := by decide +kernel
theorem dL_law_1261 : decode cL_law 1261 = .ok (.iconst 1, 1) := by decide +kernel
theorem dL_law_1262 : decode cL_law 1262 = .ok (.iadd, 1) := by decide +kernel
theorem dL_law_1263 : decode cL_law 1263 = .ok (.iaload, 1) := by decide +kernel
theorem dL_law_1264 : decode cL_law 1264 = .ok (.aload_n 3, 1) := by decide +kernel
theorem dL_law_1265 : decode cL_law 1265 = .ok (.invokestatic 225, 3) := by decide +kernel
theorem dL_law_1268 : decode cL_law 1268 = .ok (.istore 6, 2) := by decide +kernel
theorem dL_law_1270 : decode cL_law 1270 = .ok (.aload_n 2, 1) := by decide +kernel
theorem dL_law_1271 : decode cL_law 1271 = .ok (.aload_n 0, 1) := by decide +kernel
theorem dL_law_1272 : decode cL_law 1272 = .ok (.iload 5, 2) := by decide +kernel
theorem dL_law_1274 : decode cL_law 1274 = .ok (.iconst 1, 1) := by decide +kernel
theorem dL_law_1275 : decode cL_law 1275 = .ok (.iadd, 1) := by decide +kernel
theorem dL_law_1276 : decode cL_law 1276 = .ok (.iaload, 1) := by decide +kernel
theorem dL_law_1277 : decode cL_law 1277 = .ok (.invokevirtual 227, 3) := by decide +kernel
theorem dL_law_1280 : decode cL_law 1280 = .ok (.istore 7, 2) := by decide +kernel
theorem dL_law_1282 : decode cL_law 1282 = .ok (.aload_n 2, 1) := by decide +kernel
theorem dL_law_1283 : decode cL_law 1283 = .ok (.invokevirtual 157, 3) := by decide +kernel
theorem dL_law_1286 : decode cL_law 1286 = .ok (.iload 6, 2) := by decide +kernel
theorem dL_law_1288 : decode cL_law 1288 = .ok (.if_icmp .eq 5, 3) := by decide +kernel
theorem dL_law_1291 : decode cL_law 1291 = .ok (.iconst 0, 1) := by decide +kernel
theorem dL_law_1292 : decode cL_law 1292 = .ok (.ireturn, 1) := by decide +kernel
theorem dL_law_1293 : decode cL_law 1293 = .ok (.iload 6, 2) := by decide +kernel
theorem dL_law_1295 : decode cL_law 1295 = .ok (.ifCond .ne 15, 3) := by decide +kernel
theorem dL_law_1298 : decode cL_law 1298 = .ok (.aload_n 3, 1) := by decide +kernel
theorem dL_law_1299 : decode cL_law 1299 = .ok (.iconst 0, 1) := by decide +kernel
theorem dL_law_1300 : decode cL_law 1300 = .ok (.laload, 1) := by decide +kernel
theorem dL_law_1301 : decode cL_law 1301 = .ok (.iload 7, 2) := by decide +kernel
theorem dL_law_1303 : decode cL_law 1303 = .ok (.i2l, 1) := by decide +kernel
theorem dL_law_1304 : decode cL_law 1304 = .ok (.lcmp, 1) := by decide +kernel
theorem dL_law_1305 : decode cL_law 1305 = .ok (.ifCond .eq 5, 3) := by decide +kernel
theorem dL_law_1308 : decode cL_law 1308 = .ok (.iconst 0, 1) := by decide +kernel
theorem dL_law_1309 : decode cL_law 1309 = .ok (.ireturn, 1) := by decide +kernel
theorem dL_law_1310 : decode cL_law 1310 = .ok (.goto 1310, 3) := by decide +kernel
theorem dL_law_1313 : decode cL_law 1313 = .ok (.aload_n 1, 1) := by decide +kernel
theorem dL_law_1314 : decode cL_law 1314 = .ok (.aload_n 0, 1) := by decide +kernel
theorem dL_law_1315 : decode cL_law 1315 = .ok (.iload 5, 2) := by decide +kernel
theorem dL_law_1317 : decode cL_law 1317 = .ok (.iconst 1, 1) := by decide +kernel
theorem dL_law_1318 : decode cL_law 1318 = .ok (.iadd, 1) := by decide +kernel
theorem dL_law_1319 : decode cL_law 1319 = .ok (.iaload, 1) := by decide +kernel
theorem dL_law_1320 : decode cL_law 1320 = .ok (.aload_n 3, 1) := by decide +kernel
theorem dL_law_1321 : decode cL_law 1321 = .ok (.invokestatic 228, 3) := by decide +kernel
theorem dL_law_1324 : decode cL_law 1324 = .ok (.istore 6, 2) := by decide +kernel
theorem dL_law_1326 : decode cL_law 1326 = .ok (.aload_n 2, 1) := by decide +kernel
theorem dL_law_1327 : decode cL_law 1327 = .ok (.aload_n 0, 1) := by decide +kernel
theorem dL_law_1328 : decode cL_law 1328 = .ok (.iload 5, 2) := by decide +kernel
theorem dL_law_1330 : decode cL_law 1330 = .ok (.iconst 1, 1) := by decide +kernel
theorem dL_law_1331 : decode cL_law 1331 = .ok (.iadd, 1) := by decide +kernel
theorem dL_law_1332 : decode cL_law 1332 = .ok (.iaload, 1) := by decide +kernel
theorem dL_law_1333 : decode cL_law 1333 = .ok (.invokevirtual 230, 3) := by decide +kernel
theorem dL_law_1336 : decode cL_law 1336 = .ok (.istore 7, 2) := by decide +kernel
theorem dL_law_1338 : decode cL_law 1338 = .ok (.aload_n 2, 1) := by decide +kernel
theorem dL_law_1339 : decode cL_law 1339 = .ok (.invokevirtual 157, 3) := by decide +kernel
theorem dL_law_1342 : decode cL_law 1342 = .ok (.iload 6, 2) := by decide +kernel
theorem dL_law_1344 : decode cL_law 1344 = .ok (.if_icmp .eq 5, 3) := by decide +kernel
theorem dL_law_1347 : decode cL_law 1347 = .ok (.iconst 0, 1) := by decide +kernel
theorem dL_law_1348 : decode cL_law 1348 = .ok (.ireturn, 1) := by decide +kernel
theorem dL_law_1349 : decode cL_law 1349 = .ok (.iload 6, 2) := by decide +kernel
theorem dL_law_1351 : decode cL_law 1351 = .ok (.ifCond .ne 15, 3) := by decide +kernel
theorem dL_law_1354 : decode cL_law 1354 = .ok (.aload_n 3, 1) := by decide +kernel
theorem dL_law_1355 : decode cL_law 1355 = .ok (.iconst 0, 1) := by decide +kernel
theorem dL_law_1356 : decode cL_law 1356 = .ok (.laload, 1) := by decide +kernel
theorem dL_law_1357 : decode cL_law 1357 = .ok (.iload 7, 2) := by decide +kernel
theorem dL_law_1359 : decode cL_law 1359 = .ok (.i2l, 1) := by decide +kernel
theorem dL_law_1360 : decode cL_law 1360 = .ok (.lcmp, 1) := by decide +kernel
theorem dL_law_1361 : decode cL_law 1361 = .ok (.ifCond .eq 5, 3) := by decide +kernel
theorem dL_law_1364 : decode cL_law 1364 = .ok (.iconst 0, 1) := by decide +kernel
theorem dL_law_1365 : decode cL_law 1365 = .ok (.ireturn, 1) := by decide +kernel
theorem dL_law_1366 : decode cL_law 1366 = .ok (.goto 1254, 3) := by decide +kernel
theorem dL_law_1369 : decode cL_law 1369 = .ok (.aload_n 1, 1) := by decide +kernel
theorem dL_law_1370 : decode cL_law 1370 = .ok (.aload_n 0, 1) := by decide +kernel
theorem dL_law_1371 : decode cL_law 1371 = .ok (.iload 5, 2) := by decide +kernel
theorem dL_law_1373 : decode cL_law 1373 = .ok (.iconst 1, 1) := by decide +kernel
theorem dL_law_1374 : decode cL_law 1374 = .ok (.iadd, 1) := by decide +kernel
theorem dL_law_1375 : decode cL_law 1375 = .ok (.iaload, 1) := by decide +kernel
theorem dL_law_1376 : decode cL_law 1376 = .ok (.aload_n 3, 1) := by decide +kernel
theorem dL_law_1377 : decode cL_law 1377 = .ok (.invokestatic 231, 3) := by decide +kernel
theorem dL_law_1380 : decode cL_law 1380 = .ok (.istore 6, 2) := by decide +kernel
theorem dL_law_1382 : decode cL_law 1382 = .ok (.aload_n 2, 1) := by decide +kernel
theorem dL_law_1383 : decode cL_law 1383 = .ok (.aload_n 0, 1) := by decide +kernel
theorem dL_law_1384 : decode cL_law 1384 = .ok (.iload 5, 2) := by decide +kernel
theorem dL_law_1386 : decode cL_law 1386 = .ok (.iconst 1, 1) := by decide +kernel
theorem dL_law_1387 : decode cL_law 1387 = .ok (.iadd, 1) := by decide +kernel
theorem dL_law_1388 : decode cL_law 1388 = .ok (.iaload, 1) := by decide +kernel
theorem dL_law_1389 : decode cL_law 1389 = .ok (.invokevirtual 233, 3) := by decide +kernel
theorem dL_law_1392 : decode cL_law 1392 = .ok (.istore 7, 2) := by decide +kernel
theorem dL_law_1394 : decode cL_law 1394 = .ok (.aload_n 2, 1) := by decide +kernel
theorem dL_law_1395 : decode cL_law 1395 = .ok (.invokevirtual 157, 3) := by decide +kernel
theorem dL_law_1398 : decode cL_law 1398 = .ok (.iload 6, 2) := by decide +kernel
theorem dL_law_1400 : decode cL_law 1400 = .ok (.if_icmp .eq 5, 3) := by decide +kernel
theorem dL_law_1403 : decode cL_law 1403 = .ok (.iconst 0, 1) := by decide +kernel
theorem dL_law_1404 : decode cL_law 1404 = .ok (.ireturn, 1) := by decide +kernel
theorem dL_law_1405 : decode cL_law 1405 = .ok (.iload 6, 2) := by decide +kernel
theorem dL_law_1407 : decode cL_law 1407 = .ok (.ifCond .ne 15, 3) := by decide +kernel
theorem dL_law_1410 : decode cL_law 1410 = .ok (.aload_n 3, 1) := by decide +kernel
theorem dL_law_1411 : decode cL_law 1411 = .ok (.iconst 0, 1) := by decide +kernel
theorem dL_law_1412 : decode cL_law 1412 = .ok (.laload, 1) := by decide +kernel
theorem dL_law_1413 : decode cL_law 1413 = .ok (.iload 7, 2) := by decide +kernel
theorem dL_law_1415 : decode cL_law 1415 = .ok (.i2l, 1) := by decide +kernel
theorem dL_law_1416 : decode cL_law 1416 = .ok (.lcmp, 1) := by decide +kernel
theorem dL_law_1417 : decode cL_law 1417 = .ok (.ifCond .eq 5, 3) := by decide +kernel
theorem dL_law_1420 : decode cL_law 1420 = .ok (.iconst 0, 1) := by decide +kernel
theorem dL_law_1421 : decode cL_law 1421 = .ok (.ireturn, 1) := by decide +kernel
theorem dL_law_1422 : decode cL_law 1422 = .ok (.goto 1198, 3) := by decide +kernel
theorem dL_law_1425 : decode cL_law 1425 = .ok (.aload_n 1, 1) := by decide +kernel
theorem dL_law_1426 : decode cL_law 1426 = .ok (.aload_n 0, 1) := by decide +kernel
theorem dL_law_1427 : decode cL_law 1427 = .ok (.iload 5, 2) := by decide +kernel
theorem dL_law_1429 : decode cL_law 1429 = .ok (.iconst 1, 1) := by decide +kernel
theorem dL_law_1430 : decode cL_law 1430 = .ok (.iadd, 1) := by decide +kernel
theorem dL_law_1431 : decode cL_law 1431 = .ok (.iaload, 1) := by decide +kernel
theorem dL_law_1432 : decode cL_law 1432 = .ok (.aload_n 3, 1) := by decide +kernel
theorem dL_law_1433 : decode cL_law 1433 = .ok (.invokestatic 234, 3) := by decide +kernel
theorem dL_law_1436 : decode cL_law 1436 = .ok (.istore 6, 2) := by decide +kernel
theorem dL_law_1438 : decode cL_law 1438 = .ok (.aload_n 2, 1) := by decide +kernel
theorem dL_law_1439 : decode cL_law 1439 = .ok (.aload_n 0, 1) := by decide +kernel
theorem dL_law_1440 : decode cL_law 1440 = .ok (.iload 5, 2) := by decide +kernel
theorem dL_law_1442 : decode cL_law 1442 = .ok (.iconst 1, 1) := by decide +kernel
theorem dL_law_1443 : decode cL_law 1443 = .ok (.iadd, 1) := by decide +kernel
theorem dL_law_1444 : decode cL_law 1444 = .ok (.iaload, 1) := by decide +kernel
theorem dL_law_1445 : decode cL_law 1445 = .ok (.invokevirtual 236, 3) := by decide +kernel
theorem dL_law_1448 : decode cL_law 1448 = .ok (.istore 7, 2) := by decide +kernel
theorem dL_law_1450 : decode cL_law 1450 = .ok (.aload_n 2, 1) := by decide +kernel
theorem dL_law_1451 : decode cL_law 1451 = .ok (.invokevirtual 157, 3) := by decide +kernel
theorem dL_law_1454 : decode cL_law 1454 = .ok (.iload 6, 2) := by decide +kernel
theorem dL_law_1456 : decode cL_law 1456 = .ok (.if_icmp .eq 5, 3) := by decide +kernel
theorem dL_law_1459 : decode cL_law 1459 = .ok (.iconst 0, 1) := by decide +kernel
theorem dL_law_1460 : decode cL_law 1460 = .ok (.ireturn, 1) := by decide +kernel
theorem dL_law_1461 : decode cL_law 1461 = .ok (.iload 6, 2) := by decide +kernel
theorem dL_law_1463 : decode cL_law 1463 = .ok (.ifCond .ne 15, 3) := by decide +kernel
theorem dL_law_1466 : decode cL_law 1466 = .ok (.aload_n 3, 1) := by decide +kernel
theorem dL_law_1467 : decode cL_law 1467 = .ok (.iconst 0, 1) := by decide +kernel
theorem dL_law_1468 : decode cL_law 1468 = .ok (.laload, 1) := by decide +kernel
theorem dL_law_1469 : decode cL_law 1469 = .ok (.iload 7, 2) := by decide +kernel
theorem dL_law_1471 : decode cL_law 1471 = .ok (.i2l, 1) := by decide +kernel
theorem dL_law_1472 : decode cL_law 1472 = .ok (.lcmp, 1) := by decide +kernel
theorem dL_law_1473 : decode cL_law 1473 = .ok (.ifCond .eq 5, 3) := by decide +kernel
theorem dL_law_1476 : decode cL_law 1476 = .ok (.iconst 0, 1) := by decide +kernel
theorem dL_law_1477 : decode cL_law 1477 = .ok (.ireturn, 1) := by decide +kernel
theorem dL_law_1478 : decode cL_law 1478 = .ok (.goto 1142, 3) := by decide +kernel
theorem dL_law_1481 : decode cL_law 1481 = .ok (.aload_n 1, 1) := by decide +kernel
theorem dL_law_1482 : decode cL_law 1482 = .ok (.aload_n 0, 1) := by decide +kernel
theorem dL_law_1483 : decode cL_law 1483 = .ok (.iload 5, 2) := by decide +kernel
theorem dL_law_1485 : decode cL_law 1485 = .ok (.iconst 1, 1) := by decide +kernel
theorem dL_law_1486 : decode cL_law 1486 = .ok (.iadd, 1) := by decide +kernel
theorem dL_law_1487 : decode cL_law 1487 = .ok (.iaload, 1) := by decide +kernel
theorem dL_law_1488 : decode cL_law 1488 = .ok (.aload_n 0, 1) := by decide +kernel
theorem dL_law_1489 : decode cL_law 1489 = .ok (.iload 5, 2) := by decide +kernel
theorem dL_law_1491 : decode cL_law 1491 = .ok (.iconst 2, 1) := by decide +kernel
theorem dL_law_1492 : decode cL_law 1492 = .ok (.iadd, 1) := by decide +kernel
theorem dL_law_1493 : decode cL_law 1493 = .ok (.iaload, 1) := by decide +kernel
theorem dL_law_1494 : decode cL_law 1494 = .ok (.aload_n 0, 1) := by decide +kernel
theorem dL_law_1495 : decode cL_law 1495 = .ok (.iload 5, 2) := by decide +kernel
theorem dL_law_1497 : decode cL_law 1497 = .ok (.iconst 3, 1) := by decide +kernel
theorem dL_law_1498 : decode cL_law 1498 = .ok (.iadd, 1) := by decide +kernel
theorem dL_law_1499 : decode cL_law 1499 = .ok (.iaload, 1) := by decide +kernel
theorem dL_law_1500 : decode cL_law 1500 = .ok (.aload_n 3, 1) := by decide +kernel
theorem dL_law_1501 : decode cL_law 1501 = .ok (.invokestatic 237, 3) := by decide +kernel
theorem dL_law_1504 : decode cL_law 1504 = .ok (.istore 6, 2) := by decide +kernel
theorem dL_law_1506 : decode cL_law 1506 = .ok (.aload_n 2, 1) := by decide +kernel
theorem dL_law_1507 : decode cL_law 1507 = .ok (.aload_n 0, 1) := by decide +kernel
theorem dL_law_1508 : decode cL_law 1508 = .ok (.iload 5, 2) := by decide +kernel
theorem dL_law_1510 : decode cL_law 1510 = .ok (.iconst 1, 1) := by decide +kernel
theorem dL_law_1511 : decode cL_law 1511 = .ok (.iadd, 1) := by decide +kernel
theorem dL_law_1512 : decode cL_law 1512 = .ok (.iaload, 1) := by decide +kernel
theorem dL_law_1513 : decode cL_law 1513 = .ok (.aload_n 0, 1) := by decide +kernel
theorem dL_law_1514 : decode cL_law 1514 = .ok (.iload 5, 2) := by decide +kernel
theorem dL_law_1516 : decode cL_law 1516 = .ok (.iconst 2, 1) := by decide +kernel
theorem dL_law_1517 : decode cL_law 1517 = .ok (.iadd, 1) := by decide +kernel
theorem dL_law_1518 : decode cL_law 1518 = .ok (.iaload, 1) := by decide +kernel
theorem dL_law_1519 : decode cL_law 1519 = .ok (.aload_n 0, 1) := by decide +kernel
theorem dL_law_1520 : decode cL_law 1520 = .ok (.iload 5, 2) := by decide +kernel
theorem dL_law_1522 : decode cL_law 1522 = .ok (.iconst 3, 1) := by decide +kernel
theorem dL_law_1523 : decode cL_law 1523 = .ok (.iadd, 1) := by decide +kernel
theorem dL_law_1524 : decode cL_law 1524 = .ok (.iaload, 1) := by decide +kernel
theorem dL_law_1525 : decode cL_law 1525 = .ok (.invokevirtual 239, 3) := by decide +kernel
theorem dL_law_1528 : decode cL_law 1528 = .ok (.istore 7, 2) := by decide +kernel
theorem dL_law_1530 : decode cL_law 1530 = .ok (.aload_n 2, 1) := by decide +kernel
theorem dL_law_1531 : decode cL_law 1531 = .ok (.invokevirtual 157, 3) := by decide +kernel
theorem dL_law_1534 : decode cL_law 1534 = .ok (.iload 6, 2) := by decide +kernel
theorem dL_law_1536 : decode cL_law 1536 = .ok (.if_icmp .eq 5, 3) := by decide +kernel
theorem dL_law_1539 : decode cL_law 1539 = .ok (.iconst 0, 1) := by decide +kernel
theorem dL_law_1540 : decode cL_law 1540 = .ok (.ireturn, 1) := by decide +kernel
theorem dL_law_1541 : decode cL_law 1541 = .ok (.iload 6, 2) := by decide +kernel
theorem dL_law_1543 : decode cL_law 1543 = .ok (.ifCond .ne 15, 3) := by decide +kernel
theorem dL_law_1546 : decode cL_law 1546 = .ok (.aload_n 3, 1) := by decide +kernel
theorem dL_law_1547 : decode cL_law 1547 = .ok (.iconst 0, 1) := by decide +kernel
theorem dL_law_1548 : decode cL_law 1548 = .ok (.laload, 1) := by decide +kernel
theorem dL_law_1549 : decode cL_law 1549 = .ok (.iload 7, 2) := by decide +kernel
theorem dL_law_1551 : decode cL_law 1551 = .ok (.i2l, 1) := by decide +kernel
theorem dL_law_1552 : decode cL_law 1552 = .ok (.lcmp, 1) := by decide +kernel
theorem dL_law_1553 : decode cL_law 1553 = .ok (.ifCond .eq 5, 3) := by decide +kernel
theorem dL_law_1556 : decode cL_law 1556 = .ok (.iconst 0, 1) := by decide +kernel
theorem dL_law_1557 : decode cL_law 1557 = .ok (.ireturn, 1) := by decide +kernel
theorem dL_law_1558 : decode cL_law 1558 = .ok (.goto 1062, 3) := by decide +kernel
theorem dL_law_1561 : decode cL_law 1561 = .ok (.aload_n 1, 1) := by decide +kernel
theorem dL_law_1562 : decode cL_law 1562 = .ok (.aload_n 0, 1) := by decide +kernel
theorem dL_law_1563 : decode cL_law 1563 = .ok (.iload 5, 2) := by decide +kernel
theorem dL_law_1565 : decode cL_law 1565 = .ok (.iconst 1, 1) := by decide +kernel
theorem dL_law_1566 : decode cL_law 1566 = .ok (.iadd, 1) := by decide +kernel
theorem dL_law_1567 : decode cL_law 1567 = .ok (.iaload, 1) := by decide +kernel
theorem dL_law_1568 : decode cL_law 1568 = .ok (.aload_n 0, 1) := by decide +kernel
theorem dL_law_1569 : decode cL_law 1569 = .ok (.iload 5, 2) := by decide +kernel
theorem dL_law_1571 : decode cL_law 1571 = .ok (.iconst 2, 1) := by decide +kernel
theorem dL_law_1572 : decode cL_law 1572 = .ok (.iadd, 1) := by decide +kernel
theorem dL_law_1573 : decode cL_law 1573 = .ok (.iaload, 1) := by decide +kernel
theorem dL_law_1574 : decode cL_law 1574 = .ok (.aload_n 0, 1) := by decide +kernel
theorem dL_law_1575 : decode cL_law 1575 = .ok (.iload 5, 2) := by decide +kernel
theorem dL_law_1577 : decode cL_law 1577 = .ok (.iconst 3, 1) := by decide +kernel
theorem dL_law_1578 : decode cL_law 1578 = .ok (.iadd, 1) := by decide +kernel
theorem dL_law_1579 : decode cL_law 1579 = .ok (.iaload, 1) := by decide +kernel
theorem dL_law_1580 : decode cL_law 1580 = .ok (.aload_n 0, 1) := by decide +kernel
theorem dL_law_1581 : decode cL_law 1581 = .ok (.iload 5, 2) := by decide +kernel
theorem dL_law_1583 : decode cL_law 1583 = .ok (.iconst 4, 1) := by decide +kernel
theorem dL_law_1584 : decode cL_law 1584 = .ok (.iadd, 1) := by decide +kernel
theorem dL_law_1585 : decode cL_law 1585 = .ok (.iaload, 1) := by decide +kernel
theorem dL_law_1586 : decode cL_law 1586 = .ok (.aload_n 3, 1) := by decide +kernel
theorem dL_law_1587 : decode cL_law 1587 = .ok (.invokestatic 240, 3) := by decide +kernel
theorem dL_law_1590 : decode cL_law 1590 = .ok (.istore 6, 2) := by decide +kernel
theorem dL_law_1592 : decode cL_law 1592 = .ok (.aload_n 2, 1) := by decide +kernel
theorem dL_law_1593 : decode cL_law 1593 = .ok (.aload_n 0, 1) := by decide +kernel
theorem dL_law_1594 : decode cL_law 1594 = .ok (.iload 5, 2) := by decide +kernel
theorem dL_law_1596 : decode cL_law 1596 = .ok (.iconst 1, 1) := by decide +kernel
theorem dL_law_1597 : decode cL_law 1597 = .ok (.iadd, 1) := by decide +kernel
theorem dL_law_1598 : decode cL_law 1598 = .ok (.iaload, 1) := by decide +kernel
theorem dL_law_1599 : decode cL_law 1599 = .ok (.aload_n 0, 1) := by decide +kernel
theorem dL_law_1600 : decode cL_law 1600 = .ok (.iload 5, 2) := by decide +kernel
theorem dL_law_1602 : decode cL_law 1602 = .ok (.iconst 2, 1) := by decide +kernel
theorem dL_law_1603 : decode cL_law 1603 = .ok (.iadd, 1) := by decide +kernel
theorem dL_law_1604 : decode cL_law 1604 = .ok (.iaload, 1) := by decide +kernel
theorem dL_law_1605 : decode cL_law 1605 = .ok (.aload_n 0, 1) := by decide +kernel
theorem dL_law_1606 : decode cL_law 1606 = .ok (.iload 5, 2) := by decide +kernel
theorem dL_law_1608 : decode cL_law 1608 = .ok (.iconst 3, 1) := by decide +kernel
theorem dL_law_1609 : decode cL_law 1609 = .ok (.iadd, 1) := by decide +kernel
theorem dL_law_1610 : decode cL_law 1610 = .ok (.iaload, 1) := by decide +kernel
theorem dL_law_1611 : decode cL_law 1611 = .ok (.aload_n 0, 1) := by decide +kernel
theorem dL_law_1612 : decode cL_law 1612 = .ok (.iload 5, 2) := by decide +kernel
theorem dL_law_1614 : decode cL_law 1614 = .ok (.iconst 4, 1) := by decide +kernel
theorem dL_law_1615 : decode cL_law 1615 = .ok (.iadd, 1) := by decide +kernel
theorem dL_law_1616 : decode cL_law 1616 = .ok (.iaload, 1) := by decide +kernel
theorem dL_law_1617 : decode cL_law 1617 = .ok (.invokevirtual 243, 3) := by decide +kernel
theorem dL_law_1620 : decode cL_law 1620 = .ok (.istore 7, 2) := by decide +kernel
theorem dL_law_1622 : decode cL_law 1622 = .ok (.aload_n 2, 1) := by decide +kernel
theorem dL_law_1623 : decode cL_law 1623 = .ok (.invokevirtual 157, 3) := by decide +kernel
theorem dL_law_1626 : decode cL_law 1626 = .ok (.iload 6, 2) := by decide +kernel
theorem dL_law_1628 : decode cL_law 1628 = .ok (.if_icmp .eq 5, 3) := by decide +kernel
theorem dL_law_1631 : decode cL_law 1631 = .ok (.iconst 0, 1) := by decide +kernel
theorem dL_law_1632 : decode cL_law 1632 = .ok (.ireturn, 1) := by decide +kernel
theorem dL_law_1633 : decode cL_law 1633 = .ok (.iload 6, 2) := by decide +kernel
theorem dL_law_1635 : decode cL_law 1635 = .ok (.ifCond .ne 15, 3) := by decide +kernel
theorem dL_law_1638 : decode cL_law 1638 = .ok (.aload_n 3, 1) := by decide +kernel
theorem dL_law_1639 : decode cL_law 1639 = .ok (.iconst 0, 1) := by decide +kernel
theorem dL_law_1640 : decode cL_law 1640 = .ok (.laload, 1) := by decide +kernel
theorem dL_law_1641 : decode cL_law 1641 = .ok (.iload 7, 2) := by decide +kernel
theorem dL_law_1643 : decode cL_law 1643 = .ok (.i2l, 1) := by decide +kernel
theorem dL_law_1644 : decode cL_law 1644 = .ok (.lcmp, 1) := by decide +kernel
theorem dL_law_1645 : decode cL_law 1645 = .ok (.ifCond .eq 5, 3) := by decide +kernel
theorem dL_law_1648 : decode cL_law 1648 = .ok (.iconst 0, 1) := by decide +kernel
theorem dL_law_1649 : decode cL_law 1649 = .ok (.ireturn, 1) := by decide +kernel
theorem dL_law_1650 : decode cL_law 1650 = .ok (.goto 970, 3) := by decide +kernel
theorem dL_law_1653 : decode cL_law 1653 = .ok (.aload_n 1, 1) := by decide +kernel
theorem dL_law_1654 : decode cL_law 1654 = .ok (.aload_n 0, 1) := by decide +kernel
theorem dL_law_1655 : decode cL_law 1655 = .ok (.iload 5, 2) := by decide +kernel
theorem dL_law_1657 : decode cL_law 1657 = .ok (.iconst 1, 1) := by decide +kernel
theorem dL_law_1658 : decode cL_law 1658 = .ok (.iadd, 1) := by decide +kernel
theorem dL_law_1659 : decode cL_law 1659 = .ok (.iaload, 1) := by decide +kernel
theorem dL_law_1660 : decode cL_law 1660 = .ok (.aload_n 0, 1) := by decide +kernel
theorem dL_law_1661 : decode cL_law 1661 = .ok (.iload 5, 2) := by decide +kernel
theorem dL_law_1663 : decode cL_law 1663 = .ok (.iconst 2, 1) := by decide +kernel
theorem dL_law_1664 : decode cL_law 1664 = .ok (.iadd, 1) := by decide +kernel
theorem dL_law_1665 : decode cL_law 1665 = .ok (.iaload, 1) := by decide +kernel
theorem dL_law_1666 : decode cL_law 1666 = .ok (.aload_n 0, 1) := by decide +kernel
theorem dL_law_1667 : decode cL_law 1667 = .ok (.iload 5, 2) := by decide +kernel
theorem dL_law_1669 : decode cL_law 1669 = .ok (.iconst 3, 1) := by decide +kernel
theorem dL_law_1670 : decode cL_law 1670 = .ok (.iadd, 1) := by decide +kernel
theorem dL_law_1671 : decode cL_law 1671 = .ok (.iaload, 1) := by decide +kernel
theorem dL_law_1672 : decode cL_law 1672 = .ok (.aload_n 0, 1) := by decide +kernel
theorem dL_law_1673 : decode cL_law 1673 = .ok (.iload 5, 2) := by decide +kernel
theorem dL_law_1675 : decode cL_law 1675 = .ok (.iconst 4, 1) := by decide +kernel
theorem dL_law_1676 : decode cL_law 1676 = .ok (.iadd, 1) := by decide +kernel
theorem dL_law_1677 : decode cL_law 1677 = .ok (.iaload, 1) := by decide +kernel
theorem dL_law_1678 : decode cL_law 1678 = .ok (.aload_n 3, 1) := by decide +kernel
theorem dL_law_1679 : decode cL_law 1679 = .ok (.invokestatic 244, 3) := by decide +kernel
theorem dL_law_1682 : decode cL_law 1682 = .ok (.istore 6, 2) := by decide +kernel
theorem dL_law_1684 : decode cL_law 1684 = .ok (.aload_n 2, 1) := by decide +kernel
theorem dL_law_1685 : decode cL_law 1685 = .ok (.aload_n 0, 1) := by decide +kernel
theorem dL_law_1686 : decode cL_law 1686 = .ok (.iload 5, 2) := by decide +kernel
theorem dL_law_1688 : decode cL_law 1688 = .ok (.iconst 1, 1) := by decide +kernel
theorem dL_law_1689 : decode cL_law 1689 = .ok (.iadd, 1) := by decide +kernel
theorem dL_law_1690 : decode cL_law 1690 = .ok (.iaload, 1) := by decide +kernel
theorem dL_law_1691 : decode cL_law 1691 = .ok (.aload_n 0, 1) := by decide +kernel
theorem dL_law_1692 : decode cL_law 1692 = .ok (.iload 5, 2) := by decide +kernel
theorem dL_law_1694 : decode cL_law 1694 = .ok (.iconst 2, 1) := by decide +kernel
theorem dL_law_1695 : decode cL_law 1695 = .ok (.iadd, 1) := by decide +kernel
theorem dL_law_1696 : decode cL_law 1696 = .ok (.iaload, 1) := by decide +kernel
theorem dL_law_1697 : decode cL_law 1697 = .ok (.aload_n 0, 1) := by decide +kernel
theorem dL_law_1698 : decode cL_law 1698 = .ok (.iload 5, 2) := by decide +kernel
theorem dL_law_1700 : decode cL_law 1700 = .ok (.iconst 3, 1) := by decide +kernel
theorem dL_law_1701 : decode cL_law 1701 = .ok (.iadd, 1) := by decide +kernel
theorem dL_law_1702 : decode cL_law 1702 = .ok (.iaload, 1) := by decide +kernel
theorem dL_law_1703 : decode cL_law 1703 = .ok (.aload_n 0, 1) := by decide +kernel
theorem dL_law_1704 : decode cL_law 1704 = .ok (.iload 5, 2) := by decide +kernel
theorem dL_law_1706 : decode cL_law 1706 = .ok (.iconst 4, 1) := by decide +kernel
theorem dL_law_1707 : decode cL_law 1707 = .ok (.iadd, 1) := by decide +kernel
theorem dL_law_1708 : decode cL_law 1708 = .ok (.iaload, 1) := by decide +kernel
theorem dL_law_1709 : decode cL_law 1709 = .ok (.invokevirtual 246, 3) := by decide +kernel
theorem dL_law_1712 : decode cL_law 1712 = .ok (.istore 7, 2) := by decide +kernel
theorem dL_law_1714 : decode cL_law 1714 = .ok (.aload_n 2, 1) := by decide +kernel
theorem dL_law_1715 : decode cL_law 1715 = .ok (.invokevirtual 157, 3) := by decide +kernel
theorem dL_law_1718 : decode cL_law 1718 = .ok (.iload 6, 2) := by decide +kernel
theorem dL_law_1720 : decode cL_law 1720 = .ok (.if_icmp .eq 5, 3) := by decide +kernel
theorem dL_law_1723 : decode cL_law 1723 = .ok (.iconst 0, 1) := by decide +kernel
theorem dL_law_1724 : decode cL_law 1724 = .ok (.ireturn, 1) := by decide +kernel
theorem dL_law_1725 : decode cL_law 1725 = .ok (.iload 6, 2) := by decide +kernel
theorem dL_law_1727 : decode cL_law 1727 = .ok (.ifCond .ne 15, 3) := by decide +kernel
theorem dL_law_1730 : decode cL_law 1730 = .ok (.aload_n 3, 1) := by decide +kernel
theorem dL_law_1731 : decode cL_law 1731 = .ok (.iconst 0, 1) := by decide +kernel
theorem dL_law_1732 : decode cL_law 1732 = .ok (.laload, 1) := by decide +kernel
theorem dL_law_1733 : decode cL_law 1733 = .ok (.iload 7, 2) := by decide +kernel
theorem dL_law_1735 : decode cL_law 1735 = .ok (.i2l, 1) := by decide +kernel
theorem dL_law_1736 : decode cL_law 1736 = .ok (.lcmp, 1) := by decide +kernel
theorem dL_law_1737 : decode cL_law 1737 = .ok (.ifCond .eq 5, 3) := by decide +kernel
theorem dL_law_1740 : decode cL_law 1740 = .ok (.iconst 0, 1) := by decide +kernel
theorem dL_law_1741 : decode cL_law 1741 = .ok (.ireturn, 1) := by decide +kernel
theorem dL_law_1742 : decode cL_law 1742 = .ok (.goto 878, 3) := by decide +kernel
theorem dL_law_1745 : decode cL_law 1745 = .ok (.aload_n 1, 1) := by decide +kernel
theorem dL_law_1746 : decode cL_law 1746 = .ok (.aload_n 0, 1) := by decide +kernel
theorem dL_law_1747 : decode cL_law 1747 = .ok (.iload 5, 2) := by decide +kernel
theorem dL_law_1749 : decode cL_law 1749 = .ok (.iconst 1, 1) := by decide +kernel
theorem dL_law_1750 : decode cL_law 1750 = .ok (.iadd, 1) := by decide +kernel
theorem dL_law_1751 : decode cL_law 1751 = .ok (.iaload, 1) := by decide +kernel
theorem dL_law_1752 : decode cL_law 1752 = .ok (.aload_n 3, 1) := by decide +kernel
theorem dL_law_1753 : decode cL_law 1753 = .ok (.invokestatic 247, 3) := by decide +kernel
theorem dL_law_1756 : decode cL_law 1756 = .ok (.istore 6, 2) := by decide +kernel
theorem dL_law_1758 : decode cL_law 1758 = .ok (.aload_n 2, 1) := by decide +kernel
theorem dL_law_1759 : decode cL_law 1759 = .ok (.aload_n 0, 1) := by decide +kernel
theorem dL_law_1760 : decode cL_law 1760 = .ok (.iload 5, 2) := by decide +kernel
theorem dL_law_1762 : decode cL_law 1762 = .ok (.iconst 1, 1) := by decide +kernel
theorem dL_law_1763 : decode cL_law 1763 = .ok (.iadd, 1) := by decide +kernel
theorem dL_law_1764 : decode cL_law 1764 = .ok (.iaload, 1) := by decide +kernel
theorem dL_law_1765 : decode cL_law 1765 = .ok (.invokevirtual 249, 3) := by decide +kernel
theorem dL_law_1768 : decode cL_law 1768 = .ok (.istore 7, 2) := by decide +kernel
theorem dL_law_1770 : decode cL_law 1770 = .ok (.aload_n 2, 1) := by decide +kernel
theorem dL_law_1771 : decode cL_law 1771 = .ok (.invokevirtual 157, 3) := by decide +kernel
theorem dL_law_1774 : decode cL_law 1774 = .ok (.iload 6, 2) := by decide +kernel
theorem dL_law_1776 : decode cL_law 1776 = .ok (.if_icmp .eq 5, 3) := by decide +kernel
theorem dL_law_1779 : decode cL_law 1779 = .ok (.iconst 0, 1) := by decide +kernel
theorem dL_law_1780 : decode cL_law 1780 = .ok (.ireturn, 1) := by decide +kernel
theorem dL_law_1781 : decode cL_law 1781 = .ok (.iload 6, 2) := by decide +kernel
theorem dL_law_1783 : decode cL_law 1783 = .ok (.ifCond .ne 15, 3) := by decide +kernel
theorem dL_law_1786 : decode cL_law 1786 = .ok (.aload_n 3, 1) := by decide +kernel
theorem dL_law_1787 : decode cL_law 1787 = .ok (.iconst 0, 1) := by decide +kernel
theorem dL_law_1788 : decode cL_law 1788 = .ok (.laload, 1) := by decide +kernel
theorem dL_law_1789 : decode cL_law 1789 = .ok (.iload 7, 2) := by decide +kernel
theorem dL_law_1791 : decode cL_law 1791 = .ok (.i2l, 1) := by decide +kernel
theorem dL_law_1792 : decode cL_law 1792 = .ok (.lcmp, 1) := by decide +kernel
theorem dL_law_1793 : decode cL_law 1793 = .ok (.ifCond .eq 5, 3) := by decide +kernel
theorem dL_law_1796 : decode cL_law 1796 = .ok (.iconst 0, 1) := by decide +kernel
theorem dL_law_1797 : decode cL_law 1797 = .ok (.ireturn, 1) := by decide +kernel
theorem dL_law_1798 : decode cL_law 1798 = .ok (.goto 822, 3) := by decide +kernel
theorem dL_law_1801 : decode cL_law 1801 = .ok (.aload_n 1, 1) := by decide +kernel
theorem dL_law_1802 : decode cL_law 1802 = .ok (.aload_n 0, 1) := by decide +kernel
theorem dL_law_1803 : decode cL_law 1803 = .ok (.iload 5, 2) := by decide +kernel
theorem dL_law_1805 : decode cL_law 1805 = .ok (.iconst 1, 1) := by decide +kernel
theorem dL_law_1806 : decode cL_law 1806 = .ok (.iadd, 1) := by decide +kernel
theorem dL_law_1807 : decode cL_law 1807 = .ok (.iaload, 1) := by decide +kernel
theorem dL_law_1808 : decode cL_law 1808 = .ok (.aload_n 3, 1) := by decide +kernel
theorem dL_law_1809 : decode cL_law 1809 = .ok (.invokestatic 250, 3) := by decide +kernel
theorem dL_law_1812 : decode cL_law 1812 = .ok (.istore 6, 2) := by decide +kernel
theorem dL_law_1814 : decode cL_law 1814 = .ok (.aload_n 2, 1) := by decide +kernel
theorem dL_law_1815 : decode cL_law 1815 = .ok (.aload_n 0, 1) := by decide +kernel
theorem dL_law_1816 : decode cL_law 1816 = .ok (.iload 5, 2) := by decide +kernel
theorem dL_law_1818 : decode cL_law 1818 = .ok (.iconst 1, 1) := by decide +kernel
theorem dL_law_1819 : decode cL_law 1819 = .ok (.iadd, 1) := by decide +kernel
theorem dL_law_1820 : decode cL_law 1820 = .ok (.iaload, 1) := by decide +kernel
theorem dL_law_1821 : decode cL_law 1821 = .ok (.invokevirtual 252, 3) := by decide +kernel
theorem dL_law_1824 : decode cL_law 1824 = .ok (.istore 7, 2) := by decide +kernel
theorem dL_law_1826 : decode cL_law 1826 = .ok (.aload_n 2, 1) := by decide +kernel
theorem dL_law_1827 : decode cL_law 1827 = .ok (.invokevirtual 157, 3) := by decide +kernel
theorem dL_law_1830 : decode cL_law 1830 = .ok (.iload 6, 2) := by decide +kernel
theorem dL_law_1832 : decode cL_law 1832 = .ok (.if_icmp .eq 5, 3) := by decide +kernel
theorem dL_law_1835 : decode cL_law 1835 = .ok (.iconst 0, 1) := by decide +kernel
theorem dL_law_1836 : decode cL_law 1836 = .ok (.ireturn, 1) := by decide +kernel
theorem dL_law_1837 : decode cL_law 1837 = .ok (.iload 6, 2) := by decide +kernel
theorem dL_law_1839 : decode cL_law 1839 = .ok (.ifCond .ne 15, 3) := by decide +kernel
theorem dL_law_1842 : decode cL_law 1842 = .ok (.aload_n 3, 1) := by decide +kernel
theorem dL_law_1843 : decode cL_law 1843 = .ok (.iconst 0, 1) := by decide +kernel
theorem dL_law_1844 : decode cL_law 1844 = .ok (.laload, 1) := by decide +kernel
theorem dL_law_1845 : decode cL_law 1845 = .ok (.iload 7, 2) := by decide +kernel
theorem dL_law_1847 : decode cL_law 1847 = .ok (.i2l, 1) := by decide +kernel
theorem dL_law_1848 : decode cL_law 1848 = .ok (.lcmp, 1) := by decide +kernel
theorem dL_law_1849 : decode cL_law 1849 = .ok (.ifCond .eq 5, 3) := by decide +kernel
theorem dL_law_1852 : decode cL_law 1852 = .ok (.iconst 0, 1) := by decide +kernel
theorem dL_law_1853 : decode cL_law 1853 = .ok (.ireturn, 1) := by decide +kernel
theorem dL_law_1854 : decode cL_law 1854 = .ok (.goto 766, 3) := by decide +kernel
theorem dL_law_1857 : decode cL_law 1857 = .ok (.aload_n 1, 1) := by decide +kernel
theorem dL_law_1858 : decode cL_law 1858 = .ok (.aload_n 0, 1) := by decide +kernel
theorem dL_law_1859 : decode cL_law 1859 = .ok (.iload 5, 2) := by decide +kernel
theorem dL_law_1861 : decode cL_law 1861 = .ok (.iconst 1, 1) := by decide +kernel
theorem dL_law_1862 : decode cL_law 1862 = .ok (.iadd, 1) := by decide +kernel
theorem dL_law_1863 : decode cL_law 1863 = .ok (.iaload, 1) := by decide +kernel
theorem dL_law_1864 : decode cL_law 1864 = .ok (.aload_n 0, 1) := by decide +kernel
theorem dL_law_1865 : decode cL_law 1865 = .ok (.iload 5, 2) := by decide +kernel
theorem dL_law_1867 : decode cL_law 1867 = .ok (.iconst 2, 1) := by decide +kernel
theorem dL_law_1868 : decode cL_law 1868 = .ok (.iadd, 1) := by decide +kernel
theorem dL_law_1869 : decode cL_law 1869 = .ok (.iaload, 1) := by decide +kernel
theorem dL_law_1870 : decode cL_law 1870 = .ok (.aload_n 3, 1) := by decide +kernel
theorem dL_law_1871 : decode cL_law 1871 = .ok (.invokestatic 253, 3) := by decide +kernel
theorem dL_law_1874 : decode cL_law 1874 = .ok (.istore 6, 2) := by decide +kernel
theorem dL_law_1876 : decode cL_law 1876 = .ok (.aload_n 2, 1) := by decide +kernel
theorem dL_law_1877 : decode cL_law 1877 = .ok (.aload_n 0, 1) := by decide +kernel
theorem dL_law_1878 : decode cL_law 1878 = .ok (.iload 5, 2) := by decide +kernel
theorem dL_law_1880 : decode cL_law 1880 = .ok (.iconst 1, 1) := by decide +kernel
theorem dL_law_1881 : decode cL_law 1881 = .ok (.iadd, 1) := by decide +kernel
theorem dL_law_1882 : decode cL_law 1882 = .ok (.iaload, 1) := by decide +kernel
theorem dL_law_1883 : decode cL_law 1883 = .ok (.aload_n 0, 1) := by decide +kernel
theorem dL_law_1884 : decode cL_law 1884 = .ok (.iload 5, 2) := by decide +kernel
theorem dL_law_1886 : decode cL_law 1886 = .ok (.iconst 2, 1) := by decide +kernel
theorem dL_law_1887 : decode cL_law 1887 = .ok (.iadd, 1) := by decide +kernel
theorem dL_law_1888 : decode cL_law 1888 = .ok (.iaload, 1) := by decide +kernel
theorem dL_law_1889 : decode cL_law 1889 = .ok (.invokevirtual 255, 3) := by decide +kernel
theorem dL_law_1892 : decode cL_law 1892 = .ok (.istore 7, 2) := by decide +kernel
theorem dL_law_1894 : decode cL_law 1894 = .ok (.aload_n 2, 1) := by decide +kernel
theorem dL_law_1895 : decode cL_law 1895 = .ok (.invokevirtual 157, 3) := by decide +kernel
theorem dL_law_1898 : decode cL_law 1898 = .ok (.iload 6, 2) := by decide +kernel
theorem dL_law_1900 : decode cL_law 1900 = .ok (.if_icmp .eq 5, 3) := by decide +kernel
theorem dL_law_1903 : decode cL_law 1903 = .ok (.iconst 0, 1) := by decide +kernel
theorem dL_law_1904 : decode cL_law 1904 = .ok (.ireturn, 1) := by decide +kernel
theorem dL_law_1905 : decode cL_law 1905 = .ok (.iload 6, 2) := by decide +kernel
theorem dL_law_1907 : decode cL_law 1907 = .ok (.ifCond .ne 15, 3) := by decide +kernel
theorem dL_law_1910 : decode cL_law 1910 = .ok (.aload_n 3, 1) := by decide +kernel
theorem dL_law_1911 : decode cL_law 1911 = .ok (.iconst 0, 1) := by decide +kernel
theorem dL_law_1912 : decode cL_law 1912 = .ok (.laload, 1) := by decide +kernel
theorem dL_law_1913 : decode cL_law 1913 = .ok (.iload 7, 2) := by decide +kernel
theorem dL_law_1915 : decode cL_law 1915 = .ok (.i2l, 1) := by decide +kernel
theorem dL_law_1916 : decode cL_law 1916 = .ok (.lcmp, 1) := by decide +kernel
theorem dL_law_1917 : decode cL_law 1917 = .ok (.ifCond .eq 5, 3) := by decide +kernel
theorem dL_law_1920 : decode cL_law 1920 = .ok (.iconst 0, 1) := by decide +kernel
theorem dL_law_1921 : decode cL_law 1921 = .ok (.ireturn, 1) := by decide +kernel
theorem dL_law_1922 : decode cL_law 1922 = .ok (.goto 698, 3) := by decide +kernel
theorem dL_law_1925 : decode cL_law 1925 = .ok (.aload_n 1, 1) := by decide +kernel
theorem dL_law_1926 : decode cL_law 1926 = .ok (.aload_n 0, 1) := by decide +kernel
theorem dL_law_1927 : decode cL_law 1927 = .ok (.iload 5, 2) := by decide +kernel
theorem dL_law_1929 : decode cL_law 1929 = .ok (.iconst 1, 1) := by decide +kernel
theorem dL_law_1930 : decode cL_law 1930 = .ok (.iadd, 1) := by decide +kernel
theorem dL_law_1931 : decode cL_law 1931 = .ok (.iaload, 1) := by decide +kernel
theorem dL_law_1932 : decode cL_law 1932 = .ok (.aload_n 0, 1) := by decide +kernel
theorem dL_law_1933 : decode cL_law 1933 = .ok (.iload 5, 2) := by decide +kernel
theorem dL_law_1935 : decode cL_law 1935 = .ok (.iconst 2, 1) := by decide +kernel
theorem dL_law_1936 : decode cL_law 1936 = .ok (.iadd, 1) := by decide +kernel
theorem dL_law_1937 : decode cL_law 1937 = .ok (.iaload, 1) := by decide +kernel
theorem dL_law_1938 : decode cL_law 1938 = .ok (.aload_n 0, 1) := by decide +kernel
theorem dL_law_1939 : decode cL_law 1939 = .ok (.iload 5, 2) := by decide +kernel
theorem dL_law_1941 : decode cL_law 1941 = .ok (.iconst 3, 1) := by decide +kernel
theorem dL_law_1942 : decode cL_law 1942 = .ok (.iadd, 1) := by decide +kernel
theorem dL_law_1943 : decode cL_law 1943 = .ok (.iaload, 1) := by decide +kernel
theorem dL_law_1944 : decode cL_law 1944 = .ok (.aload_n 3, 1) := by decide +kernel
theorem dL_law_1945 : decode cL_law 1945 = .ok (.invokestatic 256, 3) := by decide +kernel
theorem dL_law_1948 : decode cL_law 1948 = .ok (.istore 6, 2) := by decide +kernel
theorem dL_law_1950 : decode cL_law 1950 = .ok (.aload_n 2, 1) := by decide +kernel
theorem dL_law_1951 : decode cL_law 1951 = .ok (.aload_n 0, 1) := by decide +kernel
theorem dL_law_1952 : decode cL_law 1952 = .ok (.iload 5, 2) := by decide +kernel
theorem dL_law_1954 : decode cL_law 1954 = .ok (.iconst 1, 1) := by decide +kernel
theorem dL_law_1955 : decode cL_law 1955 = .ok (.iadd, 1) := by decide +kernel
theorem dL_law_1956 : decode cL_law 1956 = .ok (.iaload, 1) := by decide +kernel
theorem dL_law_1957 : decode cL_law 1957 = .ok (.aload_n 0, 1) := by decide +kernel
theorem dL_law_1958 : decode cL_law 1958 = .ok (.iload 5, 2) := by decide +kernel
theorem dL_law_1960 : decode cL_law 1960 = .ok (.iconst 2, 1) := by decide +kernel
theorem dL_law_1961 : decode cL_law 1961 = .ok (.iadd, 1) := by decide +kernel
theorem dL_law_1962 : decode cL_law 1962 = .ok (.iaload, 1) := by decide +kernel
theorem dL_law_1963 : decode cL_law 1963 = .ok (.aload_n 0, 1) := by decide +kernel
theorem dL_law_1964 : decode cL_law 1964 = .ok (.iload 5, 2) := by decide +kernel
theorem dL_law_1966 : decode cL_law 1966 = .ok (.iconst 3, 1) := by decide +kernel
theorem dL_law_1967 : decode cL_law 1967 = .ok (.iadd, 1) := by decide +kernel
theorem dL_law_1968 : decode cL_law 1968 = .ok (.iaload, 1) := by decide +kernel
theorem dL_law_1969 : decode cL_law 1969 = .ok (.invokevirtual 258, 3) := by decide +kernel
theorem dL_law_1972 : decode cL_law 1972 = .ok (.istore 7, 2) := by decide +kernel
theorem dL_law_1974 : decode cL_law 1974 = .ok (.aload_n 2, 1) := by decide +kernel
theorem dL_law_1975 : decode cL_law 1975 = .ok (.invokevirtual 157, 3) := by decide +kernel
theorem dL_law_1978 : decode cL_law 1978 = .ok (.iload 6, 2) := by decide +kernel
theorem dL_law_1980 : decode cL_law 1980 = .ok (.if_icmp .eq 5, 3) := by decide +kernel
theorem dL_law_1983 : decode cL_law 1983 = .ok (.iconst 0, 1) := by decide +kernel
theorem dL_law_1984 : decode cL_law 1984 = .ok (.ireturn, 1) := by decide +kernel
theorem dL_law_1985 : decode cL_law 1985 = .ok (.iload 6, 2) := by decide +kernel
theorem dL_law_1987 : decode cL_law 1987 = .ok (.ifCond .ne 15, 3) := by decide +kernel
theorem dL_law_1990 : decode cL_law 1990 = .ok (.aload_n 3, 1) := by decide +kernel
theorem dL_law_1991 : decode cL_law 1991 = .ok (.iconst 0, 1) := by decide +kernel
theorem dL_law_1992 : decode cL_law 1992 = .ok (.laload, 1) := by decide +kernel
theorem dL_law_1993 : decode cL_law 1993 = .ok (.iload 7, 2) := by decide +kernel
theorem dL_law_1995 : decode cL_law 1995 = .ok (.i2l, 1) := by decide +kernel
theorem dL_law_1996 : decode cL_law 1996 = .ok (.lcmp, 1) := by decide +kernel
theorem dL_law_1997 : decode cL_law 1997 = .ok (.ifCond .eq 5, 3) := by decide +kernel
theorem dL_law_2000 : decode cL_law 2000 = .ok (.iconst 0, 1) := by decide +kernel
theorem dL_law_2001 : decode cL_law 2001 = .ok (.ireturn, 1) := by decide +kernel
theorem dL_law_2002 : decode cL_law 2002 = .ok (.goto 618, 3) := by decide +kernel
theorem dL_law_2005 : decode cL_law 2005 = .ok (.aload_n 1, 1) := by decide +kernel
theorem dL_law_2006 : decode cL_law 2006 = .ok (.aload_n 0, 1) := by decide +kernel
theorem dL_law_2007 : decode cL_law 2007 = .ok (.iload 5, 2) := by decide +kernel
theorem dL_law_2009 : decode cL_law 2009 = .ok (.iconst 1, 1) := by decide +kernel
theorem dL_law_2010 : decode cL_law 2010 = .ok (.iadd, 1) := by decide +kernel
theorem dL_law_2011 : decode cL_law 2011 = .ok (.iaload, 1) := by decide +kernel
theorem dL_law_2012 : decode cL_law 2012 = .ok (.i2c, 1) := by decide +kernel
theorem dL_law_2013 : decode cL_law 2013 = .ok (.aload_n 3, 1) := by decide +kernel
theorem dL_law_2014 : decode cL_law 2014 = .ok (.invokestatic 259, 3) := by decide +kernel
theorem dL_law_2017 : decode cL_law 2017 = .ok (.istore 6, 2) := by decide +kernel
theorem dL_law_2019 : decode cL_law 2019 = .ok (.aload_n 2, 1) := by decide +kernel
theorem dL_law_2020 : decode cL_law 2020 = .ok (.aload_n 0, 1) := by decide +kernel
theorem dL_law_2021 : decode cL_law 2021 = .ok (.iload 5, 2) := by decide +kernel
theorem dL_law_2023 : decode cL_law 2023 = .ok (.iconst 1, 1) := by decide +kernel
theorem dL_law_2024 : decode cL_law 2024 = .ok (.iadd, 1) := by decide +kernel
theorem dL_law_2025 : decode cL_law 2025 = .ok (.iaload, 1) := by decide +kernel
theorem dL_law_2026 : decode cL_law 2026 = .ok (.i2c, 1) := by decide +kernel
theorem dL_law_2027 : decode cL_law 2027 = .ok (.invokevirtual 262, 3) := by decide +kernel
theorem dL_law_2030 : decode cL_law 2030 = .ok (.istore 7, 2) := by decide +kernel
theorem dL_law_2032 : decode cL_law 2032 = .ok (.aload_n 2, 1) := by decide +kernel
theorem dL_law_2033 : decode cL_law 2033 = .ok (.invokevirtual 157, 3) := by decide +kernel
theorem dL_law_2036 : decode cL_law 2036 = .ok (.iload 6, 2) := by decide +kernel
theorem dL_law_2038 : decode cL_law 2038 = .ok (.if_icmp .eq 5, 3) := by decide +kernel
theorem dL_law_2041 : decode cL_law 2041 = .ok (.iconst 0, 1) := by decide +kernel
theorem dL_law_2042 : decode cL_law 2042 = .ok (.ireturn, 1) := by decide +kernel
theorem dL_law_2043 : decode cL_law 2043 = .ok (.iload 6, 2) := by decide +kernel
theorem dL_law_2045 : decode cL_law 2045 = .ok (.ifCond .ne 15, 3) := by decide +kernel
theorem dL_law_2048 : decode cL_law 2048 = .ok (.aload_n 3, 1) := by decide +kernel
theorem dL_law_2049 : decode cL_law 2049 = .ok (.iconst 0, 1) := by decide +kernel
theorem dL_law_2050 : decode cL_law 2050 = .ok (.laload, 1) := by decide +kernel
theorem dL_law_2051 : decode cL_law 2051 = .ok (.iload 7, 2) := by decide +kernel
theorem dL_law_2053 : decode cL_law 2053 = .ok (.i2l, 1) := by decide +kernel
theorem dL_law_2054 : decode cL_law 2054 = .ok (.lcmp, 1) := by decide +kernel
theorem dL_law_2055 : decode cL_law 2055 = .ok (.ifCond .eq 5, 3) := by decide +kernel
theorem dL_law_2058 : decode cL_law 2058 = .ok (.iconst 0, 1) := by decide +kernel
theorem dL_law_2059 : decode cL_law 2059 = .ok (.ireturn, 1) := by decide +kernel
theorem dL_law_2060 : decode cL_law 2060 = .ok (.goto 560, 3) := by decide +kernel
theorem dL_law_2063 : decode cL_law 2063 = .ok (.aload_n 1, 1) := by decide +kernel
theorem dL_law_2064 : decode cL_law 2064 = .ok (.aload_n 3, 1) := by decide +kernel
theorem dL_law_2065 : decode cL_law 2065 = .ok (.invokestatic 263, 3) := by decide +kernel
theorem dL_law_2068 : decode cL_law 2068 = .ok (.istore 6, 2) := by decide +kernel
theorem dL_law_2070 : decode cL_law 2070 = .ok (.aload_n 2, 1) := by decide +kernel
theorem dL_law_2071 : decode cL_law 2071 = .ok (.invokevirtual 265, 3) := by decide +kernel
theorem dL_law_2074 : decode cL_law 2074 = .ok (.istore 7, 2) := by decide +kernel
theorem dL_law_2076 : decode cL_law 2076 = .ok (.aload_n 2, 1) := by decide +kernel
theorem dL_law_2077 : decode cL_law 2077 = .ok (.invokevirtual 157, 3) := by decide +kernel
theorem dL_law_2080 : decode cL_law 2080 = .ok (.iload 6, 2) := by decide +kernel
theorem dL_law_2082 : decode cL_law 2082 = .ok (.if_icmp .eq 5, 3) := by decide +kernel
theorem dL_law_2085 : decode cL_law 2085 = .ok (.iconst 0, 1) := by decide +kernel
theorem dL_law_2086 : decode cL_law 2086 = .ok (.ireturn, 1) := by decide +kernel
theorem dL_law_2087 : decode cL_law 2087 = .ok (.iload 6, 2) := by decide +kernel
theorem dL_law_2089 : decode cL_law 2089 = .ok (.ifCond .ne 15, 3) := by decide +kernel
theorem dL_law_2092 : decode cL_law 2092 = .ok (.aload_n 3, 1) := by decide +kernel
theorem dL_law_2093 : decode cL_law 2093 = .ok (.iconst 0, 1) := by decide +kernel
theorem dL_law_2094 : decode cL_law 2094 = .ok (.laload, 1) := by decide +kernel
theorem dL_law_2095 : decode cL_law 2095 = .ok (.iload 7, 2) := by decide +kernel
theorem dL_law_2097 : decode cL_law 2097 = .ok (.i2l, 1) := by decide +kernel
theorem dL_law_2098 : decode cL_law 2098 = .ok (.lcmp, 1) := by decide +kernel
theorem dL_law_2099 : decode cL_law 2099 = .ok (.ifCond .eq 5, 3) := by decide +kernel
theorem dL_law_2102 : decode cL_law 2102 = .ok (.iconst 0, 1) := by decide +kernel
theorem dL_law_2103 : decode cL_law 2103 = .ok (.ireturn, 1) := by decide +kernel
theorem dL_law_2104 : decode cL_law 2104 = .ok (.goto 516, 3) := by decide +kernel
theorem dL_law_2107 : decode cL_law 2107 = .ok (.aload_n 1, 1) := by decide +kernel
theorem dL_law_2108 : decode cL_law 2108 = .ok (.aload_n 3, 1) := by decide +kernel
theorem dL_law_2109 : decode cL_law 2109 = .ok (.invokestatic 266, 3) := by decide +kernel
theorem dL_law_2112 : decode cL_law 2112 = .ok (.istore 6, 2) := by decide +kernel
theorem dL_law_2114 : decode cL_law 2114 = .ok (.aload_n 2, 1) := by decide +kernel
theorem dL_law_2115 : decode cL_law 2115 = .ok (.invokevirtual 268, 3) := by decide +kernel
theorem dL_law_2118 : decode cL_law 2118 = .ok (.istore 7, 2) := by decide +kernel
theorem dL_law_2120 : decode cL_law 2120 = .ok (.aload_n 2, 1) := by decide +kernel
theorem dL_law_2121 : decode cL_law 2121 = .ok (.invokevirtual 157, 3) := by decide +kernel
theorem dL_law_2124 : decode cL_law 2124 = .ok (.iload 6, 2) := by decide +kernel
theorem dL_law_2126 : decode cL_law 2126 = .ok (.if_icmp .eq 5, 3) := by decide +kernel
theorem dL_law_2129 : decode cL_law 2129 = .ok (.iconst 0, 1) := by decide +kernel
theorem dL_law_2130 : decode cL_law 2130 = .ok (.ireturn, 1) := by decide +kernel
theorem dL_law_2131 : decode cL_law 2131 = .ok (.iload 6, 2) := by decide +kernel
theorem dL_law_2133 : decode cL_law 2133 = .ok (.ifCond .ne 15, 3) := by decide +kernel
theorem dL_law_2136 : decode cL_law 2136 = .ok (.aload_n 3, 1) := by decide +kernel
theorem dL_law_2137 : decode cL_law 2137 = .ok (.iconst 0, 1) := by decide +kernel
theorem dL_law_2138 : decode cL_law 2138 = .ok (.laload, 1) := by decide +kernel
theorem dL_law_2139 : decode cL_law 2139 = .ok (.iload 7, 2) := by decide +kernel
theorem dL_law_2141 : decode cL_law 2141 = .ok (.i2l, 1) := by decide +kernel
theorem dL_law_2142 : decode cL_law 2142 = .ok (.lcmp, 1) := by decide +kernel
theorem dL_law_2143 : decode cL_law 2143 = .ok (.ifCond .eq 5, 3) := by decide +kernel
theorem dL_law_2146 : decode cL_law 2146 = .ok (.iconst 0, 1) := by decide +kernel
theorem dL_law_2147 : decode cL_law 2147 = .ok (.ireturn, 1) := by decide +kernel
theorem dL_law_2148 : decode cL_law 2148 = .ok (.goto 472, 3) := by decide +kernel
theorem dL_law_2151 : decode cL_law 2151 = .ok (.aload_n 1, 1) := by decide +kernel
theorem dL_law_2152 : decode cL_law 2152 = .ok (.aload_n 3, 1) := by decide +kernel
theorem dL_law_2153 : decode cL_law 2153 = .ok (.invokestatic 269, 3) := by decide +kernel
theorem dL_law_2156 : decode cL_law 2156 = .ok (.istore 6, 2) := by decide +kernel
theorem dL_law_2158 : decode cL_law 2158 = .ok (.aload_n 2, 1) := by decide +kernel
theorem dL_law_2159 : decode cL_law 2159 = .ok (.invokevirtual 271, 3) := by decide +kernel
theorem dL_law_2162 : decode cL_law 2162 = .ok (.istore 7, 2) := by decide +kernel
theorem dL_law_2164 : decode cL_law 2164 = .ok (.aload_n 2, 1) := by decide +kernel
theorem dL_law_2165 : decode cL_law 2165 = .ok (.invokevirtual 157, 3) := by decide +kernel
theorem dL_law_2168 : decode cL_law 2168 = .ok (.iload 6, 2) := by decide +kernel
theorem dL_law_2170 : decode cL_law 2170 = .ok (.if_icmp .eq 5, 3) := by decide +kernel
theorem dL_law_2173 : decode cL_law 2173 = .ok (.iconst 0, 1) := by decide +kernel
theorem dL_law_2174 : decode cL_law 2174 = .ok (.ireturn, 1) := by decide +kernel
theorem dL_law_2175 : decode cL_law 2175 = .ok (.iload 6, 2) := by decide +kernel
theorem dL_law_2177 : decode cL_law 2177 = .ok (.ifCond .ne 15, 3) := by decide +kernel
theorem dL_law_2180 : decode cL_law 2180 = .ok (.aload_n 3, 1) := by decide +kernel
theorem dL_law_2181 : decode cL_law 2181 = .ok (.iconst 0, 1) := by decide +kernel
theorem dL_law_2182 : decode cL_law 2182 = .ok (.laload, 1) := by decide +kernel
theorem dL_law_2183 : decode cL_law 2183 = .ok (.iload 7, 2) := by decide +kernel
theorem dL_law_2185 : decode cL_law 2185 = .ok (.i2l, 1) := by decide +kernel
theorem dL_law_2186 : decode cL_law 2186 = .ok (.lcmp, 1) := by decide +kernel
theorem dL_law_2187 : decode cL_law 2187 = .ok (.ifCond .eq 5, 3) := by decide +kernel
theorem dL_law_2190 : decode cL_law 2190 = .ok (.iconst 0, 1) := by decide +kernel
theorem dL_law_2191 : decode cL_law 2191 = .ok (.ireturn, 1) := by decide +kernel
theorem dL_law_2192 : decode cL_law 2192 = .ok (.goto 428, 3) := by decide +kernel
theorem dL_law_2195 : decode cL_law 2195 = .ok (.aload_n 1, 1) := by decide +kernel
theorem dL_law_2196 : decode cL_law 2196 = .ok (.aload_n 0, 1) := by decide +kernel
theorem dL_law_2197 : decode cL_law 2197 = .ok (.iload 5, 2) := by decide +kernel
theorem dL_law_2199 : decode cL_law 2199 = .ok (.iconst 1, 1) := by decide +kernel
theorem dL_law_2200 : decode cL_law 2200 = .ok (.iadd, 1) := by decide +kernel
theorem dL_law_2201 : decode cL_law 2201 = .ok (.iaload, 1) := by decide +kernel
theorem dL_law_2202 : decode cL_law 2202 = .ok (.aload_n 3, 1) := by decide +kernel
theorem dL_law_2203 : decode cL_law 2203 = .ok (.invokestatic 272, 3) := by decide +kernel
theorem dL_law_2206 : decode cL_law 2206 = .ok (.istore 6, 2) := by decide +kernel
theorem dL_law_2208 : decode cL_law 2208 = .ok (.aload_n 2, 1) := by decide +kernel
theorem dL_law_2209 : decode cL_law 2209 = .ok (.aload_n 0, 1) := by decide +kernel
theorem dL_law_2210 : decode cL_law 2210 = .ok (.iload 5, 2) := by decide +kernel
theorem dL_law_2212 : decode cL_law 2212 = .ok (.iconst 1, 1) := by decide +kernel
theorem dL_law_2213 : decode cL_law 2213 = .ok (.iadd, 1) := by decide +kernel
theorem dL_law_2214 : decode cL_law 2214 = .ok (.iaload, 1) := by decide +kernel
theorem dL_law_2215 : decode cL_law 2215 = .ok (.invokevirtual 274, 3) := by decide +kernel
theorem dL_law_2218 : decode cL_law 2218 = .ok (.istore 7, 2) := by decide +kernel
theorem dL_law_2220 : decode cL_law 2220 = .ok (.aload_n 2, 1) := by decide +kernel
theorem dL_law_2221 : decode cL_law 2221 = .ok (.invokevirtual 157, 3) := by decide +kernel
theorem dL_law_2224 : decode cL_law 2224 = .ok (.iload 6, 2) := by decide +kernel
theorem dL_law_2226 : decode cL_law 2226 = .ok (.if_icmp .eq 5, 3) := by decide +kernel
theorem dL_law_2229 : decode cL_law 2229 = .ok (.iconst 0, 1) := by decide +kernel
theorem dL_law_2230 : decode cL_law 2230 = .ok (.ireturn, 1) := by decide +kernel
theorem dL_law_2231 : decode cL_law 2231 = .ok (.iload 6, 2) := by decide +kernel
theorem dL_law_2233 : decode cL_law 2233 = .ok (.ifCond .ne 15, 3) := by decide +kernel
theorem dL_law_2236 : decode cL_law 2236 = .ok (.aload_n 3, 1) := by decide +kernel
theorem dL_law_2237 : decode cL_law 2237 = .ok (.iconst 0, 1) := by decide +kernel
theorem dL_law_2238 : decode cL_law 2238 = .ok (.laload, 1) := by decide +kernel
theorem dL_law_2239 : decode cL_law 2239 = .ok (.iload 7, 2) := by decide +kernel
theorem dL_law_2241 : decode cL_law 2241 = .ok (.i2l, 1) := by decide +kernel
theorem dL_law_2242 : decode cL_law 2242 = .ok (.lcmp, 1) := by decide +kernel
theorem dL_law_2243 : decode cL_law 2243 = .ok (.ifCond .eq 5, 3) := by decide +kernel
theorem dL_law_2246 : decode cL_law 2246 = .ok (.iconst 0, 1) := by decide +kernel
theorem dL_law_2247 : decode cL_law 2247 = .ok (.ireturn, 1) := by decide +kernel
theorem dL_law_2248 : decode cL_law 2248 = .ok (.goto 372, 3) := by decide +kernel
theorem dL_law_2251 : decode cL_law 2251 = .ok (.aload_n 1, 1) := by decide +kernel
theorem dL_law_2252 : decode cL_law 2252 = .ok (.aload_n 0, 1) := by decide +kernel
theorem dL_law_2253 : decode cL_law 2253 = .ok (.iload 5, 2) := by decide +kernel
theorem dL_law_2255 : decode cL_law 2255 = .ok (.iconst 1, 1) := by decide +kernel
theorem dL_law_2256 : decode cL_law 2256 = .ok (.iadd, 1) := by decide +kernel
theorem dL_law_2257 : decode cL_law 2257 = .ok (.iaload, 1) := by decide +kernel
theorem dL_law_2258 : decode cL_law 2258 = .ok (.aload_n 3, 1) := by decide +kernel
theorem dL_law_2259 : decode cL_law 2259 = .ok (.invokestatic 275, 3) := by decide +kernel
theorem dL_law_2262 : decode cL_law 2262 = .ok (.istore 6, 2) := by decide +kernel
theorem dL_law_2264 : decode cL_law 2264 = .ok (.aload_n 2, 1) := by decide +kernel
theorem dL_law_2265 : decode cL_law 2265 = .ok (.aload_n 0, 1) := by decide +kernel
theorem dL_law_2266 : decode cL_law 2266 = .ok (.iload 5, 2) := by decide +kernel
theorem dL_law_2268 : decode cL_law 2268 = .ok (.iconst 1, 1) := by decide +kernel
theorem dL_law_2269 : decode cL_law 2269 = .ok (.iadd, 1) := by decide +kernel
theorem dL_law_2270 : decode cL_law 2270 = .ok (.iaload, 1) := by decide +kernel
theorem dL_law_2271 : decode cL_law 2271 = .ok (.invokevirtual 277, 3) := by decide +kernel
theorem dL_law_2274 : decode cL_law 2274 = .ok (.istore 7, 2) := by decide +kernel
theorem dL_law_2276 : decode cL_law 2276 = .ok (.aload_n 2, 1) := by decide +kernel
theorem dL_law_2277 : decode cL_law 2277 = .ok (.invokevirtual 157, 3) := by decide +kernel
theorem dL_law_2280 : decode cL_law 2280 = .ok (.iload 6, 2) := by decide +kernel
theorem dL_law_2282 : decode cL_law 2282 = .ok (.if_icmp .eq 5, 3) := by decide +kernel
theorem dL_law_2285 : decode cL_law 2285 = .ok (.iconst 0, 1) := by decide +kernel
theorem dL_law_2286 : decode cL_law 2286 = .ok (.ireturn, 1) := by decide +kernel
theorem dL_law_2287 : decode cL_law 2287 = .ok (.iload 6, 2) := by decide +kernel
theorem dL_law_2289 : decode cL_law 2289 = .ok (.ifCond .ne 15, 3) := by decide +kernel
theorem dL_law_2292 : decode cL_law 2292 = .ok (.aload_n 3, 1) := by decide +kernel
theorem dL_law_2293 : decode cL_law 2293 = .ok (.iconst 0, 1) := by decide +kernel
theorem dL_law_2294 : decode cL_law 2294 = .ok (.laload, 1) := by decide +kernel
theorem dL_law_2295 : decode cL_law 2295 = .ok (.iload 7, 2) := by decide +kernel
theorem dL_law_2297 : decode cL_law 2297 = .ok (.i2l, 1) := by decide +kernel
theorem dL_law_2298 : decode cL_law 2298 = .ok (.lcmp, 1) := by decide +kernel
theorem dL_law_2299 : decode cL_law 2299 = .ok (.ifCond .eq 5, 3) := by decide +kernel
theorem dL_law_2302 : decode cL_law 2302 = .ok (.iconst 0, 1) := by decide +kernel
theorem dL_law_2303 : decode cL_law 2303 = .ok (.ireturn, 1) := by decide +kernel
theorem dL_law_2304 : decode cL_law 2304 = .ok (.goto 316, 3) := by decide +kernel
theorem dL_law_2307 : decode cL_law 2307 = .ok (.aload_n 1, 1) := by decide +kernel
theorem dL_law_2308 : decode cL_law 2308 = .ok (.aload_n 0, 1) := by decide +kernel
theorem dL_law_2309 : decode cL_law 2309 = .ok (.iload 5, 2) := by decide +kernel
theorem dL_law_2311 : decode cL_law 2311 = .ok (.iconst 1, 1) := by decide +kernel
theorem dL_law_2312 : decode cL_law 2312 = .ok (.iadd, 1) := by decide +kernel
theorem dL_law_2313 : decode cL_law 2313 = .ok (.iaload, 1) := by decide +kernel
theorem dL_law_2314 : decode cL_law 2314 = .ok (.aload_n 3, 1) := by decide +kernel
theorem dL_law_2315 : decode cL_law 2315 = .ok (.invokestatic 278, 3) := by decide +kernel
theorem dL_law_2318 : decode cL_law 2318 = .ok (.istore 6, 2) := by decide +kernel
theorem dL_law_2320 : decode cL_law 2320 = .ok (.aload_n 2, 1) := by decide +kernel
theorem dL_law_2321 : decode cL_law 2321 = .ok (.aload_n 0, 1) := by decide +kernel
theorem dL_law_2322 : decode cL_law 2322 = .ok (.iload 5, 2) := by decide +kernel
theorem dL_law_2324 : decode cL_law 2324 = .ok (.iconst 1, 1) := by decide +kernel
theorem dL_law_2325 : decode cL_law 2325 = .ok (.iadd, 1) := by decide +kernel
theorem dL_law_2326 : decode cL_law 2326 = .ok (.iaload, 1) := by decide +kernel
theorem dL_law_2327 : decode cL_law 2327 = .ok (.invokevirtual 280, 3) := by decide +kernel
theorem dL_law_2330 : decode cL_law 2330 = .ok (.istore 7, 2) := by decide +kernel
theorem dL_law_2332 : decode cL_law 2332 = .ok (.aload_n 2, 1) := by decide +kernel
theorem dL_law_2333 : decode cL_law 2333 = .ok (.invokevirtual 157, 3) := by decide +kernel
theorem dL_law_2336 : decode cL_law 2336 = .ok (.iload 6, 2) := by decide +kernel
theorem dL_law_2338 : decode cL_law 2338 = .ok (.if_icmp .eq 5, 3) := by decide +kernel
theorem dL_law_2341 : decode cL_law 2341 = .ok (.iconst 0, 1) := by decide +kernel
theorem dL_law_2342 : decode cL_law 2342 = .ok (.ireturn, 1) := by decide +kernel
theorem dL_law_2343 : decode cL_law 2343 = .ok (.iload 6, 2) := by decide +kernel
theorem dL_law_2345 : decode cL_law 2345 = .ok (.ifCond .ne 15, 3) := by decide +kernel
theorem dL_law_2348 : decode cL_law 2348 = .ok (.aload_n 3, 1) := by decide +kernel
theorem dL_law_2349 : decode cL_law 2349 = .ok (.iconst 0, 1) := by decide +kernel
theorem dL_law_2350 : decode cL_law 2350 = .ok (.laload, 1) := by decide +kernel
theorem dL_law_2351 : decode cL_law 2351 = .ok (.iload 7, 2) := by decide +kernel
theorem dL_law_2353 : decode cL_law 2353 = .ok (.i2l, 1) := by decide +kernel
theorem dL_law_2354 : decode cL_law 2354 = .ok (.lcmp, 1) := by decide +kernel
theorem dL_law_2355 : decode cL_law 2355 = .ok (.ifCond .eq 5, 3) := by decide +kernel
theorem dL_law_2358 : decode cL_law 2358 = .ok (.iconst 0, 1) := by decide +kernel
theorem dL_law_2359 : decode cL_law 2359 = .ok (.ireturn, 1) := by decide +kernel
theorem dL_law_2360 : decode cL_law 2360 = .ok (.goto 260, 3) := by decide +kernel
theorem dL_law_2363 : decode cL_law 2363 = .ok (.aload_n 1, 1) := by decide +kernel
theorem dL_law_2364 : decode cL_law 2364 = .ok (.aload 4, 2) := by decide +kernel
theorem dL_law_2366 : decode cL_law 2366 = .ok (.invokestatic 281, 3) := by decide +kernel
theorem dL_law_2369 : decode cL_law 2369 = .ok (.istore 6, 2) := by decide +kernel
theorem dL_law_2371 : decode cL_law 2371 = .ok (.aload_n 2, 1) := by decide +kernel
theorem dL_law_2372 : decode cL_law 2372 = .ok (.invokevirtual 284, 3) := by decide +kernel
theorem dL_law_2375 : decode cL_law 2375 = .ok (.dstore 7, 2) := by decide +kernel
theorem dL_law_2377 : decode cL_law 2377 = .ok (.aload_n 2, 1) := by decide +kernel
theorem dL_law_2378 : decode cL_law 2378 = .ok (.invokevirtual 157, 3) := by decide +kernel
theorem dL_law_2381 : decode cL_law 2381 = .ok (.iload 6, 2) := by decide +kernel
theorem dL_law_2383 : decode cL_law 2383 = .ok (.if_icmp .eq 5, 3) := by decide +kernel
theorem dL_law_2386 : decode cL_law 2386 = .ok (.iconst 0, 1) := by decide +kernel
theorem dL_law_2387 : decode cL_law 2387 = .ok (.ireturn, 1) := by decide +kernel
theorem dL_law_2388 : decode cL_law 2388 = .ok (.iload 6, 2) := by decide +kernel
theorem dL_law_2390 : decode cL_law 2390 = .ok (.ifCond .ne 35, 3) := by decide +kernel
theorem dL_law_2393 : decode cL_law 2393 = .ok (.aload 4, 2) := by decide +kernel
theorem dL_law_2395 : decode cL_law 2395 = .ok (.iconst 0, 1) := by decide +kernel
theorem dL_law_2396 : decode cL_law 2396 = .ok (.daload, 1) := by decide +kernel
theorem dL_law_2397 : decode cL_law 2397 = .ok (.dload 7, 2) := by decide +kernel
theorem dL_law_2399 : decode cL_law 2399 = .ok (.dcmp .l, 1) := by decide +kernel
theorem dL_law_2400 : decode cL_law 2400 = .ok (.ifCond .eq 25, 3) := by decide +kernel
theorem dL_law_2403 : decode cL_law 2403 = .ok (.aload 4, 2) := by decide +kernel
theorem dL_law_2405 : decode cL_law 2405 = .ok (.iconst 0, 1) := by decide +kernel
theorem dL_law_2406 : decode cL_law 2406 = .ok (.daload, 1) := by decide +kernel
theorem dL_law_2407 : decode cL_law 2407 = .ok (.aload 4, 2) := by decide +kernel
theorem dL_law_2409 : decode cL_law 2409 = .ok (.iconst 0, 1) := by decide +kernel
theorem dL_law_2410 : decode cL_law 2410 = .ok (.daload, 1) := by decide +kernel
theorem dL_law_2411 : decode cL_law 2411 = .ok (.dcmp .l, 1) := by decide +kernel
theorem dL_law_2412 : decode cL_law 2412 = .ok (.ifCond .eq 11, 3) := by decide +kernel
theorem dL_law_2415 : decode cL_law 2415 = .ok (.dload 7, 2) := by decide +kernel
theorem dL_law_2417 : decode cL_law 2417 = .ok (.dload 7, 2) := by decide +kernel
theorem dL_law_2419 : decode cL_law 2419 = .ok (.dcmp .l, 1) := by decide +kernel
theorem dL_law_2420 : decode cL_law 2420 = .ok (.ifCond .ne 5, 3) := by decide +kernel
theorem dL_law_2423 : decode cL_law 2423 = .ok (.iconst 0, 1) := by decide +kernel
theorem dL_law_2424 : decode cL_law 2424 = .ok (.ireturn, 1) := by decide +kernel
theorem dL_law_2425 : decode cL_law 2425 = .ok (.goto 195, 3) := by decide +kernel
theorem dL_law_2428 : decode cL_law 2428 = .ok (.aload_n 1, 1) := by decide +kernel
theorem dL_law_2429 : decode cL_law 2429 = .ok (.aload_n 0, 1) := by decide +kernel
theorem dL_law_2430 : decode cL_law 2430 = .ok (.iload 5, 2) := by decide +kernel
theorem dL_law_2432 : decode cL_law 2432 = .ok (.iconst 1, 1) := by decide +kernel
theorem dL_law_2433 : decode cL_law 2433 = .ok (.iadd, 1) := by decide +kernel
theorem dL_law_2434 : decode cL_law 2434 = .ok (.iaload, 1) := by decide +kernel
theorem dL_law_2435 : decode cL_law 2435 = .ok (.aload 4, 2) := by decide +kernel
theorem dL_law_2437 : decode cL_law 2437 = .ok (.invokestatic 285, 3) := by decide +kernel
theorem dL_law_2440 : decode cL_law 2440 = .ok (.istore 6, 2) := by decide +kernel
theorem dL_law_2442 : decode cL_law 2442 = .ok (.aload_n 2, 1) := by decide +kernel
theorem dL_law_2443 : decode cL_law 2443 = .ok (.aload_n 0, 1) := by decide +kernel
theorem dL_law_2444 : decode cL_law 2444 = .ok (.iload 5, 2) := by decide +kernel
theorem dL_law_2446 : decode cL_law 2446 = .ok (.iconst 1, 1) := by decide +kernel
theorem dL_law_2447 : decode cL_law 2447 = .ok (.iadd, 1) := by decide +kernel
theorem dL_law_2448 : decode cL_law 2448 = .ok (.iaload, 1) := by decide +kernel
theorem dL_law_2449 : decode cL_law 2449 = .ok (.invokevirtual 288, 3) := by decide +kernel
theorem dL_law_2452 : decode cL_law 2452 = .ok (.fstore 7, 2) := by decide +kernel
theorem dL_law_2454 : decode cL_law 2454 = .ok (.aload_n 2, 1) := by decide +kernel
theorem dL_law_2455 : decode cL_law 2455 = .ok (.invokevirtual 157, 3) := by decide +kernel
theorem dL_law_2458 : decode cL_law 2458 = .ok (.iload 6, 2) := by decide +kernel
theorem dL_law_2460 : decode cL_law 2460 = .ok (.if_icmp .eq 5, 3) := by decide +kernel
theorem dL_law_2463 : decode cL_law 2463 = .ok (.iconst 0, 1) := by decide +kernel
theorem dL_law_2464 : decode cL_law 2464 = .ok (.ireturn, 1) := by decide +kernel
theorem dL_law_2465 : decode cL_law 2465 = .ok (.iload 6, 2) := by decide +kernel
theorem dL_law_2467 : decode cL_law 2467 = .ok (.ifCond .ne 36, 3) := by decide +kernel
theorem dL_law_2470 : decode cL_law 2470 = .ok (.aload 4, 2) := by decide +kernel
theorem dL_law_2472 : decode cL_law 2472 = .ok (.iconst 0, 1) := by decide +kernel
theorem dL_law_2473 : decode cL_law 2473 = .ok (.daload, 1) := by decide +kernel
theorem dL_law_2474 : decode cL_law 2474 = .ok (.fload 7, 2) := by decide +kernel
theorem dL_law_2476 : decode cL_law 2476 = .ok (.f2d, 1) := by decide +kernel
theorem dL_law_2477 : decode cL_law 2477 = .ok (.dcmp .l, 1) := by decide +kernel
theorem dL_law_2478 : decode cL_law 2478 = .ok (.ifCond .eq 25, 3) := by decide +kernel
theorem dL_law_2481 : decode cL_law 2481 = .ok (.aload 4, 2) := by decide +kernel
theorem dL_law_2483 : decode cL_law 2483 = .ok (.iconst 0, 1) := by decide +kernel
theorem dL_law_2484 : decode cL_law 2484 = .ok (.daload, 1) := by decide +kernel
theorem dL_law_2485 : decode cL_law 2485 = .ok (.aload 4, 2) := by decide +kernel
theorem dL_law_2487 : decode cL_law 2487 = .ok (.iconst 0, 1) := by decide +kernel
theorem dL_law_2488 : decode cL_law 2488 = .ok (.daload, 1) := by decide +kernel
theorem dL_law_2489 : decode cL_law 2489 = .ok (.dcmp .l, 1) := by decide +kernel
theorem dL_law_2490 : decode cL_law 2490 = .ok (.ifCond .eq 11, 3) := by decide +kernel
theorem dL_law_2493 : decode cL_law 2493 = .ok (.fload 7, 2) := by decide +kernel
theorem dL_law_2495 : decode cL_law 2495 = .ok (.fload 7, 2) := by decide +kernel
theorem dL_law_2497 : decode cL_law 2497 = .ok (.fcmp .l, 1) := by decide +kernel
theorem dL_law_2498 : decode cL_law 2498 = .ok (.ifCond .ne 5, 3) := by decide +kernel
theorem dL_law_2501 : decode cL_law 2501 = .ok (.iconst 0, 1) := by decide +kernel
theorem dL_law_2502 : decode cL_law 2502 = .ok (.ireturn, 1) := by decide +kernel
theorem dL_law_2503 : decode cL_law 2503 = .ok (.goto 117, 3) := by decide +kernel
theorem dL_law_2506 : decode cL_law 2506 = .ok (.aload_n 1, 1) := by decide +kernel
theorem dL_law_2507 : decode cL_law 2507 = .ok (.invokevirtual 289, 3) := by decide +kernel
theorem dL_law_2510 : decode cL_law 2510 = .ok (.aload_n 2, 1) := by decide +kernel
theorem dL_law_2511 : decode cL_law 2511 = .ok (.invokevirtual 293, 3) := by decide +kernel
theorem dL_law_2514 : decode cL_law 2514 = .ok (.if_icmp .eq 106, 3) := by decide +kernel
theorem dL_law_2517 : decode cL_law 2517 = .ok (.iconst 0, 1) := by decide +kernel
theorem dL_law_2518 : decode cL_law 2518 = .ok (.ireturn, 1) := by decide +kernel
theorem dL_law_2519 : decode cL_law 2519 = .ok (.aload_n 1, 1) := by decide +kernel
theorem dL_law_2520 : decode cL_law 2520 = .ok (.aload_n 3, 1) := by decide +kernel
theorem dL_law_2521 : decode cL_law 2521 = .ok (.invokestatic 294, 3) := by decide +kernel
theorem dL_law_2524 : decode cL_law 2524 = .ok (.istore 6, 2) := by decide +kernel
theorem dL_law_2526 : decode cL_law 2526 = .ok (.aload_n 2, 1) := by decide +kernel
theorem dL_law_2527 : decode cL_law 2527 = .ok (.invokevirtual 296, 3) := by decide +kernel
theorem dL_law_2530 : decode cL_law 2530 = .ok (.istore 7, 2) := by decide +kernel
theorem dL_law_2532 : decode cL_law 2532 = .ok (.aload_n 2, 1) := by decide +kernel
theorem dL_law_2533 : decode cL_law 2533 = .ok (.invokevirtual 157, 3) := by decide +kernel
theorem dL_law_2536 : decode cL_law 2536 = .ok (.iload 6, 2) := by decide +kernel
theorem dL_law_2538 : decode cL_law 2538 = .ok (.if_icmp .eq 5, 3) := by decide +kernel
theorem dL_law_2541 : decode cL_law 2541 = .ok (.iconst 0, 1) := by decide +kernel
theorem dL_law_2542 : decode cL_law 2542 = .ok (.ireturn, 1) := by decide +kernel
theorem dL_law_2543 : decode cL_law 2543 = .ok (.iload 6, 2) := by decide +kernel
theorem dL_law_2545 : decode cL_law 2545 = .ok (.ifCond .ne 15, 3) := by decide +kernel
theorem dL_law_2548 : decode cL_law 2548 = .ok (.aload_n 3, 1) := by decide +kernel
theorem dL_law_2549 : decode cL_law 2549 = .ok (.iconst 0, 1) := by decide +kernel
theorem dL_law_2550 : decode cL_law 2550 = .ok (.laload, 1) := by decide +kernel
theorem dL_law_2551 : decode cL_law 2551 = .ok (.iload 7, 2) := by decide +kernel
theorem dL_law_2553 : decode cL_law 2553 = .ok (.i2l, 1) := by decide +kernel
theorem dL_law_2554 : decode cL_law 2554 = .ok (.lcmp, 1) := by decide +kernel
theorem dL_law_2555 : decode cL_law 2555 = .ok (.ifCond .eq 5, 3) := by decide +kernel
theorem dL_law_2558 : decode cL_law 2558 = .ok (.iconst 0, 1) := by decide +kernel
theorem dL_law_2559 : decode cL_law 2559 = .ok (.ireturn, 1) := by decide +kernel
theorem dL_law_2560 : decode cL_law 2560 = .ok (.goto 60, 3) := by decide +kernel
theorem dL_law_2563 : decode cL_law 2563 = .ok (.aload_n 1, 1) := by decide +kernel
theorem dL_law_2564 : decode cL_law 2564 = .ok (.invokevirtual 297, 3) := by decide +kernel
theorem dL_law_2567 : decode cL_law 2567 = .ok (.aload_n 2, 1) := by decide +kernel
theorem dL_law_2568 : decode cL_law 2568 = .ok (.invokevirtual 300, 3) := by decide +kernel
theorem dL_law_2571 : decode cL_law 2571 = .ok (.if_icmp .eq 49, 3) := by decide +kernel
theorem dL_law_2574 : decode cL_law 2574 = .ok (.iconst 0, 1) := by decide +kernel
theorem dL_law_2575 : decode cL_law 2575 = .ok (.ireturn, 1) := by decide +kernel
theorem dL_law_2576 : decode cL_law 2576 = .ok (.aload_n 1, 1) := by decide +kernel
theorem dL_law_2577 : decode cL_law 2577 = .ok (.aload_n 3, 1) := by decide +kernel
theorem dL_law_2578 : decode cL_law 2578 = .ok (.invokestatic 301, 3) := by decide +kernel
theorem dL_law_2581 : decode cL_law 2581 = .ok (.istore 6, 2) := by decide +kernel
theorem dL_law_2583 : decode cL_law 2583 = .ok (.aload_n 2, 1) := by decide +kernel
theorem dL_law_2584 : decode cL_law 2584 = .ok (.invokevirtual 303, 3) := by decide +kernel
theorem dL_law_2587 : decode cL_law 2587 = .ok (.istore 7, 2) := by decide +kernel
theorem dL_law_2589 : decode cL_law 2589 = .ok (.aload_n 2, 1) := by decide +kernel
theorem dL_law_2590 : decode cL_law 2590 = .ok (.invokevirtual 157, 3) := by decide +kernel
theorem dL_law_2593 : decode cL_law 2593 = .ok (.iload 6, 2) := by decide +kernel
theorem dL_law_2595 : decode cL_law 2595 = .ok (.if_icmp .eq 5, 3) := by decide +kernel
theorem dL_law_2598 : decode cL_law 2598 = .ok (.iconst 0, 1) := by decide +kernel
theorem dL_law_2599 : decode cL_law 2599 = .ok (.ireturn, 1) := by decide +kernel
theorem dL_law_2600 : decode cL_law 2600 = .ok (.iload 6, 2) := by decide +kernel
theorem dL_law_2602 : decode cL_law 2602 = .ok (.ifCond .ne 15, 3) := by decide +kernel
theorem dL_law_2605 : decode cL_law 2605 = .ok (.aload_n 3, 1) := by decide +kernel
theorem dL_law_2606 : decode cL_law 2606 = .ok (.iconst 0, 1) := by decide +kernel
theorem dL_law_2607 : decode cL_law 2607 = .ok (.laload, 1) := by decide +kernel
theorem dL_law_2608 : decode cL_law 2608 = .ok (.iload 7, 2) := by decide +kernel
theorem dL_law_2610 : decode cL_law 2610 = .ok (.i2l, 1) := by decide +kernel
theorem dL_law_2611 : decode cL_law 2611 = .ok (.lcmp, 1) := by decide +kernel
theorem dL_law_2612 : decode cL_law 2612 = .ok (.ifCond .eq 5, 3) := by decide +kernel
theorem dL_law_2615 : decode cL_law 2615 = .ok (.iconst 0, 1) := by decide +kernel
theorem dL_law_2616 : decode cL_law 2616 = .ok (.ireturn, 1) := by decide +kernel
theorem dL_law_2617 : decode cL_law 2617 = .ok (.goto 3, 3) := by decide +kernel
theorem dL_law_2620 : decode cL_law 2620 = .ok (.iinc 5 5, 3) := by decide +kernel
theorem dL_law_2623 : decode cL_law 2623 = .ok (.goto (-2595), 3) := by decide +kernel
theorem dL_law_2626 : decode cL_law 2626 = .ok (.iconst 1, 1) := by decide +kernel
theorem dL_law_2627 : decode cL_law 2627 = .ok (.ireturn, 1) := by decide +kernel

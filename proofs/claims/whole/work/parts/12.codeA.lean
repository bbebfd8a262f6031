/-! ===== code as blocks ===== -/
def bJ6_bitCount_0 : List OP := [oi (.iload_n 0), oi (.iload_n 0), oi (.iconst 1), oi .iushr, (.ldc_w 265, 1431655765, 0, 0, 0, 857), oi .iand, oi .isub, oi (.istore_n 0), oi (.iload_n 0), (.ldc_w 266, 858993459, 0, 0, 0, 858), oi .iand, oi (.iload_n 0), oi (.iconst 2), oi .iushr, (.ldc_w 266, 858993459, 0, 0, 0, 858), oi .iand, oi .iadd, oi (.istore_n 0), oi (.iload_n 0), oi (.iload_n 0), oi (.iconst 4), oi .iushr, oi .iadd, (.ldc_w 267, 252645135, 0, 0, 0, 859), oi .iand, oi (.istore_n 0), oi (.iload_n 0), oi (.iload_n 0), oi (.bipush 8), oi .iushr, oi .iadd, oi (.istore_n 0), oi (.iload_n 0), oi (.iload_n 0), oi (.bipush 16), oi .iushr, oi .iadd, oi (.istore_n 0), oi (.iload_n 0), oi (.bipush 63), oi .iand]
theorem oJ6_bitCount_0 : okB mJ6_bitCount 0 bJ6_bitCount_0 = true := by decide +kernel
theorem eJ6_bitCount_52 : decode mJ6_bitCount.2.1 52 = .ok (.ireturn, 1) := by decide +kernel
def bJ13_bitCount_0 : List OP := [oi (.lload_n 0), oi (.lload_n 0), oi (.iconst 1), oi .lushr, (.ldc2_w 314, 6148914691236517205, 0, 0, 0, 800), oi .land, oi .lsub, oi (.lstore_n 0), oi (.lload_n 0), (.ldc2_w 316, 3689348814741910323, 0, 0, 0, 801), oi .land, oi (.lload_n 0), oi (.iconst 2), oi .lushr, (.ldc2_w 316, 3689348814741910323, 0, 0, 0, 801), oi .land, oi .ladd, oi (.lstore_n 0), oi (.lload_n 0), oi (.lload_n 0), oi (.iconst 4), oi .lushr, oi .ladd, (.ldc2_w 318, 1085102592571150095, 0, 0, 0, 802), oi .land, oi (.lstore_n 0), oi (.lload_n 0), oi (.lload_n 0), oi (.bipush 8), oi .lushr, oi .ladd, oi (.lstore_n 0), oi (.lload_n 0), oi (.lload_n 0), oi (.bipush 16), oi .lushr, oi .ladd, oi (.lstore_n 0), oi (.lload_n 0), oi (.lload_n 0), oi (.bipush 32), oi .lushr, oi .ladd, oi (.lstore_n 0), oi (.lload_n 0), oi .l2i, oi (.bipush 127), oi .iand]
theorem oJ13_bitCount_0 : okB mJ13_bitCount 0 bJ13_bitCount_0 = true := by decide +kernel
theorem eJ13_bitCount_60 : decode mJ13_bitCount.2.1 60 = .ok (.ireturn, 1) := by decide +kernel
def bJ9_abs_0 : List OP := [oi (.iload_n 0)]
theorem oJ9_abs_0 : okB mJ9_abs 0 bJ9_abs_0 = true := by decide +kernel
theorem eJ9_abs_1 : decode mJ9_abs.2.1 1 = .ok (.ifCond .ge 8, 3) := by decide +kernel
def bJ9_abs_4 : List OP := [oi (.iload_n 0), oi .ineg, (.goto 4, 0, 0, 10, 0, 0)]
theorem oJ9_abs_4 : okB mJ9_abs 4 bJ9_abs_4 = true := by decide +kernel
def bJ9_abs_9 : List OP := [oi (.iload_n 0)]
theorem oJ9_abs_9 : okB mJ9_abs 9 bJ9_abs_9 = true := by decide +kernel
theorem eJ9_abs_10 : decode mJ9_abs.2.1 10 = .ok (.ireturn, 1) := by decide +kernel
def bJ9_max_0 : List OP := [oi (.iload_n 0), oi (.iload_n 1)]
theorem oJ9_max_0 : okB mJ9_max 0 bJ9_max_0 = true := by decide +kernel
theorem eJ9_max_2 : decode mJ9_max.2.1 2 = .ok (.if_icmp .lt 7, 3) := by decide +kernel
def bJ9_max_5 : List OP := [oi (.iload_n 0), (.goto 4, 0, 0, 10, 0, 0)]
theorem oJ9_max_5 : okB mJ9_max 5 bJ9_max_5 = true := by decide +kernel
def bJ9_max_9 : List OP := [oi (.iload_n 1)]
theorem oJ9_max_9 : okB mJ9_max 9 bJ9_max_9 = true := by decide +kernel
theorem eJ9_max_10 : decode mJ9_max.2.1 10 = .ok (.ireturn, 1) := by decide +kernel
def bJ9_min_0 : List OP := [oi (.iload_n 0), oi (.iload_n 1)]
theorem oJ9_min_0 : okB mJ9_min 0 bJ9_min_0 = true := by decide +kernel
theorem eJ9_min_2 : decode mJ9_min.2.1 2 = .ok (.if_icmp .gt 7, 3) := by decide +kernel
def bJ9_min_5 : List OP := [oi (.iload_n 0), (.goto 4, 0, 0, 10, 0, 0)]
theorem oJ9_min_5 : okB mJ9_min 5 bJ9_min_5 = true := by decide +kernel
def bJ9_min_9 : List OP := [oi (.iload_n 1)]
theorem oJ9_min_9 : okB mJ9_min 9 bJ9_min_9 = true := by decide +kernel
theorem eJ9_min_10 : decode mJ9_min.2.1 10 = .ok (.ireturn, 1) := by decide +kernel
def bX2_bitsOf_0 : List OP := [oi (.aload_n 0), (.getfield 13, 1, 2, 1, 2, 153), oi (.iload_n 1), oi (.iconst 3), oi .imul, oi (.iload_n 2), oi .iadd, oi .iaload]
theorem oX2_bitsOf_0 : okB mX2_bitsOf 0 bX2_bitsOf_0 = true := by decide +kernel
theorem eX2_bitsOf_10 : decode mX2_bitsOf.2.1 10 = .ok (.ireturn, 1) := by decide +kernel
def bX2_changeBits_0 : List OP := [oi (.aload_n 0), (.getfield 13, 1, 2, 1, 2, 153), oi (.iload_n 1), oi (.iconst 3), oi .imul, oi (.iload_n 2), oi .iadd, oi .iaload, oi (.istore 4), oi (.aload_n 0), (.getfield 13, 1, 2, 1, 2, 153), oi (.iload_n 1), oi (.iconst 3), oi .imul, oi (.iload_n 2), oi .iadd, oi (.iload_n 3), oi .iastore, oi (.iload 4)]
theorem oX2_changeBits_0 : okB mX2_changeBits 0 bX2_changeBits_0 = true := by decide +kernel
theorem eX2_changeBits_25 : decode mX2_changeBits.2.1 25 = .ok (.ireturn, 1) := by decide +kernel
def bX2_changeLine_0 : List OP := [oi (.iload_n 1), oi (.istore 4)]
theorem oX2_changeLine_0 : okB mX2_changeLine 0 bX2_changeLine_0 = true := by decide +kernel
def bX2_changeLine_3 : List OP := [oi (.iload 4), oi (.iload_n 2)]
theorem oX2_changeLine_3 : okB mX2_changeLine 3 bX2_changeLine_3 = true := by decide +kernel
theorem eX2_changeLine_6 : decode mX2_changeLine.2.1 6 = .ok (.if_icmp .gt 17, 3) := by decide +kernel
def bX2_changeLine_9 : List OP := [oi (.aload_n 0), (.getfield 9, 0, 2, 0, 2, 150), oi (.iload 4), oi (.iload_n 3), oi .iastore, oi (.iinc 4 1), (.goto (-17), 0, 0, 3, 0, 0)]
theorem oX2_changeLine_9 : okB mX2_changeLine 9 bX2_changeLine_9 = true := by decide +kernel
theorem eX2_changeLine_23 : decode mX2_changeLine.2.1 23 = .ok (.return_, 1) := by decide +kernel
def bX2_isDoor_0 : List OP := [oi (.iload_n 1)]
theorem oX2_isDoor_0 : okB mX2_isDoor 0 bX2_isDoor_0 = true := by decide +kernel
theorem eX2_isDoor_1 : decode mX2_isDoor.2.1 1 = .ok (.ifCond .eq 15, 3) := by decide +kernel
def bX2_isDoor_4 : List OP := [oi (.aload_n 0), (.getfield 20, 3, 2, 3, 0, 158), oi (.iload_n 1), oi .ishr, oi (.iconst 1), oi .iand, oi (.iconst 1)]
theorem oX2_isDoor_4 : okB mX2_isDoor 4 bX2_isDoor_4 = true := by decide +kernel
theorem eX2_isDoor_13 : decode mX2_isDoor.2.1 13 = .ok (.if_icmp .ne 7, 3) := by decide +kernel
def bX2_isDoor_16 : List OP := [oi (.iconst 1), (.goto 4, 0, 0, 21, 0, 0)]
theorem oX2_isDoor_16 : okB mX2_isDoor 16 bX2_isDoor_16 = true := by decide +kernel
def bX2_isDoor_20 : List OP := [oi (.iconst 0)]
theorem oX2_isDoor_20 : okB mX2_isDoor 20 bX2_isDoor_20 = true := by decide +kernel
theorem eX2_isDoor_21 : decode mX2_isDoor.2.1 21 = .ok (.ireturn, 1) := by decide +kernel
def bX4_change_0 : List OP := [oi (.aload_n 0), (.getfield 9, 0, 4, 0, 2, 348), oi (.iload_n 1), oi (.bipush 6), oi .imul, oi (.iload_n 2), oi .iadd, oi .iaload, oi (.istore 4), oi (.aload_n 0), (.getfield 9, 0, 4, 0, 2, 348), oi (.iload_n 1), oi (.bipush 6), oi .imul, oi (.iload_n 2), oi .iadd, oi (.iload_n 3), oi .iastore, oi (.iload 4)]
theorem oX4_change_0 : okB mX4_change 0 bX4_change_0 = true := by decide +kernel
theorem eX4_change_27 : decode mX4_change.2.1 27 = .ok (.ireturn, 1) := by decide +kernel
def bX4_numberAt_0 : List OP := [oi (.aload_n 0), (.getfield 9, 0, 4, 0, 2, 348), oi (.iload_n 1), oi (.bipush 6), oi .imul, oi (.iload_n 2), oi .iadd, oi .iaload]
theorem oX4_numberAt_0 : okB mX4_numberAt 0 bX4_numberAt_0 = true := by decide +kernel
theorem eX4_numberAt_11 : decode mX4_numberAt.2.1 11 = .ok (.ireturn, 1) := by decide +kernel
def bX4_plainSum_0 : List OP := [oi (.iconst 0), oi (.istore_n 2), oi (.iconst 0), oi (.istore_n 3)]
theorem oX4_plainSum_0 : okB mX4_plainSum 0 bX4_plainSum_0 = true := by decide +kernel
def bX4_plainSum_4 : List OP := [oi (.iload_n 3), oi (.bipush 6)]
theorem oX4_plainSum_4 : okB mX4_plainSum 4 bX4_plainSum_4 = true := by decide +kernel
theorem eX4_plainSum_7 : decode mX4_plainSum.2.1 7 = .ok (.if_icmp .ge 18, 3) := by decide +kernel
def bX4_plainSum_10 : List OP := [oi (.iload_n 2), oi (.aload_n 0), oi (.iload_n 1), oi (.iload_n 3)]
theorem oX4_plainSum_10 : okB mX4_plainSum 10 bX4_plainSum_10 = true := by decide +kernel
theorem eX4_plainSum_14 : decode mX4_plainSum.2.1 14 = .ok (.invokevirtual 13, 3) := by decide +kernel
theorem lX4_plainSum_14 : okL 877 (.methodLink mX4_plainSum.1.cls 13 mX4_numberAt.1) = true := by decide +kernel
def bX4_plainSum_17 : List OP := [oi .iadd, oi (.istore_n 2), oi (.iinc 3 1), (.goto (-18), 0, 0, 4, 0, 0)]
theorem oX4_plainSum_17 : okB mX4_plainSum 17 bX4_plainSum_17 = true := by decide +kernel
def bX4_plainSum_25 : List OP := [oi (.iload_n 2)]
theorem oX4_plainSum_25 : okB mX4_plainSum 25 bX4_plainSum_25 = true := by decide +kernel
theorem eX4_plainSum_26 : decode mX4_plainSum.2.1 26 = .ok (.ireturn, 1) := by decide +kernel
def bX4_placeSum_0 : List OP := [oi (.iconst 0), oi (.istore_n 2), oi (.iconst 0), oi (.istore_n 3)]
theorem oX4_placeSum_0 : okB mX4_placeSum 0 bX4_placeSum_0 = true := by decide +kernel
def bX4_placeSum_4 : List OP := [oi (.iload_n 3), oi (.bipush 6)]
theorem oX4_placeSum_4 : okB mX4_placeSum 4 bX4_placeSum_4 = true := by decide +kernel
theorem eX4_placeSum_7 : decode mX4_placeSum.2.1 7 = .ok (.if_icmp .ge 22, 3) := by decide +kernel
def bX4_placeSum_10 : List OP := [oi (.iload_n 2), oi (.aload_n 0), oi (.iload_n 1), oi (.iload_n 3)]
theorem oX4_placeSum_10 : okB mX4_placeSum 10 bX4_placeSum_10 = true := by decide +kernel
theorem eX4_placeSum_14 : decode mX4_placeSum.2.1 14 = .ok (.invokevirtual 13, 3) := by decide +kernel
theorem lX4_placeSum_14 : okL 877 (.methodLink mX4_placeSum.1.cls 13 mX4_numberAt.1) = true := by decide +kernel
def bX4_placeSum_17 : List OP := [oi (.iload_n 3), oi (.iconst 1), oi .iadd, oi .imul, oi .iadd, oi (.istore_n 2), oi (.iinc 3 1), (.goto (-22), 0, 0, 4, 0, 0)]
theorem oX4_placeSum_17 : okB mX4_placeSum 17 bX4_placeSum_17 = true := by decide +kernel
def bX4_placeSum_29 : List OP := [oi (.iload_n 2)]
theorem oX4_placeSum_29 : okB mX4_placeSum 29 bX4_placeSum_29 = true := by decide +kernel
theorem eX4_placeSum_30 : decode mX4_placeSum.2.1 30 = .ok (.ireturn, 1) := by decide +kernel
def bX4_restorable_0 : List OP := [oi (.iload_n 0), oi (.bipush 63), oi .iand]
theorem oX4_restorable_0 : okB mX4_restorable 0 bX4_restorable_0 = true := by decide +kernel
theorem eX4_restorable_4 : decode mX4_restorable.2.1 4 = .ok (.invokestatic 17, 3) := by decide +kernel
theorem lX4_restorable_4 : okL 892 (.methodLink mX4_restorable.1.cls 17 mJ6_bitCount.1) = true := by decide +kernel
def bX4_restorable_7 : List OP := [oi (.istore_n 1), oi (.iconst 2), oi (.iload_n 0), oi (.bipush 6), oi .ishr, oi (.iconst 3), oi .iand]
theorem oX4_restorable_7 : okB mX4_restorable 7 bX4_restorable_7 = true := by decide +kernel
theorem eX4_restorable_15 : decode mX4_restorable.2.1 15 = .ok (.invokestatic 17, 3) := by decide +kernel
theorem lX4_restorable_15 : okL 892 (.methodLink mX4_restorable.1.cls 17 mJ6_bitCount.1) = true := by decide +kernel
def bX4_restorable_18 : List OP := [oi .isub, oi (.istore_n 2), oi (.iload_n 1), oi (.iload_n 2)]
theorem oX4_restorable_18 : okB mX4_restorable 18 bX4_restorable_18 = true := by decide +kernel
theorem eX4_restorable_22 : decode mX4_restorable.2.1 22 = .ok (.if_icmp .gt 7, 3) := by decide +kernel
def bX4_restorable_25 : List OP := [oi (.iconst 1), (.goto 4, 0, 0, 30, 0, 0)]
theorem oX4_restorable_25 : okB mX4_restorable 25 bX4_restorable_25 = true := by decide +kernel
def bX4_restorable_29 : List OP := [oi (.iconst 0)]
theorem oX4_restorable_29 : okB mX4_restorable 29 bX4_restorable_29 = true := by decide +kernel
theorem eX4_restorable_30 : decode mX4_restorable.2.1 30 = .ok (.ireturn, 1) := by decide +kernel
def bX5_change_0 : List OP := [oi (.aload_n 0), (.getfield 11, 0, 5, 0, 2, 338), oi (.iload_n 1), oi .iaload, oi (.istore_n 3), oi (.aload_n 0), (.getfield 11, 0, 5, 0, 2, 338), oi (.iload_n 1), oi (.iload_n 2), oi .iastore, oi (.iload_n 3)]
theorem oX5_change_0 : okB mX5_change 0 bX5_change_0 = true := by decide +kernel
theorem eX5_change_15 : decode mX5_change.2.1 15 = .ok (.ireturn, 1) := by decide +kernel
def bX5_blamed_0 : List OP := [oi (.iconst 0), oi (.istore_n 3), oi (.iconst 0), oi (.istore 4)]
theorem oX5_blamed_0 : okB mX5_blamed 0 bX5_blamed_0 = true := by decide +kernel
def bX5_blamed_5 : List OP := [oi (.iload 4), oi (.bipush 8)]
theorem oX5_blamed_5 : okB mX5_blamed 5 bX5_blamed_5 = true := by decide +kernel
theorem eX5_blamed_9 : decode mX5_blamed.2.1 9 = .ok (.if_icmp .ge 27, 3) := by decide +kernel
def bX5_blamed_12 : List OP := [oi (.aload_n 0), oi (.iload 4), oi (.iload_n 1), oi (.iload_n 2)]
theorem oX5_blamed_12 : okB mX5_blamed 12 bX5_blamed_12 = true := by decide +kernel
theorem eX5_blamed_17 : decode mX5_blamed.2.1 17 = .ok (.invokevirtual 17, 3) := by decide +kernel
theorem lX5_blamed_17 : okL 838 (.methodLink mX5_blamed.1.cls 17 mX5_unlike.1) = true := by decide +kernel
theorem eX5_blamed_20 : decode mX5_blamed.2.1 20 = .ok (.ifCond .ne 10, 3) := by decide +kernel
def bX5_blamed_23 : List OP := [oi (.iload_n 3), oi (.iconst 1), oi (.iload 4), oi .ishl, oi .ior, oi (.istore_n 3)]
theorem oX5_blamed_23 : okB mX5_blamed 23 bX5_blamed_23 = true := by decide +kernel
def bX5_blamed_30 : List OP := [oi (.iinc 4 1), (.goto (-28), 0, 0, 5, 0, 0)]
theorem oX5_blamed_30 : okB mX5_blamed 30 bX5_blamed_30 = true := by decide +kernel
def bX5_blamed_36 : List OP := [oi (.iload_n 3)]
theorem oX5_blamed_36 : okB mX5_blamed 36 bX5_blamed_36 = true := by decide +kernel
theorem eX5_blamed_37 : decode mX5_blamed.2.1 37 = .ok (.ireturn, 1) := by decide +kernel
def bX5_pairs_0 : List OP := [oi (.iconst 0), oi (.istore_n 3), oi (.iconst 0), oi (.istore 4)]
theorem oX5_pairs_0 : okB mX5_pairs 0 bX5_pairs_0 = true := by decide +kernel
def bX5_pairs_5 : List OP := [oi (.iload 4), oi (.bipush 8)]
theorem oX5_pairs_5 : okB mX5_pairs 5 bX5_pairs_5 = true := by decide +kernel
theorem eX5_pairs_9 : decode mX5_pairs.2.1 9 = .ok (.if_icmp .ge 44, 3) := by decide +kernel
def bX5_pairs_12 : List OP := [oi (.iload 4), oi (.iconst 1), oi .iadd, oi (.istore 5)]
theorem oX5_pairs_12 : okB mX5_pairs 12 bX5_pairs_12 = true := by decide +kernel
def bX5_pairs_18 : List OP := [oi (.iload 5), oi (.bipush 8)]
theorem oX5_pairs_18 : okB mX5_pairs 18 bX5_pairs_18 = true := by decide +kernel
theorem eX5_pairs_22 : decode mX5_pairs.2.1 22 = .ok (.if_icmp .ge 25, 3) := by decide +kernel
def bX5_pairs_25 : List OP := [oi (.aload_n 0), oi (.iload 4), oi (.iload 5), oi (.iload_n 1), oi (.iload_n 2)]
theorem oX5_pairs_25 : okB mX5_pairs 25 bX5_pairs_25 = true := by decide +kernel
theorem eX5_pairs_32 : decode mX5_pairs.2.1 32 = .ok (.invokevirtual 21, 3) := by decide +kernel
theorem lX5_pairs_32 : okL 846 (.methodLink mX5_pairs.1.cls 21 mX5_isPair.1) = true := by decide +kernel
theorem eX5_pairs_35 : decode mX5_pairs.2.1 35 = .ok (.ifCond .eq 6, 3) := by decide +kernel
def bX5_pairs_38 : List OP := [oi (.iinc 3 1)]
theorem oX5_pairs_38 : okB mX5_pairs 38 bX5_pairs_38 = true := by decide +kernel
def bX5_pairs_41 : List OP := [oi (.iinc 5 1), (.goto (-26), 0, 0, 18, 0, 0)]
theorem oX5_pairs_41 : okB mX5_pairs 41 bX5_pairs_41 = true := by decide +kernel
def bX5_pairs_47 : List OP := [oi (.iinc 4 1), (.goto (-45), 0, 0, 5, 0, 0)]
theorem oX5_pairs_47 : okB mX5_pairs 47 bX5_pairs_47 = true := by decide +kernel
def bX5_pairs_53 : List OP := [oi (.iload_n 3)]
theorem oX5_pairs_53 : okB mX5_pairs 53 bX5_pairs_53 = true := by decide +kernel
theorem eX5_pairs_54 : decode mX5_pairs.2.1 54 = .ok (.ireturn, 1) := by decide +kernel
def bX5_firstPair_0 : List OP := [oi (.iconst 0), oi (.istore_n 3)]
theorem oX5_firstPair_0 : okB mX5_firstPair 0 bX5_firstPair_0 = true := by decide +kernel
def bX5_firstPair_2 : List OP := [oi (.iload_n 3), oi (.bipush 8)]
theorem oX5_firstPair_2 : okB mX5_firstPair 2 bX5_firstPair_2 = true := by decide +kernel
theorem eX5_firstPair_5 : decode mX5_firstPair.2.1 5 = .ok (.if_icmp .ge 47, 3) := by decide +kernel
def bX5_firstPair_8 : List OP := [oi (.iload_n 3), oi (.iconst 1), oi .iadd, oi (.istore 4)]
theorem oX5_firstPair_8 : okB mX5_firstPair 8 bX5_firstPair_8 = true := by decide +kernel
def bX5_firstPair_13 : List OP := [oi (.iload 4), oi (.bipush 8)]
theorem oX5_firstPair_13 : okB mX5_firstPair 13 bX5_firstPair_13 = true := by decide +kernel
theorem eX5_firstPair_17 : decode mX5_firstPair.2.1 17 = .ok (.if_icmp .ge 29, 3) := by decide +kernel
def bX5_firstPair_20 : List OP := [oi (.aload_n 0), oi (.iload_n 3), oi (.iload 4), oi (.iload_n 1), oi (.iload_n 2)]
theorem oX5_firstPair_20 : okB mX5_firstPair 20 bX5_firstPair_20 = true := by decide +kernel
theorem eX5_firstPair_26 : decode mX5_firstPair.2.1 26 = .ok (.invokevirtual 21, 3) := by decide +kernel
theorem lX5_firstPair_26 : okL 846 (.methodLink mX5_firstPair.1.cls 21 mX5_isPair.1) = true := by decide +kernel
theorem eX5_firstPair_29 : decode mX5_firstPair.2.1 29 = .ok (.ifCond .eq 11, 3) := by decide +kernel
def bX5_firstPair_32 : List OP := [oi (.bipush 10), oi (.iload_n 3), oi .imul, oi (.iload 4), oi .iadd]
theorem oX5_firstPair_32 : okB mX5_firstPair 32 bX5_firstPair_32 = true := by decide +kernel
theorem eX5_firstPair_39 : decode mX5_firstPair.2.1 39 = .ok (.ireturn, 1) := by decide +kernel
def bX5_firstPair_40 : List OP := [oi (.iinc 4 1), (.goto (-30), 0, 0, 13, 0, 0)]
theorem oX5_firstPair_40 : okB mX5_firstPair 40 bX5_firstPair_40 = true := by decide +kernel
def bX5_firstPair_46 : List OP := [oi (.iinc 3 1), (.goto (-47), 0, 0, 2, 0, 0)]
theorem oX5_firstPair_46 : okB mX5_firstPair 46 bX5_firstPair_46 = true := by decide +kernel
def bX5_firstPair_52 : List OP := [oi (.bipush (-6))]
theorem oX5_firstPair_52 : okB mX5_firstPair 52 bX5_firstPair_52 = true := by decide +kernel
theorem eX5_firstPair_54 : decode mX5_firstPair.2.1 54 = .ok (.ireturn, 1) := by decide +kernel
def bX5_isPair_0 : List OP := [oi (.aload_n 0), oi (.iload_n 1), oi (.iload_n 3), oi (.iload 4)]
theorem oX5_isPair_0 : okB mX5_isPair 0 bX5_isPair_0 = true := by decide +kernel
theorem eX5_isPair_5 : decode mX5_isPair.2.1 5 = .ok (.invokevirtual 17, 3) := by decide +kernel
theorem lX5_isPair_5 : okL 838 (.methodLink mX5_isPair.1.cls 17 mX5_unlike.1) = true := by decide +kernel
def bX5_isPair_8 : List OP := [oi (.istore 5), oi (.aload_n 0), oi (.iload_n 2), oi (.iload_n 3), oi (.iload 4)]
theorem oX5_isPair_8 : okB mX5_isPair 8 bX5_isPair_8 = true := by decide +kernel
theorem eX5_isPair_15 : decode mX5_isPair.2.1 15 = .ok (.invokevirtual 17, 3) := by decide +kernel
theorem lX5_isPair_15 : okL 838 (.methodLink mX5_isPair.1.cls 17 mX5_unlike.1) = true := by decide +kernel
def bX5_isPair_18 : List OP := [oi (.istore 6), oi (.iload 5)]
theorem oX5_isPair_18 : okB mX5_isPair 18 bX5_isPair_18 = true := by decide +kernel
theorem eX5_isPair_22 : decode mX5_isPair.2.1 22 = .ok (.ifCond .eq 20, 3) := by decide +kernel
def bX5_isPair_25 : List OP := [oi (.iload 6)]
theorem oX5_isPair_25 : okB mX5_isPair 25 bX5_isPair_25 = true := by decide +kernel
theorem eX5_isPair_27 : decode mX5_isPair.2.1 27 = .ok (.ifCond .eq 15, 3) := by decide +kernel
def bX5_isPair_30 : List OP := [oi (.iload 5), oi (.iload 6), oi .iand]
theorem oX5_isPair_30 : okB mX5_isPair 30 bX5_isPair_30 = true := by decide +kernel
theorem eX5_isPair_35 : decode mX5_isPair.2.1 35 = .ok (.ifCond .ne 7, 3) := by decide +kernel
def bX5_isPair_38 : List OP := [oi (.iconst 1), (.goto 4, 0, 0, 43, 0, 0)]
theorem oX5_isPair_38 : okB mX5_isPair 38 bX5_isPair_38 = true := by decide +kernel
def bX5_isPair_42 : List OP := [oi (.iconst 0)]
theorem oX5_isPair_42 : okB mX5_isPair 42 bX5_isPair_42 = true := by decide +kernel
theorem eX5_isPair_43 : decode mX5_isPair.2.1 43 = .ok (.ireturn, 1) := by decide +kernel
def bX5_unlike_0 : List OP := [oi (.aload_n 0), (.getfield 11, 0, 5, 0, 2, 338), oi (.iload_n 1), oi .iaload, oi (.iload_n 3), oi .ixor, oi (.iload_n 2), oi .iand]
theorem oX5_unlike_0 : okB mX5_unlike 0 bX5_unlike_0 = true := by decide +kernel
theorem eX5_unlike_10 : decode mX5_unlike.2.1 10 = .ok (.ireturn, 1) := by decide +kernel
def bX6_rehang_0 : List OP := [oi (.aload_n 0), (.getfield 9, 0, 6, 0, 2, 358), oi (.iload_n 1), oi .iaload, oi (.istore 4), oi (.aload_n 0), (.getfield 9, 0, 6, 0, 2, 358), oi (.iload_n 1), oi (.iload_n 2), oi .iastore, oi (.aload_n 0), (.getfield 15, 1, 6, 1, 2, 359), oi (.iload_n 1), oi (.iload_n 3), oi .iastore, oi (.iload 4)]
theorem oX6_rehang_0 : okB mX6_rehang 0 bX6_rehang_0 = true := by decide +kernel
theorem eX6_rehang_24 : decode mX6_rehang.2.1 24 = .ok (.ireturn, 1) := by decide +kernel
def bX6_hangingOn_0 : List OP := [oi (.iconst 0), oi (.istore_n 3), oi (.iconst 1), oi (.istore 4)]
theorem oX6_hangingOn_0 : okB mX6_hangingOn 0 bX6_hangingOn_0 = true := by decide +kernel
def bX6_hangingOn_5 : List OP := [oi (.iload 4), oi (.bipush 10)]
theorem oX6_hangingOn_5 : okB mX6_hangingOn 5 bX6_hangingOn_5 = true := by decide +kernel
theorem eX6_hangingOn_9 : decode mX6_hangingOn.2.1 9 = .ok (.if_icmp .ge 39, 3) := by decide +kernel
def bX6_hangingOn_12 : List OP := [oi (.aload_n 0), (.getfield 18, 2, 6, 2, 2, 360), oi (.iload 4), oi .baload]
theorem oX6_hangingOn_12 : okB mX6_hangingOn 12 bX6_hangingOn_12 = true := by decide +kernel
theorem eX6_hangingOn_19 : decode mX6_hangingOn.2.1 19 = .ok (.ifCond .ne 23, 3) := by decide +kernel
def bX6_hangingOn_22 : List OP := [oi (.aload_n 0), (.getfield 9, 0, 6, 0, 2, 358), oi (.iload 4), oi .iaload, oi (.iload_n 1)]
theorem oX6_hangingOn_22 : okB mX6_hangingOn 22 bX6_hangingOn_22 = true := by decide +kernel
theorem eX6_hangingOn_30 : decode mX6_hangingOn.2.1 30 = .ok (.if_icmp .ne 12, 3) := by decide +kernel
def bX6_hangingOn_33 : List OP := [oi (.iload 4), oi (.iload_n 2)]
theorem oX6_hangingOn_33 : okB mX6_hangingOn 33 bX6_hangingOn_33 = true := by decide +kernel
theorem eX6_hangingOn_36 : decode mX6_hangingOn.2.1 36 = .ok (.if_icmp .eq 6, 3) := by decide +kernel
def bX6_hangingOn_39 : List OP := [oi (.iinc 3 1)]
theorem oX6_hangingOn_39 : okB mX6_hangingOn 39 bX6_hangingOn_39 = true := by decide +kernel
def bX6_hangingOn_42 : List OP := [oi (.iinc 4 1), (.goto (-40), 0, 0, 5, 0, 0)]
theorem oX6_hangingOn_42 : okB mX6_hangingOn 42 bX6_hangingOn_42 = true := by decide +kernel
def bX6_hangingOn_48 : List OP := [oi (.iload_n 3)]
theorem oX6_hangingOn_48 : okB mX6_hangingOn 48 bX6_hangingOn_48 = true := by decide +kernel
theorem eX6_hangingOn_49 : decode mX6_hangingOn.2.1 49 = .ok (.ireturn, 1) := by decide +kernel
def bX6_delayUpTo0_0 : List OP := [oi (.iconst 0), oi (.istore_n 2), oi (.iload_n 1), oi (.istore_n 3), oi (.iconst 0), oi (.istore 4)]
theorem oX6_delayUpTo0_0 : okB mX6_delayUpTo0 0 bX6_delayUpTo0_0 = true := by decide +kernel
def bX6_delayUpTo0_7 : List OP := [oi (.iload 4), oi (.bipush 10)]
theorem oX6_delayUpTo0_7 : okB mX6_delayUpTo0 7 bX6_delayUpTo0_7 = true := by decide +kernel
theorem eX6_delayUpTo0_11 : decode mX6_delayUpTo0.2.1 11 = .ok (.if_icmp .ge 29, 3) := by decide +kernel
def bX6_delayUpTo0_14 : List OP := [oi (.iload_n 3)]
theorem oX6_delayUpTo0_14 : okB mX6_delayUpTo0 14 bX6_delayUpTo0_14 = true := by decide +kernel
theorem eX6_delayUpTo0_15 : decode mX6_delayUpTo0.2.1 15 = .ok (.ifCond .le 25, 3) := by decide +kernel
def bX6_delayUpTo0_18 : List OP := [oi (.iload_n 2), oi (.aload_n 0), (.getfield 15, 1, 6, 1, 2, 359), oi (.iload_n 3), oi .iaload, oi .iadd, oi (.istore_n 2), oi (.aload_n 0), (.getfield 9, 0, 6, 0, 2, 358), oi (.iload_n 3), oi .iaload, oi (.istore_n 3), oi (.iinc 4 1), (.goto (-30), 0, 0, 7, 0, 0)]
theorem oX6_delayUpTo0_18 : okB mX6_delayUpTo0 18 bX6_delayUpTo0_18 = true := by decide +kernel
def bX6_delayUpTo0_40 : List OP := [oi (.iload_n 2)]
theorem oX6_delayUpTo0_40 : okB mX6_delayUpTo0 40 bX6_delayUpTo0_40 = true := by decide +kernel
theorem eX6_delayUpTo0_41 : decode mX6_delayUpTo0.2.1 41 = .ok (.ireturn, 1) := by decide +kernel
def bX6_drop_0 : List OP := [oi (.aload_n 0), (.getfield 18, 2, 6, 2, 2, 360), oi (.iload_n 1), oi (.iconst 1), oi .bastore, oi (.iconst 0), oi (.istore_n 3), oi (.iload_n 1), oi (.iconst 1), oi .iadd, oi (.istore 4)]
theorem oX6_drop_0 : okB mX6_drop 0 bX6_drop_0 = true := by decide +kernel
def bX6_drop_14 : List OP := [oi (.iload 4), oi (.bipush 10)]
theorem oX6_drop_14 : okB mX6_drop 14 bX6_drop_14 = true := by decide +kernel
theorem eX6_drop_18 : decode mX6_drop.2.1 18 = .ok (.if_icmp .ge 47, 3) := by decide +kernel
def bX6_drop_21 : List OP := [oi (.aload_n 0), (.getfield 18, 2, 6, 2, 2, 360), oi (.iload 4), oi .baload]
theorem oX6_drop_21 : okB mX6_drop 21 bX6_drop_21 = true := by decide +kernel
theorem eX6_drop_28 : decode mX6_drop.2.1 28 = .ok (.ifCond .ne 31, 3) := by decide +kernel
def bX6_drop_31 : List OP := [oi (.aload_n 0), (.getfield 9, 0, 6, 0, 2, 358), oi (.iload 4), oi .iaload, oi (.iload_n 1)]
theorem oX6_drop_31 : okB mX6_drop 31 bX6_drop_31 = true := by decide +kernel
theorem eX6_drop_39 : decode mX6_drop.2.1 39 = .ok (.if_icmp .ne 20, 3) := by decide +kernel
def bX6_drop_42 : List OP := [oi (.aload_n 0), (.getfield 9, 0, 6, 0, 2, 358), oi (.iload 4), oi (.aload_n 0), oi (.iload 4), oi (.iload_n 2)]
theorem oX6_drop_42 : okB mX6_drop 42 bX6_drop_42 = true := by decide +kernel
theorem eX6_drop_52 : decode mX6_drop.2.1 52 = .ok (.invokevirtual 22, 3) := by decide +kernel
theorem lX6_drop_52 : okL 925 (.methodLink mX6_drop.1.cls 22 mX6_newParent.1) = true := by decide +kernel
def bX6_drop_55 : List OP := [oi .iastore, oi (.iinc 3 1)]
theorem oX6_drop_55 : okB mX6_drop 55 bX6_drop_55 = true := by decide +kernel
def bX6_drop_59 : List OP := [oi (.iinc 4 1), (.goto (-48), 0, 0, 14, 0, 0)]
theorem oX6_drop_59 : okB mX6_drop 59 bX6_drop_59 = true := by decide +kernel
def bX6_drop_65 : List OP := [oi (.iload_n 3)]
theorem oX6_drop_65 : okB mX6_drop 65 bX6_drop_65 = true := by decide +kernel
theorem eX6_drop_66 : decode mX6_drop.2.1 66 = .ok (.ireturn, 1) := by decide +kernel
def bX6_newParent_0 : List OP := [oi (.bipush (-6)), oi (.istore_n 3), oi (.iconst 0), oi (.istore 4)]
theorem oX6_newParent_0 : okB mX6_newParent 0 bX6_newParent_0 = true := by decide +kernel
def bX6_newParent_6 : List OP := [oi (.iload 4), oi (.iload_n 1)]
theorem oX6_newParent_6 : okB mX6_newParent 6 bX6_newParent_6 = true := by decide +kernel
theorem eX6_newParent_9 : decode mX6_newParent.2.1 9 = .ok (.if_icmp .ge 53, 3) := by decide +kernel
def bX6_newParent_12 : List OP := [oi (.aload_n 0), (.getfield 18, 2, 6, 2, 2, 360), oi (.iload 4), oi .baload]
theorem oX6_newParent_12 : okB mX6_newParent 12 bX6_newParent_12 = true := by decide +kernel
theorem eX6_newParent_19 : decode mX6_newParent.2.1 19 = .ok (.ifCond .ne 37, 3) := by decide +kernel
def bX6_newParent_22 : List OP := [oi (.aload_n 0), oi (.iload 4), oi (.iload_n 1)]
theorem oX6_newParent_22 : okB mX6_newParent 22 bX6_newParent_22 = true := by decide +kernel
theorem eX6_newParent_26 : decode mX6_newParent.2.1 26 = .ok (.invokevirtual 26, 3) := by decide +kernel
theorem lX6_newParent_26 : okL 929 (.methodLink mX6_newParent.1.cls 26 mX6_hangingOn.1) = true := by decide +kernel
def bX6_newParent_29 : List OP := [oi (.iload_n 2)]
theorem oX6_newParent_29 : okB mX6_newParent 29 bX6_newParent_29 = true := by decide +kernel
theorem eX6_newParent_30 : decode mX6_newParent.2.1 30 = .ok (.if_icmp .ge 26, 3) := by decide +kernel
def bX6_newParent_33 : List OP := [oi (.iload_n 3), oi (.bipush (-6))]
theorem oX6_newParent_33 : okB mX6_newParent 33 bX6_newParent_33 = true := by decide +kernel
theorem eX6_newParent_36 : decode mX6_newParent.2.1 36 = .ok (.if_icmp .eq 17, 3) := by decide +kernel
def bX6_newParent_39 : List OP := [oi (.aload_n 0), oi (.iload 4)]
theorem oX6_newParent_39 : okB mX6_newParent 39 bX6_newParent_39 = true := by decide +kernel
theorem eX6_newParent_42 : decode mX6_newParent.2.1 42 = .ok (.invokevirtual 29, 3) := by decide +kernel
theorem lX6_newParent_42 : okL 930 (.methodLink mX6_newParent.1.cls 29 mX6_delayUpTo0.1) = true := by decide +kernel
def bX6_newParent_45 : List OP := [oi (.aload_n 0), oi (.iload_n 3)]
theorem oX6_newParent_45 : okB mX6_newParent 45 bX6_newParent_45 = true := by decide +kernel
theorem eX6_newParent_47 : decode mX6_newParent.2.1 47 = .ok (.invokevirtual 29, 3) := by decide +kernel
theorem lX6_newParent_47 : okL 930 (.methodLink mX6_newParent.1.cls 29 mX6_delayUpTo0.1) = true := by decide +kernel
theorem eX6_newParent_50 : decode mX6_newParent.2.1 50 = .ok (.if_icmp .ge 6, 3) := by decide +kernel
def bX6_newParent_53 : List OP := [oi (.iload 4), oi (.istore_n 3)]
theorem oX6_newParent_53 : okB mX6_newParent 53 bX6_newParent_53 = true := by decide +kernel
def bX6_newParent_56 : List OP := [oi (.iinc 4 1), (.goto (-53), 0, 0, 6, 0, 0)]
theorem oX6_newParent_56 : okB mX6_newParent 56 bX6_newParent_56 = true := by decide +kernel
def bX6_newParent_62 : List OP := [oi (.iload_n 3), oi (.bipush (-6))]
theorem oX6_newParent_62 : okB mX6_newParent 62 bX6_newParent_62 = true := by decide +kernel
theorem eX6_newParent_65 : decode mX6_newParent.2.1 65 = .ok (.if_icmp .ne 7, 3) := by decide +kernel
def bX6_newParent_68 : List OP := [oi (.iconst 0), (.goto 4, 0, 0, 73, 0, 0)]
theorem oX6_newParent_68 : okB mX6_newParent 68 bX6_newParent_68 = true := by decide +kernel
def bX6_newParent_72 : List OP := [oi (.iload_n 3)]
theorem oX6_newParent_72 : okB mX6_newParent 72 bX6_newParent_72 = true := by decide +kernel
theorem eX6_newParent_73 : decode mX6_newParent.2.1 73 = .ok (.ireturn, 1) := by decide +kernel
def bX6_standing_0 : List OP := [oi (.iconst 0), oi (.istore_n 1), oi (.iconst 0), oi (.istore_n 2)]
theorem oX6_standing_0 : okB mX6_standing 0 bX6_standing_0 = true := by decide +kernel
def bX6_standing_4 : List OP := [oi (.iload_n 2), oi (.bipush 10)]
theorem oX6_standing_4 : okB mX6_standing 4 bX6_standing_4 = true := by decide +kernel
theorem eX6_standing_7 : decode mX6_standing.2.1 7 = .ok (.if_icmp .ge 24, 3) := by decide +kernel
def bX6_standing_10 : List OP := [oi (.aload_n 0), (.getfield 18, 2, 6, 2, 2, 360), oi (.iload_n 2), oi .baload]
theorem oX6_standing_10 : okB mX6_standing 10 bX6_standing_10 = true := by decide +kernel
theorem eX6_standing_16 : decode mX6_standing.2.1 16 = .ok (.ifCond .ne 9, 3) := by decide +kernel
def bX6_standing_19 : List OP := [oi (.iload_n 1), oi (.iconst 1), oi (.iload_n 2), oi .ishl, oi .ior, oi (.istore_n 1)]
theorem oX6_standing_19 : okB mX6_standing 19 bX6_standing_19 = true := by decide +kernel
def bX6_standing_25 : List OP := [oi (.iinc 2 1), (.goto (-24), 0, 0, 4, 0, 0)]
theorem oX6_standing_25 : okB mX6_standing 25 bX6_standing_25 = true := by decide +kernel
def bX6_standing_31 : List OP := [oi (.iload_n 1)]
theorem oX6_standing_31 : okB mX6_standing 31 bX6_standing_31 = true := by decide +kernel
theorem eX6_standing_32 : decode mX6_standing.2.1 32 = .ok (.ireturn, 1) := by decide +kernel
def bX6_standingWithin_0 : List OP := [oi (.iconst 0), oi (.istore_n 2), oi (.iconst 0), oi (.istore_n 3)]
theorem oX6_standingWithin_0 : okB mX6_standingWithin 0 bX6_standingWithin_0 = true := by decide +kernel
def bX6_standingWithin_4 : List OP := [oi (.iload_n 3), oi (.bipush 10)]
theorem oX6_standingWithin_4 : okB mX6_standingWithin 4 bX6_standingWithin_4 = true := by decide +kernel
theorem eX6_standingWithin_7 : decode mX6_standingWithin.2.1 7 = .ok (.if_icmp .ge 33, 3) := by decide +kernel
def bX6_standingWithin_10 : List OP := [oi (.aload_n 0), (.getfield 18, 2, 6, 2, 2, 360), oi (.iload_n 3), oi .baload]
theorem oX6_standingWithin_10 : okB mX6_standingWithin 10 bX6_standingWithin_10 = true := by decide +kernel
theorem eX6_standingWithin_16 : decode mX6_standingWithin.2.1 16 = .ok (.ifCond .ne 18, 3) := by decide +kernel
def bX6_standingWithin_19 : List OP := [oi (.aload_n 0), oi (.iload_n 3)]
theorem oX6_standingWithin_19 : okB mX6_standingWithin 19 bX6_standingWithin_19 = true := by decide +kernel
theorem eX6_standingWithin_21 : decode mX6_standingWithin.2.1 21 = .ok (.invokevirtual 29, 3) := by decide +kernel
theorem lX6_standingWithin_21 : okL 930 (.methodLink mX6_standingWithin.1.cls 29 mX6_delayUpTo0.1) = true := by decide +kernel
def bX6_standingWithin_24 : List OP := [oi (.iload_n 1)]
theorem oX6_standingWithin_24 : okB mX6_standingWithin 24 bX6_standingWithin_24 = true := by decide +kernel
theorem eX6_standingWithin_25 : decode mX6_standingWithin.2.1 25 = .ok (.if_icmp .gt 9, 3) := by decide +kernel
def bX6_standingWithin_28 : List OP := [oi (.iload_n 2), oi (.iconst 1), oi (.iload_n 3), oi .ishl, oi .ior, oi (.istore_n 2)]
theorem oX6_standingWithin_28 : okB mX6_standingWithin 28 bX6_standingWithin_28 = true := by decide +kernel
def bX6_standingWithin_34 : List OP := [oi (.iinc 3 1), (.goto (-33), 0, 0, 4, 0, 0)]
theorem oX6_standingWithin_34 : okB mX6_standingWithin 34 bX6_standingWithin_34 = true := by decide +kernel
def bX6_standingWithin_40 : List OP := [oi (.iload_n 2)]
theorem oX6_standingWithin_40 : okB mX6_standingWithin 40 bX6_standingWithin_40 = true := by decide +kernel
theorem eX6_standingWithin_41 : decode mX6_standingWithin.2.1 41 = .ok (.ireturn, 1) := by decide +kernel
def bX6_hangsOn_0 : List OP := [oi (.iload_n 1)]
theorem oX6_hangsOn_0 : okB mX6_hangsOn 0 bX6_hangsOn_0 = true := by decide +kernel
theorem eX6_hangsOn_1 : decode mX6_hangsOn.2.1 1 = .ok (.ifCond .eq 12, 3) := by decide +kernel
def bX6_hangsOn_4 : List OP := [oi (.aload_n 0), (.getfield 18, 2, 6, 2, 2, 360), oi (.iload_n 1), oi .baload]
theorem oX6_hangsOn_4 : okB mX6_hangsOn 4 bX6_hangsOn_4 = true := by decide +kernel
theorem eX6_hangsOn_10 : decode mX6_hangsOn.2.1 10 = .ok (.ifCond .eq 8, 3) := by decide +kernel
def bX6_hangsOn_13 : List OP := [oi (.bipush (-6)), (.goto 9, 0, 0, 24, 0, 0)]
theorem oX6_hangsOn_13 : okB mX6_hangsOn 13 bX6_hangsOn_13 = true := by decide +kernel
def bX6_hangsOn_18 : List OP := [oi (.aload_n 0), (.getfield 9, 0, 6, 0, 2, 358), oi (.iload_n 1), oi .iaload]
theorem oX6_hangsOn_18 : okB mX6_hangsOn 18 bX6_hangsOn_18 = true := by decide +kernel
theorem eX6_hangsOn_24 : decode mX6_hangsOn.2.1 24 = .ok (.ireturn, 1) := by decide +kernel
def bX7_add_0 : List OP := [oi (.aload_n 0), (.getfield 9, 0, 7, 0, 2, 302), oi (.aload_n 0), (.getfield 37, 5, 7, 5, 0, 307), oi (.iload_n 1), oi .iastore, oi (.aload_n 0), (.getfield 13, 1, 7, 1, 2, 303), oi (.aload_n 0), (.getfield 37, 5, 7, 5, 0, 307), oi (.iload_n 2), oi .iastore, oi (.aload_n 0), (.getfield 16, 2, 7, 2, 2, 304), oi (.aload_n 0), (.getfield 37, 5, 7, 5, 0, 307), oi (.iload_n 3), oi .iastore, oi (.aload_n 0), (.getfield 19, 3, 7, 3, 2, 305), oi (.aload_n 0), (.getfield 37, 5, 7, 5, 0, 307), oi (.iload 4), oi .iastore, oi (.aload_n 0), (.getfield 22, 4, 7, 4, 2, 306), oi (.aload_n 0), (.getfield 37, 5, 7, 5, 0, 307), oi (.iload 5), oi .iastore, oi (.aload_n 0), oi .dup, (.getfield 37, 5, 7, 5, 0, 307), oi (.iconst 1), oi .iadd, (.putfield 37, 5, 7, 5, 0, 307), oi (.aload_n 0), (.getfield 37, 5, 7, 5, 0, 307), oi (.iconst 1), oi .isub]
theorem oX7_add_0 : okB mX7_add 0 bX7_add_0 = true := by decide +kernel
theorem eX7_add_68 : decode mX7_add.2.1 68 = .ok (.ireturn, 1) := by decide +kernel
def bX7_changeLand_0 : List OP := [oi (.aload_n 0), (.getfield 25, 6, 7, 6, 2, 309), oi (.iload_n 1), oi .iaload, oi (.istore_n 3), oi (.aload_n 0), (.getfield 25, 6, 7, 6, 2, 309), oi (.iload_n 1), oi (.iload_n 2), oi .iastore, oi (.iload_n 3)]
theorem oX7_changeLand_0 : okB mX7_changeLand 0 bX7_changeLand_0 = true := by decide +kernel
theorem eX7_changeLand_15 : decode mX7_changeLand.2.1 15 = .ok (.ireturn, 1) := by decide +kernel
def bX7_allow_0 : List OP := [oi (.iconst 0), oi (.istore 4)]
theorem oX7_allow_0 : okB mX7_allow 0 bX7_allow_0 = true := by decide +kernel
def bX7_allow_3 : List OP := [oi (.iload 4), oi (.aload_n 0), (.getfield 37, 5, 7, 5, 0, 307)]
theorem oX7_allow_3 : okB mX7_allow 3 bX7_allow_3 = true := by decide +kernel
theorem eX7_allow_9 : decode mX7_allow.2.1 9 = .ok (.if_icmp .ge 88, 3) := by decide +kernel
def bX7_allow_12 : List OP := [oi (.aload_n 0), (.getfield 9, 0, 7, 0, 2, 302), oi (.iload 4), oi .iaload, oi (.iload_n 2)]
theorem oX7_allow_12 : okB mX7_allow 12 bX7_allow_12 = true := by decide +kernel
theorem eX7_allow_20 : decode mX7_allow.2.1 20 = .ok (.if_icmp .ne 23, 3) := by decide +kernel
def bX7_allow_23 : List OP := [oi (.aload_n 0), (.getfield 13, 1, 7, 1, 2, 303), oi (.iload 4), oi .iaload, oi (.aload_n 0), (.getfield 25, 6, 7, 6, 2, 309), oi (.iload_n 1), oi .iaload]
theorem oX7_allow_23 : okB mX7_allow 23 bX7_allow_23 = true := by decide +kernel
theorem eX7_allow_36 : decode mX7_allow.2.1 36 = .ok (.if_icmp .ne 7, 3) := by decide +kernel
def bX7_allow_39 : List OP := [oi (.iconst 1), (.goto 4, 0, 0, 44, 0, 0)]
theorem oX7_allow_39 : okB mX7_allow 39 bX7_allow_39 = true := by decide +kernel
def bX7_allow_43 : List OP := [oi (.iconst 0)]
theorem oX7_allow_43 : okB mX7_allow 43 bX7_allow_43 = true := by decide +kernel
def bX7_allow_44 : List OP := [oi (.istore 5), oi (.iload 5)]
theorem oX7_allow_44 : okB mX7_allow 44 bX7_allow_44 = true := by decide +kernel
theorem eX7_allow_48 : decode mX7_allow.2.1 48 = .ok (.ifCond .eq 43, 3) := by decide +kernel
def bX7_allow_51 : List OP := [oi (.iload_n 3), oi (.aload_n 0), (.getfield 16, 2, 7, 2, 2, 304), oi (.iload 4), oi .iaload]
theorem oX7_allow_51 : okB mX7_allow 51 bX7_allow_51 = true := by decide +kernel
theorem eX7_allow_59 : decode mX7_allow.2.1 59 = .ok (.if_icmp .lt 32, 3) := by decide +kernel
def bX7_allow_62 : List OP := [oi (.iload_n 3), oi (.aload_n 0), (.getfield 19, 3, 7, 3, 2, 305), oi (.iload 4), oi .iaload]
theorem oX7_allow_62 : okB mX7_allow 62 bX7_allow_62 = true := by decide +kernel
theorem eX7_allow_70 : decode mX7_allow.2.1 70 = .ok (.if_icmp .gt 21, 3) := by decide +kernel
def bX7_allow_73 : List OP := [oi (.aload_n 0), oi (.iload_n 1), oi (.iload_n 2)]
theorem oX7_allow_73 : okB mX7_allow 73 bX7_allow_73 = true := by decide +kernel
theorem eX7_allow_76 : decode mX7_allow.2.1 76 = .ok (.invokevirtual 41, 3) := by decide +kernel
theorem lX7_allow_76 : okL 784 (.methodLink mX7_allow.1.cls 41 mX7_timesSeen.1) = true := by decide +kernel
def bX7_allow_79 : List OP := [oi (.aload_n 0), (.getfield 22, 4, 7, 4, 2, 306), oi (.iload 4), oi .iaload]
theorem oX7_allow_79 : okB mX7_allow 79 bX7_allow_79 = true := by decide +kernel
theorem eX7_allow_86 : decode mX7_allow.2.1 86 = .ok (.if_icmp .ge 5, 3) := by decide +kernel
def bX7_allow_89 : List OP := [oi (.iconst 1)]
theorem oX7_allow_89 : okB mX7_allow 89 bX7_allow_89 = true := by decide +kernel
theorem eX7_allow_90 : decode mX7_allow.2.1 90 = .ok (.ireturn, 1) := by decide +kernel
def bX7_allow_91 : List OP := [oi (.iinc 4 1), (.goto (-91), 0, 0, 3, 0, 0)]
theorem oX7_allow_91 : okB mX7_allow 91 bX7_allow_91 = true := by decide +kernel
def bX7_allow_97 : List OP := [oi (.iconst 0)]
theorem oX7_allow_97 : okB mX7_allow 97 bX7_allow_97 = true := by decide +kernel
theorem eX7_allow_98 : decode mX7_allow.2.1 98 = .ok (.ireturn, 1) := by decide +kernel
def bX7_addSeeing_0 : List OP := [oi (.iload_n 1), oi (.bipush 6), oi .imul, oi (.iload_n 2), oi .iadd, oi (.istore 5), (.ldc2_w 45, -1, 0, 0, 0, 796), oi (.bipush 63), oi (.iload 4), oi (.iload_n 3), oi .isub, oi .isub, oi .lushr, oi (.iload_n 3), oi .lshl, oi (.lstore 6), oi (.lload 6), oi (.aload_n 0), (.getfield 30, 7, 7, 7, 2, 310), oi (.iload 5), oi .laload, (.ldc2_w 45, -1, 0, 0, 0, 796), oi .lxor, oi .land]
theorem oX7_addSeeing_0 : okB mX7_addSeeing 0 bX7_addSeeing_0 = true := by decide +kernel
theorem eX7_addSeeing_37 : decode mX7_addSeeing.2.1 37 = .ok (.invokestatic 47, 3) := by decide +kernel
theorem lX7_addSeeing_37 : okL 797 (.methodLink mX7_addSeeing.1.cls 47 mJ13_bitCount.1) = true := by decide +kernel
def bX7_addSeeing_40 : List OP := [oi (.istore 8), oi (.aload_n 0), (.getfield 30, 7, 7, 7, 2, 310), oi (.iload 5), oi .dup2, oi .laload, oi (.lload 6), oi .lor, oi .lastore, oi (.aload_n 0), (.getfield 34, 8, 7, 8, 2, 311), oi (.iload 5), oi .dup2, oi .iaload, oi (.iconst 1), oi .iadd, oi .iastore, oi (.iload 8)]
theorem oX7_addSeeing_40 : okB mX7_addSeeing 40 bX7_addSeeing_40 = true := by decide +kernel
theorem eX7_addSeeing_67 : decode mX7_addSeeing.2.1 67 = .ok (.ireturn, 1) := by decide +kernel
def bX7_secondsSeen_0 : List OP := [oi (.aload_n 0), (.getfield 30, 7, 7, 7, 2, 310), oi (.iload_n 1), oi (.bipush 6), oi .imul, oi (.iload_n 2), oi .iadd, oi .laload]
theorem oX7_secondsSeen_0 : okB mX7_secondsSeen 0 bX7_secondsSeen_0 = true := by decide +kernel
theorem eX7_secondsSeen_11 : decode mX7_secondsSeen.2.1 11 = .ok (.invokestatic 47, 3) := by decide +kernel
theorem lX7_secondsSeen_11 : okL 797 (.methodLink mX7_secondsSeen.1.cls 47 mJ13_bitCount.1) = true := by decide +kernel
theorem eX7_secondsSeen_14 : decode mX7_secondsSeen.2.1 14 = .ok (.ireturn, 1) := by decide +kernel
def bX7_timesSeen_0 : List OP := [oi (.aload_n 0), (.getfield 34, 8, 7, 8, 2, 311), oi (.iload_n 1), oi (.bipush 6), oi .imul, oi (.iload_n 2), oi .iadd, oi .iaload]
theorem oX7_timesSeen_0 : okB mX7_timesSeen 0 bX7_timesSeen_0 = true := by decide +kernel
theorem eX7_timesSeen_11 : decode mX7_timesSeen.2.1 11 = .ok (.ireturn, 1) := by decide +kernel
def bX7_owedFor_0 : List OP := [oi (.iconst 0), oi (.istore 4), oi (.iconst 0), oi (.istore 5)]
theorem oX7_owedFor_0 : okB mX7_owedFor 0 bX7_owedFor_0 = true := by decide +kernel
def bX7_owedFor_6 : List OP := [oi (.iload 5), oi (.bipush 8)]
theorem oX7_owedFor_6 : okB mX7_owedFor 6 bX7_owedFor_6 = true := by decide +kernel
theorem eX7_owedFor_10 : decode mX7_owedFor.2.1 10 = .ok (.if_icmp .ge 27, 3) := by decide +kernel
def bX7_owedFor_13 : List OP := [oi (.iload 4), oi (.iconst 0), oi (.aload_n 0), oi (.iload 5), oi (.iload_n 1)]
theorem oX7_owedFor_13 : okB mX7_owedFor 13 bX7_owedFor_13 = true := by decide +kernel
theorem eX7_owedFor_20 : decode mX7_owedFor.2.1 20 = .ok (.invokevirtual 53, 3) := by decide +kernel
theorem lX7_owedFor_20 : okL 820 (.methodLink mX7_owedFor.1.cls 53 mX7_secondsSeen.1) = true := by decide +kernel
def bX7_owedFor_23 : List OP := [oi (.iload_n 3), oi .isub]
theorem oX7_owedFor_23 : okB mX7_owedFor 23 bX7_owedFor_23 = true := by decide +kernel
theorem eX7_owedFor_25 : decode mX7_owedFor.2.1 25 = .ok (.invokestatic 56, 3) := by decide +kernel
theorem lX7_owedFor_25 : okL 821 (.methodLink mX7_owedFor.1.cls 56 mJ9_max.1) = true := by decide +kernel
def bX7_owedFor_28 : List OP := [oi .iadd, oi (.istore 4), oi (.iinc 5 1), (.goto (-28), 0, 0, 6, 0, 0)]
theorem oX7_owedFor_28 : okB mX7_owedFor 28 bX7_owedFor_28 = true := by decide +kernel
def bX7_owedFor_37 : List OP := [oi (.iload 4), oi (.iload_n 2), oi .imul]
theorem oX7_owedFor_37 : okB mX7_owedFor 37 bX7_owedFor_37 = true := by decide +kernel
theorem eX7_owedFor_41 : decode mX7_owedFor.2.1 41 = .ok (.ireturn, 1) := by decide +kernel
def bX8_addSign_0 : List OP := [oi (.aload_n 0), (.getfield 11, 0, 8, 0, 2, 175), oi (.aload_n 0), (.getfield 28, 1, 8, 1, 0, 176), oi (.iload_n 1), oi .iastore, oi (.aload_n 0), oi .dup, (.getfield 28, 1, 8, 1, 0, 176), oi (.iconst 1), oi .iadd, (.putfield 28, 1, 8, 1, 0, 176), oi (.aload_n 0), (.getfield 28, 1, 8, 1, 0, 176)]
theorem oX8_addSign_0 : okB mX8_addSign 0 bX8_addSign_0 = true := by decide +kernel
theorem eX8_addSign_24 : decode mX8_addSign.2.1 24 = .ok (.ireturn, 1) := by decide +kernel
def bX8_dropSigns_0 : List OP := [oi (.aload_n 0), (.getfield 28, 1, 8, 1, 0, 176), oi (.istore_n 1), oi (.aload_n 0), oi (.iconst 0), (.putfield 28, 1, 8, 1, 0, 176), oi (.iload_n 1)]
theorem oX8_dropSigns_0 : okB mX8_dropSigns 0 bX8_dropSigns_0 = true := by decide +kernel
theorem eX8_dropSigns_11 : decode mX8_dropSigns.2.1 11 = .ok (.ireturn, 1) := by decide +kernel
def bX8_firstFault_0 : List OP := [oi (.iconst 0), oi (.istore_n 1), oi (.iconst 0), oi (.istore_n 2)]
theorem oX8_firstFault_0 : okB mX8_firstFault 0 bX8_firstFault_0 = true := by decide +kernel
def bX8_firstFault_4 : List OP := [oi (.iload_n 2), oi (.aload_n 0), (.getfield 28, 1, 8, 1, 0, 176)]
theorem oX8_firstFault_4 : okB mX8_firstFault 4 bX8_firstFault_4 = true := by decide +kernel
theorem eX8_firstFault_9 : decode mX8_firstFault.2.1 9 = .ok (.if_icmp .ge 28, 3) := by decide +kernel
def bX8_firstFault_12 : List OP := [oi (.iload_n 1), oi (.aload_n 0), (.getfield 11, 0, 8, 0, 2, 175), oi (.iload_n 2), oi .iaload]
theorem oX8_firstFault_12 : okB mX8_firstFault 12 bX8_firstFault_12 = true := by decide +kernel
theorem eX8_firstFault_19 : decode mX8_firstFault.2.1 19 = .ok (.invokestatic 32, 3) := by decide +kernel
theorem lX8_firstFault_19 : okL 595 (.methodLink mX8_firstFault.1.cls 32 mX8_after.1) = true := by decide +kernel
def bX8_firstFault_22 : List OP := [oi (.istore_n 1), oi (.iload_n 1), oi (.bipush 9)]
theorem oX8_firstFault_22 : okB mX8_firstFault 22 bX8_firstFault_22 = true := by decide +kernel
theorem eX8_firstFault_26 : decode mX8_firstFault.2.1 26 = .ok (.if_icmp .ne 5, 3) := by decide +kernel
def bX8_firstFault_29 : List OP := [oi (.iload_n 2)]
theorem oX8_firstFault_29 : okB mX8_firstFault 29 bX8_firstFault_29 = true := by decide +kernel
theorem eX8_firstFault_30 : decode mX8_firstFault.2.1 30 = .ok (.ireturn, 1) := by decide +kernel
def bX8_firstFault_31 : List OP := [oi (.iinc 2 1), (.goto (-30), 0, 0, 4, 0, 0)]
theorem oX8_firstFault_31 : okB mX8_firstFault 31 bX8_firstFault_31 = true := by decide +kernel
def bX8_firstFault_37 : List OP := [oi (.iload_n 1), oi (.bipush 8)]
theorem oX8_firstFault_37 : okB mX8_firstFault 37 bX8_firstFault_37 = true := by decide +kernel
theorem eX8_firstFault_40 : decode mX8_firstFault.2.1 40 = .ok (.if_icmp .ne 8, 3) := by decide +kernel
def bX8_firstFault_43 : List OP := [oi (.bipush (-6)), (.goto 7, 0, 0, 52, 0, 0)]
theorem oX8_firstFault_43 : okB mX8_firstFault 43 bX8_firstFault_43 = true := by decide +kernel
def bX8_firstFault_48 : List OP := [oi (.aload_n 0), (.getfield 28, 1, 8, 1, 0, 176)]
theorem oX8_firstFault_48 : okB mX8_firstFault 48 bX8_firstFault_48 = true := by decide +kernel
theorem eX8_firstFault_52 : decode mX8_firstFault.2.1 52 = .ok (.ireturn, 1) := by decide +kernel
def bX8_adopt_0 : List OP := [oi (.aload_n 0), oi (.iconst 0), (.putfield 36, 6, 8, 6, 0, 182), oi (.iconst 0), oi (.istore_n 1), oi (.iconst 0), oi (.istore_n 2)]
theorem oX8_adopt_0 : okB mX8_adopt 0 bX8_adopt_0 = true := by decide +kernel
def bX8_adopt_9 : List OP := [oi (.iload_n 2), oi (.aload_n 0), (.getfield 28, 1, 8, 1, 0, 176)]
theorem oX8_adopt_9 : okB mX8_adopt 9 bX8_adopt_9 = true := by decide +kernel
theorem eX8_adopt_14 : decode mX8_adopt.2.1 14 = .ok (.if_icmp .ge 72, 3) := by decide +kernel
def bX8_adopt_17 : List OP := [oi (.iload_n 1)]
theorem oX8_adopt_17 : okB mX8_adopt 17 bX8_adopt_17 = true := by decide +kernel
theorem eX8_adopt_18 : decode mX8_adopt.2.1 18 = .ok (.ifCond .ne 31, 3) := by decide +kernel
def bX8_adopt_21 : List OP := [oi (.aload_n 0), (.getfield 11, 0, 8, 0, 2, 175), oi (.iload_n 2), oi .iaload]
theorem oX8_adopt_21 : okB mX8_adopt 21 bX8_adopt_21 = true := by decide +kernel
theorem eX8_adopt_27 : decode mX8_adopt.2.1 27 = .ok (.invokestatic 39, 3) := by decide +kernel
theorem lX8_adopt_27 : okL 601 (.methodLink mX8_adopt.1.cls 39 mX8_isSize.1) = true := by decide +kernel
theorem eX8_adopt_30 : decode mX8_adopt.2.1 30 = .ok (.ifCond .eq 19, 3) := by decide +kernel
def bX8_adopt_33 : List OP := [oi (.aload_n 0), oi (.aload_n 0), (.getfield 11, 0, 8, 0, 2, 175), oi (.iload_n 2), oi .iaload, oi (.bipush 48), oi .isub, (.putfield 43, 7, 8, 7, 0, 183), (.goto 23, 0, 0, 69, 0, 0)]
theorem oX8_adopt_33 : okB mX8_adopt 33 bX8_adopt_33 = true := by decide +kernel
def bX8_adopt_49 : List OP := [oi (.aload_n 0), (.getfield 36, 6, 8, 6, 0, 182), oi (.bipush 6)]
theorem oX8_adopt_49 : okB mX8_adopt 49 bX8_adopt_49 = true := by decide +kernel
theorem eX8_adopt_55 : decode mX8_adopt.2.1 55 = .ok (.if_icmp .ge 14, 3) := by decide +kernel
def bX8_adopt_58 : List OP := [oi (.aload_n 0), oi (.iload_n 1), oi (.aload_n 0), (.getfield 11, 0, 8, 0, 2, 175), oi (.iload_n 2), oi .iaload]
theorem oX8_adopt_58 : okB mX8_adopt 58 bX8_adopt_58 = true := by decide +kernel
theorem eX8_adopt_66 : decode mX8_adopt.2.1 66 = .ok (.invokevirtual 46, 3) := by decide +kernel
theorem lX8_adopt_66 : okL 615 (.methodLink mX8_adopt.1.cls 46 mX8_takeSign.1) = true := by decide +kernel
def bX8_adopt_69 : List OP := [oi (.iload_n 1), oi (.aload_n 0), (.getfield 11, 0, 8, 0, 2, 175), oi (.iload_n 2), oi .iaload]
theorem oX8_adopt_69 : okB mX8_adopt 69 bX8_adopt_69 = true := by decide +kernel
theorem eX8_adopt_76 : decode mX8_adopt.2.1 76 = .ok (.invokestatic 32, 3) := by decide +kernel
theorem lX8_adopt_76 : okL 595 (.methodLink mX8_adopt.1.cls 32 mX8_after.1) = true := by decide +kernel
def bX8_adopt_79 : List OP := [oi (.istore_n 1), oi (.iinc 2 1), (.goto (-74), 0, 0, 9, 0, 0)]
theorem oX8_adopt_79 : okB mX8_adopt 79 bX8_adopt_79 = true := by decide +kernel
def bX8_adopt_86 : List OP := [oi (.aload_n 0), oi (.iconst 0), (.putfield 28, 1, 8, 1, 0, 176)]
theorem oX8_adopt_86 : okB mX8_adopt 86 bX8_adopt_86 = true := by decide +kernel
theorem eX8_adopt_91 : decode mX8_adopt.2.1 91 = .ok (.return_, 1) := by decide +kernel
def bX8_takeSign_0 : List OP := [oi (.iload_n 1)]
theorem oX8_takeSign_0 : okB mX8_takeSign 0 bX8_takeSign_0 = true := by decide +kernel
theorem eX8_takeSign_1 : decode mX8_takeSign.2.1 1 = .ok (.ifCond .ne 26, 3) := by decide +kernel
def bX8_takeSign_4 : List OP := [oi (.aload_n 0), (.getfield 15, 2, 8, 2, 2, 178), oi (.aload_n 0), (.getfield 36, 6, 8, 6, 0, 182), oi (.iload_n 2), oi .iastore, oi (.aload_n 0), (.getfield 22, 4, 8, 4, 2, 180), oi (.aload_n 0), (.getfield 36, 6, 8, 6, 0, 182), oi (.iconst 0), oi .iastore, (.goto 105, 0, 0, 129, 0, 0)]
theorem oX8_takeSign_4 : okB mX8_takeSign 4 bX8_takeSign_4 = true := by decide +kernel
def bX8_takeSign_27 : List OP := [oi (.iload_n 1), oi (.iconst 1)]
theorem oX8_takeSign_27 : okB mX8_takeSign 27 bX8_takeSign_27 = true := by decide +kernel
theorem eX8_takeSign_29 : decode mX8_takeSign.2.1 29 = .ok (.if_icmp .ne 26, 3) := by decide +kernel
def bX8_takeSign_32 : List OP := [oi (.aload_n 0), (.getfield 18, 3, 8, 3, 2, 179), oi (.aload_n 0), (.getfield 36, 6, 8, 6, 0, 182), oi (.iload_n 2), oi (.bipush 60)]
theorem oX8_takeSign_32 : okB mX8_takeSign 32 bX8_takeSign_32 = true := by decide +kernel
theorem eX8_takeSign_43 : decode mX8_takeSign.2.1 43 = .ok (.if_icmp .ne 7, 3) := by decide +kernel
def bX8_takeSign_46 : List OP := [oi (.iconst 1), (.goto 4, 0, 0, 51, 0, 0)]
theorem oX8_takeSign_46 : okB mX8_takeSign 46 bX8_takeSign_46 = true := by decide +kernel
def bX8_takeSign_50 : List OP := [oi (.iconst 0)]
theorem oX8_takeSign_50 : okB mX8_takeSign 50 bX8_takeSign_50 = true := by decide +kernel
def bX8_takeSign_51 : List OP := [oi .bastore, (.goto 77, 0, 0, 129, 0, 0)]
theorem oX8_takeSign_51 : okB mX8_takeSign 51 bX8_takeSign_51 = true := by decide +kernel
def bX8_takeSign_55 : List OP := [oi (.iload_n 1), oi (.bipush 6)]
theorem oX8_takeSign_55 : okB mX8_takeSign 55 bX8_takeSign_55 = true := by decide +kernel
theorem eX8_takeSign_58 : decode mX8_takeSign.2.1 58 = .ok (.if_icmp .ne 19, 3) := by decide +kernel
def bX8_takeSign_61 : List OP := [oi (.aload_n 0), (.getfield 25, 5, 8, 5, 2, 181), oi (.aload_n 0), (.getfield 36, 6, 8, 6, 0, 182), oi (.iload_n 2), oi (.bipush 48), oi .isub, oi .iastore, (.goto 55, 0, 0, 129, 0, 0)]
theorem oX8_takeSign_61 : okB mX8_takeSign 61 bX8_takeSign_61 = true := by decide +kernel
def bX8_takeSign_77 : List OP := [oi (.iload_n 1), oi (.bipush 7)]
theorem oX8_takeSign_77 : okB mX8_takeSign 77 bX8_takeSign_77 = true := by decide +kernel
theorem eX8_takeSign_80 : decode mX8_takeSign.2.1 80 = .ok (.if_icmp .ne 16, 3) := by decide +kernel
def bX8_takeSign_83 : List OP := [oi (.aload_n 0), oi .dup, (.getfield 36, 6, 8, 6, 0, 182), oi (.iconst 1), oi .iadd, (.putfield 36, 6, 8, 6, 0, 182), (.goto 36, 0, 0, 129, 0, 0)]
theorem oX8_takeSign_83 : okB mX8_takeSign 83 bX8_takeSign_83 = true := by decide +kernel
def bX8_takeSign_96 : List OP := [oi (.iload_n 2)]
theorem oX8_takeSign_96 : okB mX8_takeSign 96 bX8_takeSign_96 = true := by decide +kernel
theorem eX8_takeSign_97 : decode mX8_takeSign.2.1 97 = .ok (.invokestatic 50, 3) := by decide +kernel
theorem lX8_takeSign_97 : okL 604 (.methodLink mX8_takeSign.1.cls 50 mX8_isDigit.1) = true := by decide +kernel
theorem eX8_takeSign_100 : decode mX8_takeSign.2.1 100 = .ok (.ifCond .eq 29, 3) := by decide +kernel
def bX8_takeSign_103 : List OP := [oi (.aload_n 0), (.getfield 22, 4, 8, 4, 2, 180), oi (.aload_n 0), (.getfield 36, 6, 8, 6, 0, 182), oi (.aload_n 0), (.getfield 22, 4, 8, 4, 2, 180), oi (.aload_n 0), (.getfield 36, 6, 8, 6, 0, 182), oi .iaload, oi (.bipush 10), oi .imul, oi (.iload_n 2), oi .iadd, oi (.bipush 48), oi .isub, oi .iastore]
theorem oX8_takeSign_103 : okB mX8_takeSign 103 bX8_takeSign_103 = true := by decide +kernel
theorem eX8_takeSign_129 : decode mX8_takeSign.2.1 129 = .ok (.return_, 1) := by decide +kernel
def bX8_pick_0 : List OP := [oi (.iconst 0), oi (.istore 5)]
theorem oX8_pick_0 : okB mX8_pick 0 bX8_pick_0 = true := by decide +kernel
def bX8_pick_3 : List OP := [oi (.iload 5), oi (.aload_n 0), (.getfield 36, 6, 8, 6, 0, 182)]
theorem oX8_pick_3 : okB mX8_pick 3 bX8_pick_3 = true := by decide +kernel
theorem eX8_pick_9 : decode mX8_pick.2.1 9 = .ok (.if_icmp .ge 109, 3) := by decide +kernel
def bX8_pick_12 : List OP := [oi (.iload 4), oi (.istore 6), oi (.aload_n 0), (.getfield 15, 2, 8, 2, 2, 178), oi (.iload 5), oi .iaload, oi (.bipush 98)]
theorem oX8_pick_12 : okB mX8_pick 12 bX8_pick_12 = true := by decide +kernel
theorem eX8_pick_25 : decode mX8_pick.2.1 25 = .ok (.if_icmp .ne 9, 3) := by decide +kernel
def bX8_pick_28 : List OP := [oi (.iload_n 1), oi (.istore 6), (.goto 36, 0, 0, 67, 0, 0)]
theorem oX8_pick_28 : okB mX8_pick 28 bX8_pick_28 = true := by decide +kernel
def bX8_pick_34 : List OP := [oi (.aload_n 0), (.getfield 15, 2, 8, 2, 2, 178), oi (.iload 5), oi .iaload, oi (.bipush 108)]
theorem oX8_pick_34 : okB mX8_pick 34 bX8_pick_34 = true := by decide +kernel
theorem eX8_pick_43 : decode mX8_pick.2.1 43 = .ok (.if_icmp .ne 9, 3) := by decide +kernel
def bX8_pick_46 : List OP := [oi (.iload_n 2), oi (.istore 6), (.goto 18, 0, 0, 67, 0, 0)]
theorem oX8_pick_46 : okB mX8_pick 46 bX8_pick_46 = true := by decide +kernel
def bX8_pick_52 : List OP := [oi (.aload_n 0), (.getfield 15, 2, 8, 2, 2, 178), oi (.iload 5), oi .iaload, oi (.bipush 115)]
theorem oX8_pick_52 : okB mX8_pick 52 bX8_pick_52 = true := by decide +kernel
theorem eX8_pick_61 : decode mX8_pick.2.1 61 = .ok (.if_icmp .ne 6, 3) := by decide +kernel
def bX8_pick_64 : List OP := [oi (.iload_n 3), oi (.istore 6)]
theorem oX8_pick_64 : okB mX8_pick 64 bX8_pick_64 = true := by decide +kernel
def bX8_pick_67 : List OP := [oi (.aload_n 0), (.getfield 18, 3, 8, 3, 2, 179), oi (.iload 5), oi .baload]
theorem oX8_pick_67 : okB mX8_pick 67 bX8_pick_67 = true := by decide +kernel
theorem eX8_pick_74 : decode mX8_pick.2.1 74 = .ok (.ifCond .eq 18, 3) := by decide +kernel
def bX8_pick_77 : List OP := [oi (.iload 6), oi (.aload_n 0), (.getfield 22, 4, 8, 4, 2, 180), oi (.iload 5), oi .iaload]
theorem oX8_pick_77 : okB mX8_pick 77 bX8_pick_77 = true := by decide +kernel
theorem eX8_pick_86 : decode mX8_pick.2.1 86 = .ok (.if_icmp .ge 26, 3) := by decide +kernel
def bX8_pick_89 : List OP := [(.goto 15, 0, 0, 104, 0, 0)]
theorem oX8_pick_89 : okB mX8_pick 89 bX8_pick_89 = true := by decide +kernel
def bX8_pick_92 : List OP := [oi (.iload 6), oi (.aload_n 0), (.getfield 22, 4, 8, 4, 2, 180), oi (.iload 5), oi .iaload]
theorem oX8_pick_92 : okB mX8_pick 92 bX8_pick_92 = true := by decide +kernel
theorem eX8_pick_101 : decode mX8_pick.2.1 101 = .ok (.if_icmp .le 11, 3) := by decide +kernel
def bX8_pick_104 : List OP := [oi (.aload_n 0), (.getfield 25, 5, 8, 5, 2, 181), oi (.iload 5), oi .iaload]
theorem oX8_pick_104 : okB mX8_pick 104 bX8_pick_104 = true := by decide +kernel
theorem eX8_pick_111 : decode mX8_pick.2.1 111 = .ok (.ireturn, 1) := by decide +kernel
def bX8_pick_112 : List OP := [oi (.iinc 5 1), (.goto (-112), 0, 0, 3, 0, 0)]
theorem oX8_pick_112 : okB mX8_pick 112 bX8_pick_112 = true := by decide +kernel
def bX8_pick_118 : List OP := [oi (.aload_n 0), (.getfield 43, 7, 8, 7, 0, 183)]
theorem oX8_pick_118 : okB mX8_pick 118 bX8_pick_118 = true := by decide +kernel
theorem eX8_pick_122 : decode mX8_pick.2.1 122 = .ok (.ireturn, 1) := by decide +kernel
def bX8_after_0 : List OP := [oi (.iload_n 0)]
theorem oX8_after_0 : okB mX8_after 0 bX8_after_0 = true := by decide +kernel
theorem eX8_after_1 : decode mX8_after.2.1 1 = .ok (.tableswitch 198 0 7 #[47, 73, 92, 106, 131, 156, 170, 185], 47) := by decide +kernel
def bX8_after_48 : List OP := [oi (.iload_n 1)]
theorem oX8_after_48 : okB mX8_after 48 bX8_after_48 = true := by decide +kernel
theorem eX8_after_49 : decode mX8_after.2.1 49 = .ok (.invokestatic 53, 3) := by decide +kernel
theorem lX8_after_49 : okL 598 (.methodLink mX8_after.1.cls 53 mX8_isFact.1) = true := by decide +kernel
theorem eX8_after_52 : decode mX8_after.2.1 52 = .ok (.ifCond .eq 7, 3) := by decide +kernel
def bX8_after_55 : List OP := [oi (.iconst 1), (.goto 17, 0, 0, 73, 0, 0)]
theorem oX8_after_55 : okB mX8_after 55 bX8_after_55 = true := by decide +kernel
def bX8_after_59 : List OP := [oi (.iload_n 1)]
theorem oX8_after_59 : okB mX8_after 59 bX8_after_59 = true := by decide +kernel
theorem eX8_after_60 : decode mX8_after.2.1 60 = .ok (.invokestatic 39, 3) := by decide +kernel
theorem lX8_after_60 : okL 601 (.methodLink mX8_after.1.cls 39 mX8_isSize.1) = true := by decide +kernel
theorem eX8_after_63 : decode mX8_after.2.1 63 = .ok (.ifCond .eq 8, 3) := by decide +kernel
def bX8_after_66 : List OP := [oi (.bipush 8), (.goto 5, 0, 0, 73, 0, 0)]
theorem oX8_after_66 : okB mX8_after 66 bX8_after_66 = true := by decide +kernel
def bX8_after_71 : List OP := [oi (.bipush 9)]
theorem oX8_after_71 : okB mX8_after 71 bX8_after_71 = true := by decide +kernel
theorem eX8_after_73 : decode mX8_after.2.1 73 = .ok (.ireturn, 1) := by decide +kernel
def bX8_after_74 : List OP := [oi (.iload_n 1), oi (.bipush 60)]
theorem oX8_after_74 : okB mX8_after 74 bX8_after_74 = true := by decide +kernel
theorem eX8_after_77 : decode mX8_after.2.1 77 = .ok (.if_icmp .eq 9, 3) := by decide +kernel
def bX8_after_80 : List OP := [oi (.iload_n 1), oi (.bipush 62)]
theorem oX8_after_80 : okB mX8_after 80 bX8_after_80 = true := by decide +kernel
theorem eX8_after_83 : decode mX8_after.2.1 83 = .ok (.if_icmp .ne 7, 3) := by decide +kernel
def bX8_after_86 : List OP := [oi (.iconst 2), (.goto 5, 0, 0, 92, 0, 0)]
theorem oX8_after_86 : okB mX8_after 86 bX8_after_86 = true := by decide +kernel
def bX8_after_90 : List OP := [oi (.bipush 9)]
theorem oX8_after_90 : okB mX8_after 90 bX8_after_90 = true := by decide +kernel
theorem eX8_after_92 : decode mX8_after.2.1 92 = .ok (.ireturn, 1) := by decide +kernel
def bX8_after_93 : List OP := [oi (.iload_n 1)]
theorem oX8_after_93 : okB mX8_after 93 bX8_after_93 = true := by decide +kernel
theorem eX8_after_94 : decode mX8_after.2.1 94 = .ok (.invokestatic 50, 3) := by decide +kernel
theorem lX8_after_94 : okL 604 (.methodLink mX8_after.1.cls 50 mX8_isDigit.1) = true := by decide +kernel
theorem eX8_after_97 : decode mX8_after.2.1 97 = .ok (.ifCond .eq 7, 3) := by decide +kernel
def bX8_after_100 : List OP := [oi (.iconst 3), (.goto 5, 0, 0, 106, 0, 0)]
theorem oX8_after_100 : okB mX8_after 100 bX8_after_100 = true := by decide +kernel
def bX8_after_104 : List OP := [oi (.bipush 9)]
theorem oX8_after_104 : okB mX8_after 104 bX8_after_104 = true := by decide +kernel
theorem eX8_after_106 : decode mX8_after.2.1 106 = .ok (.ireturn, 1) := by decide +kernel
def bX8_after_107 : List OP := [oi (.iload_n 1)]
theorem oX8_after_107 : okB mX8_after 107 bX8_after_107 = true := by decide +kernel
theorem eX8_after_108 : decode mX8_after.2.1 108 = .ok (.invokestatic 50, 3) := by decide +kernel
theorem lX8_after_108 : okL 604 (.methodLink mX8_after.1.cls 50 mX8_isDigit.1) = true := by decide +kernel
theorem eX8_after_111 : decode mX8_after.2.1 111 = .ok (.ifCond .eq 7, 3) := by decide +kernel
def bX8_after_114 : List OP := [oi (.iconst 4), (.goto 16, 0, 0, 131, 0, 0)]
theorem oX8_after_114 : okB mX8_after 114 bX8_after_114 = true := by decide +kernel
def bX8_after_118 : List OP := [oi (.iload_n 1), oi (.bipush 58)]
theorem oX8_after_118 : okB mX8_after 118 bX8_after_118 = true := by decide +kernel
theorem eX8_after_121 : decode mX8_after.2.1 121 = .ok (.if_icmp .ne 8, 3) := by decide +kernel
def bX8_after_124 : List OP := [oi (.bipush 6), (.goto 5, 0, 0, 131, 0, 0)]
theorem oX8_after_124 : okB mX8_after 124 bX8_after_124 = true := by decide +kernel
def bX8_after_129 : List OP := [oi (.bipush 9)]
theorem oX8_after_129 : okB mX8_after 129 bX8_after_129 = true := by decide +kernel
theorem eX8_after_131 : decode mX8_after.2.1 131 = .ok (.ireturn, 1) := by decide +kernel
def bX8_after_132 : List OP := [oi (.iload_n 1)]
theorem oX8_after_132 : okB mX8_after 132 bX8_after_132 = true := by decide +kernel
theorem eX8_after_133 : decode mX8_after.2.1 133 = .ok (.invokestatic 50, 3) := by decide +kernel
theorem lX8_after_133 : okL 604 (.methodLink mX8_after.1.cls 50 mX8_isDigit.1) = true := by decide +kernel
theorem eX8_after_136 : decode mX8_after.2.1 136 = .ok (.ifCond .eq 7, 3) := by decide +kernel
def bX8_after_139 : List OP := [oi (.iconst 5), (.goto 16, 0, 0, 156, 0, 0)]
theorem oX8_after_139 : okB mX8_after 139 bX8_after_139 = true := by decide +kernel
def bX8_after_143 : List OP := [oi (.iload_n 1), oi (.bipush 58)]
theorem oX8_after_143 : okB mX8_after 143 bX8_after_143 = true := by decide +kernel
theorem eX8_after_146 : decode mX8_after.2.1 146 = .ok (.if_icmp .ne 8, 3) := by decide +kernel
def bX8_after_149 : List OP := [oi (.bipush 6), (.goto 5, 0, 0, 156, 0, 0)]
theorem oX8_after_149 : okB mX8_after 149 bX8_after_149 = true := by decide +kernel
def bX8_after_154 : List OP := [oi (.bipush 9)]
theorem oX8_after_154 : okB mX8_after 154 bX8_after_154 = true := by decide +kernel
theorem eX8_after_156 : decode mX8_after.2.1 156 = .ok (.ireturn, 1) := by decide +kernel
def bX8_after_157 : List OP := [oi (.iload_n 1), oi (.bipush 58)]
theorem oX8_after_157 : okB mX8_after 157 bX8_after_157 = true := by decide +kernel
theorem eX8_after_160 : decode mX8_after.2.1 160 = .ok (.if_icmp .ne 8, 3) := by decide +kernel
def bX8_after_163 : List OP := [oi (.bipush 6), (.goto 5, 0, 0, 170, 0, 0)]
theorem oX8_after_163 : okB mX8_after 163 bX8_after_163 = true := by decide +kernel
def bX8_after_168 : List OP := [oi (.bipush 9)]
theorem oX8_after_168 : okB mX8_after 168 bX8_after_168 = true := by decide +kernel
theorem eX8_after_170 : decode mX8_after.2.1 170 = .ok (.ireturn, 1) := by decide +kernel
def bX8_after_171 : List OP := [oi (.iload_n 1)]
theorem oX8_after_171 : okB mX8_after 171 bX8_after_171 = true := by decide +kernel
theorem eX8_after_172 : decode mX8_after.2.1 172 = .ok (.invokestatic 39, 3) := by decide +kernel
theorem lX8_after_172 : okL 601 (.methodLink mX8_after.1.cls 39 mX8_isSize.1) = true := by decide +kernel
theorem eX8_after_175 : decode mX8_after.2.1 175 = .ok (.ifCond .eq 8, 3) := by decide +kernel
def bX8_after_178 : List OP := [oi (.bipush 7), (.goto 5, 0, 0, 185, 0, 0)]
theorem oX8_after_178 : okB mX8_after 178 bX8_after_178 = true := by decide +kernel
def bX8_after_183 : List OP := [oi (.bipush 9)]
theorem oX8_after_183 : okB mX8_after 183 bX8_after_183 = true := by decide +kernel
theorem eX8_after_185 : decode mX8_after.2.1 185 = .ok (.ireturn, 1) := by decide +kernel
def bX8_after_186 : List OP := [oi (.iload_n 1), oi (.bipush 59)]
theorem oX8_after_186 : okB mX8_after 186 bX8_after_186 = true := by decide +kernel
theorem eX8_after_189 : decode mX8_after.2.1 189 = .ok (.if_icmp .ne 7, 3) := by decide +kernel
def bX8_after_192 : List OP := [oi (.iconst 0), (.goto 5, 0, 0, 198, 0, 0)]
theorem oX8_after_192 : okB mX8_after 192 bX8_after_192 = true := by decide +kernel
def bX8_after_196 : List OP := [oi (.bipush 9)]
theorem oX8_after_196 : okB mX8_after 196 bX8_after_196 = true := by decide +kernel
theorem eX8_after_198 : decode mX8_after.2.1 198 = .ok (.ireturn, 1) := by decide +kernel
def bX8_after_199 : List OP := [oi (.bipush 9)]
theorem oX8_after_199 : okB mX8_after 199 bX8_after_199 = true := by decide +kernel
theorem eX8_after_201 : decode mX8_after.2.1 201 = .ok (.ireturn, 1) := by decide +kernel
def bX8_isFact_0 : List OP := [oi (.iload_n 0), oi (.bipush 98)]
theorem oX8_isFact_0 : okB mX8_isFact 0 bX8_isFact_0 = true := by decide +kernel
theorem eX8_isFact_3 : decode mX8_isFact.2.1 3 = .ok (.if_icmp .eq 21, 3) := by decide +kernel
def bX8_isFact_6 : List OP := [oi (.iload_n 0), oi (.bipush 108)]
theorem oX8_isFact_6 : okB mX8_isFact 6 bX8_isFact_6 = true := by decide +kernel
theorem eX8_isFact_9 : decode mX8_isFact.2.1 9 = .ok (.if_icmp .eq 15, 3) := by decide +kernel
def bX8_isFact_12 : List OP := [oi (.iload_n 0), oi (.bipush 115)]
theorem oX8_isFact_12 : okB mX8_isFact 12 bX8_isFact_12 = true := by decide +kernel
theorem eX8_isFact_15 : decode mX8_isFact.2.1 15 = .ok (.if_icmp .eq 9, 3) := by decide +kernel
def bX8_isFact_18 : List OP := [oi (.iload_n 0), oi (.bipush 107)]
theorem oX8_isFact_18 : okB mX8_isFact 18 bX8_isFact_18 = true := by decide +kernel
theorem eX8_isFact_21 : decode mX8_isFact.2.1 21 = .ok (.if_icmp .ne 7, 3) := by decide +kernel
def bX8_isFact_24 : List OP := [oi (.iconst 1), (.goto 4, 0, 0, 29, 0, 0)]
theorem oX8_isFact_24 : okB mX8_isFact 24 bX8_isFact_24 = true := by decide +kernel
def bX8_isFact_28 : List OP := [oi (.iconst 0)]
theorem oX8_isFact_28 : okB mX8_isFact 28 bX8_isFact_28 = true := by decide +kernel
theorem eX8_isFact_29 : decode mX8_isFact.2.1 29 = .ok (.ireturn, 1) := by decide +kernel
def bX8_isSize_0 : List OP := [oi (.iload_n 0), oi (.bipush 48)]
theorem oX8_isSize_0 : okB mX8_isSize 0 bX8_isSize_0 = true := by decide +kernel
theorem eX8_isSize_3 : decode mX8_isSize.2.1 3 = .ok (.if_icmp .lt 13, 3) := by decide +kernel
def bX8_isSize_6 : List OP := [oi (.iload_n 0), oi (.bipush 50)]
theorem oX8_isSize_6 : okB mX8_isSize 6 bX8_isSize_6 = true := by decide +kernel
theorem eX8_isSize_9 : decode mX8_isSize.2.1 9 = .ok (.if_icmp .gt 7, 3) := by decide +kernel
def bX8_isSize_12 : List OP := [oi (.iconst 1), (.goto 4, 0, 0, 17, 0, 0)]
theorem oX8_isSize_12 : okB mX8_isSize 12 bX8_isSize_12 = true := by decide +kernel
def bX8_isSize_16 : List OP := [oi (.iconst 0)]
theorem oX8_isSize_16 : okB mX8_isSize 16 bX8_isSize_16 = true := by decide +kernel
theorem eX8_isSize_17 : decode mX8_isSize.2.1 17 = .ok (.ireturn, 1) := by decide +kernel
def bX8_isDigit_0 : List OP := [oi (.iload_n 0), oi (.bipush 48)]
theorem oX8_isDigit_0 : okB mX8_isDigit 0 bX8_isDigit_0 = true := by decide +kernel
theorem eX8_isDigit_3 : decode mX8_isDigit.2.1 3 = .ok (.if_icmp .lt 13, 3) := by decide +kernel
def bX8_isDigit_6 : List OP := [oi (.iload_n 0), oi (.bipush 57)]
theorem oX8_isDigit_6 : okB mX8_isDigit 6 bX8_isDigit_6 = true := by decide +kernel
theorem eX8_isDigit_9 : decode mX8_isDigit.2.1 9 = .ok (.if_icmp .gt 7, 3) := by decide +kernel
def bX8_isDigit_12 : List OP := [oi (.iconst 1), (.goto 4, 0, 0, 17, 0, 0)]
theorem oX8_isDigit_12 : okB mX8_isDigit 12 bX8_isDigit_12 = true := by decide +kernel
def bX8_isDigit_16 : List OP := [oi (.iconst 0)]
theorem oX8_isDigit_16 : okB mX8_isDigit 16 bX8_isDigit_16 = true := by decide +kernel
theorem eX8_isDigit_17 : decode mX8_isDigit.2.1 17 = .ok (.ireturn, 1) := by decide +kernel
def bX10_changeRoom_0 : List OP := [oi (.aload_n 0), (.getfield 7, 0, 10, 0, 2, 283), oi (.iload_n 1), oi .iaload, oi (.istore_n 3), oi (.aload_n 0), (.getfield 7, 0, 10, 0, 2, 283), oi (.iload_n 1), oi (.iload_n 2), oi .iastore, oi (.iload_n 3)]
theorem oX10_changeRoom_0 : okB mX10_changeRoom 0 bX10_changeRoom_0 = true := by decide +kernel
theorem eX10_changeRoom_15 : decode mX10_changeRoom.2.1 15 = .ok (.ireturn, 1) := by decide +kernel
def bX10_changeFar_0 : List OP := [oi (.aload_n 0), (.getfield 13, 1, 10, 1, 2, 284), oi (.iload_n 1), oi .iaload, oi (.istore_n 3), oi (.aload_n 0), (.getfield 13, 1, 10, 1, 2, 284), oi (.iload_n 1), oi (.iload_n 2), oi .iastore, oi (.iload_n 3)]
theorem oX10_changeFar_0 : okB mX10_changeFar 0 bX10_changeFar_0 = true := by decide +kernel
theorem eX10_changeFar_15 : decode mX10_changeFar.2.1 15 = .ok (.ireturn, 1) := by decide +kernel
def bX10_changeWeight_0 : List OP := [oi (.aload_n 0), (.getfield 16, 2, 10, 2, 2, 285), oi (.iload_n 1), oi .iaload, oi (.istore_n 3), oi (.aload_n 0), (.getfield 16, 2, 10, 2, 2, 285), oi (.iload_n 1), oi (.iload_n 2), oi .iastore, oi (.iload_n 3)]
theorem oX10_changeWeight_0 : okB mX10_changeWeight 0 bX10_changeWeight_0 = true := by decide +kernel
theorem eX10_changeWeight_15 : decode mX10_changeWeight.2.1 15 = .ok (.ireturn, 1) := by decide +kernel
def bX10_changeAsks_0 : List OP := [oi (.aload_n 0), (.getfield 19, 3, 10, 3, 2, 286), oi (.iload_n 1), oi (.bipush 6), oi .imul, oi (.iload_n 2), oi .iadd, oi .iaload, oi (.istore 4), oi (.aload_n 0), (.getfield 19, 3, 10, 3, 2, 286), oi (.iload_n 1), oi (.bipush 6), oi .imul, oi (.iload_n 2), oi .iadd, oi (.iload_n 3), oi .iastore, oi (.iload 4)]
theorem oX10_changeAsks_0 : okB mX10_changeAsks 0 bX10_changeAsks_0 = true := by decide +kernel
theorem eX10_changeAsks_27 : decode mX10_changeAsks.2.1 27 = .ok (.ireturn, 1) := by decide +kernel
def bX10_bestFilms_0 : List OP := [oi (.iconst 0), oi (.istore_n 2), oi (.iconst 0), oi (.istore_n 3), oi (.aload_n 0), oi (.iload_n 1), oi (.iconst 0)]
theorem oX10_bestFilms_0 : okB mX10_bestFilms 0 bX10_bestFilms_0 = true := by decide +kernel
theorem eX10_bestFilms_7 : decode mX10_bestFilms.2.1 7 = .ok (.invokevirtual 22, 3) := by decide +kernel
theorem lX10_bestFilms_7 : okL 748 (.methodLink mX10_bestFilms.1.cls 22 mX10_costOf.1) = true := by decide +kernel
def bX10_bestFilms_10 : List OP := [oi (.istore 4), oi (.iconst 1), oi (.istore 5)]
theorem oX10_bestFilms_10 : okB mX10_bestFilms 10 bX10_bestFilms_10 = true := by decide +kernel
def bX10_bestFilms_15 : List OP := [oi (.iload 5), oi (.bipush 64)]
theorem oX10_bestFilms_15 : okB mX10_bestFilms 15 bX10_bestFilms_15 = true := by decide +kernel
theorem eX10_bestFilms_19 : decode mX10_bestFilms.2.1 19 = .ok (.if_icmp .ge 67, 3) := by decide +kernel
def bX10_bestFilms_22 : List OP := [oi (.aload_n 0), oi (.iload 5)]
theorem oX10_bestFilms_22 : okB mX10_bestFilms 22 bX10_bestFilms_22 = true := by decide +kernel
theorem eX10_bestFilms_25 : decode mX10_bestFilms.2.1 25 = .ok (.invokevirtual 26, 3) := by decide +kernel
theorem lX10_bestFilms_25 : okL 752 (.methodLink mX10_bestFilms.1.cls 26 mX10_weightOf.1) = true := by decide +kernel
def bX10_bestFilms_28 : List OP := [oi (.istore 6), oi (.iload 6), oi (.aload_n 0), (.getfield 7, 0, 10, 0, 2, 283), oi (.iload_n 1), oi .iaload]
theorem oX10_bestFilms_28 : okB mX10_bestFilms 28 bX10_bestFilms_28 = true := by decide +kernel
theorem eX10_bestFilms_38 : decode mX10_bestFilms.2.1 38 = .ok (.if_icmp .gt 42, 3) := by decide +kernel
def bX10_bestFilms_41 : List OP := [oi (.aload_n 0), oi (.iload_n 1), oi (.iload 5)]
theorem oX10_bestFilms_41 : okB mX10_bestFilms 41 bX10_bestFilms_41 = true := by decide +kernel
theorem eX10_bestFilms_45 : decode mX10_bestFilms.2.1 45 = .ok (.invokevirtual 22, 3) := by decide +kernel
theorem lX10_bestFilms_45 : okL 748 (.methodLink mX10_bestFilms.1.cls 22 mX10_costOf.1) = true := by decide +kernel
def bX10_bestFilms_48 : List OP := [oi (.istore 7), oi (.iload 7), oi (.iload 4)]
theorem oX10_bestFilms_48 : okB mX10_bestFilms 48 bX10_bestFilms_48 = true := by decide +kernel
theorem eX10_bestFilms_54 : decode mX10_bestFilms.2.1 54 = .ok (.if_icmp .lt 16, 3) := by decide +kernel
def bX10_bestFilms_57 : List OP := [oi (.iload 7), oi (.iload 4)]
theorem oX10_bestFilms_57 : okB mX10_bestFilms 57 bX10_bestFilms_57 = true := by decide +kernel
theorem eX10_bestFilms_61 : decode mX10_bestFilms.2.1 61 = .ok (.if_icmp .ne 19, 3) := by decide +kernel
def bX10_bestFilms_64 : List OP := [oi (.iload 6), oi (.iload_n 3)]
theorem oX10_bestFilms_64 : okB mX10_bestFilms 64 bX10_bestFilms_64 = true := by decide +kernel
theorem eX10_bestFilms_67 : decode mX10_bestFilms.2.1 67 = .ok (.if_icmp .ge 13, 3) := by decide +kernel
def bX10_bestFilms_70 : List OP := [oi (.iload 5), oi (.istore_n 2), oi (.iload 6), oi (.istore_n 3), oi (.iload 7), oi (.istore 4)]
theorem oX10_bestFilms_70 : okB mX10_bestFilms 70 bX10_bestFilms_70 = true := by decide +kernel
def bX10_bestFilms_80 : List OP := [oi (.iinc 5 1), (.goto (-68), 0, 0, 15, 0, 0)]
theorem oX10_bestFilms_80 : okB mX10_bestFilms 80 bX10_bestFilms_80 = true := by decide +kernel
def bX10_bestFilms_86 : List OP := [oi (.iload_n 2)]
theorem oX10_bestFilms_86 : okB mX10_bestFilms 86 bX10_bestFilms_86 = true := by decide +kernel
theorem eX10_bestFilms_87 : decode mX10_bestFilms.2.1 87 = .ok (.ireturn, 1) := by decide +kernel
def bX10_weightOf_0 : List OP := [oi (.iconst 0), oi (.istore_n 2), oi (.iconst 0), oi (.istore_n 3)]
theorem oX10_weightOf_0 : okB mX10_weightOf 0 bX10_weightOf_0 = true := by decide +kernel
def bX10_weightOf_4 : List OP := [oi (.iload_n 3), oi (.bipush 6)]
theorem oX10_weightOf_4 : okB mX10_weightOf 4 bX10_weightOf_4 = true := by decide +kernel
theorem eX10_weightOf_7 : decode mX10_weightOf.2.1 7 = .ok (.if_icmp .ge 24, 3) := by decide +kernel
def bX10_weightOf_10 : List OP := [oi (.iload_n 2), oi (.iload_n 1), oi (.iload_n 3), oi .ishr, oi (.iconst 1), oi .iand, oi (.aload_n 0), (.getfield 16, 2, 10, 2, 2, 285), oi (.iload_n 3), oi .iaload, oi .imul, oi .iadd, oi (.istore_n 2), oi (.iinc 3 1), (.goto (-24), 0, 0, 4, 0, 0)]
theorem oX10_weightOf_10 : okB mX10_weightOf 10 bX10_weightOf_10 = true := by decide +kernel
def bX10_weightOf_31 : List OP := [oi (.iload_n 2)]
theorem oX10_weightOf_31 : okB mX10_weightOf 31 bX10_weightOf_31 = true := by decide +kernel
theorem eX10_weightOf_32 : decode mX10_weightOf.2.1 32 = .ok (.ireturn, 1) := by decide +kernel
def bX10_costOf_0 : List OP := [oi (.iconst 0), oi (.istore_n 3), oi (.iconst 0), oi (.istore 4)]
theorem oX10_costOf_0 : okB mX10_costOf 0 bX10_costOf_0 = true := by decide +kernel
def bX10_costOf_5 : List OP := [oi (.iload 4), oi (.bipush 6)]
theorem oX10_costOf_5 : okB mX10_costOf 5 bX10_costOf_5 = true := by decide +kernel
theorem eX10_costOf_9 : decode mX10_costOf.2.1 9 = .ok (.if_icmp .ge 33, 3) := by decide +kernel
def bX10_costOf_12 : List OP := [oi (.iload_n 2), oi (.iload 4), oi .ishr, oi (.iconst 1), oi .iand]
theorem oX10_costOf_12 : okB mX10_costOf 12 bX10_costOf_12 = true := by decide +kernel
theorem eX10_costOf_18 : decode mX10_costOf.2.1 18 = .ok (.ifCond .ne 18, 3) := by decide +kernel
def bX10_costOf_21 : List OP := [oi (.iload_n 3), oi (.aload_n 0), (.getfield 19, 3, 10, 3, 2, 286), oi (.iload_n 1), oi (.bipush 6), oi .imul, oi (.iload 4), oi .iadd, oi .iaload, oi .iadd, oi (.istore_n 3)]
theorem oX10_costOf_21 : okB mX10_costOf 21 bX10_costOf_21 = true := by decide +kernel
def bX10_costOf_36 : List OP := [oi (.iinc 4 1), (.goto (-34), 0, 0, 5, 0, 0)]
theorem oX10_costOf_36 : okB mX10_costOf 36 bX10_costOf_36 = true := by decide +kernel
def bX10_costOf_42 : List OP := [oi (.iload_n 3), oi (.aload_n 0), (.getfield 13, 1, 10, 1, 2, 284), oi (.iload_n 1), oi .iaload, oi .imul]
theorem oX10_costOf_42 : okB mX10_costOf 42 bX10_costOf_42 = true := by decide +kernel
theorem eX10_costOf_50 : decode mX10_costOf.2.1 50 = .ok (.ireturn, 1) := by decide +kernel

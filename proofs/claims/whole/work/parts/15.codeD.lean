/-! ===== code as blocks ===== -/
def bX12_in_0 : List OP := [oi (.iload_n 0), oi (.iload_n 1)]
theorem oX12_in_0 : okB mX12_in 0 bX12_in_0 = true := by decide +kernel
theorem eX12_in_2 : decode mX12_in.2.1 2 = .ok (.if_icmp .lt 12, 3) := by decide +kernel
def bX12_in_5 : List OP := [oi (.iload_n 0), oi (.iload_n 2)]
theorem oX12_in_5 : okB mX12_in 5 bX12_in_5 = true := by decide +kernel
theorem eX12_in_7 : decode mX12_in.2.1 7 = .ok (.if_icmp .gt 7, 3) := by decide +kernel
def bX12_in_10 : List OP := [oi (.iconst 1), (.goto 4, 0, 0, 15, 0, 0)]
theorem oX12_in_10 : okB mX12_in 10 bX12_in_10 = true := by decide +kernel
def bX12_in_14 : List OP := [oi (.iconst 0)]
theorem oX12_in_14 : okB mX12_in 14 bX12_in_14 = true := by decide +kernel
theorem eX12_in_15 : decode mX12_in.2.1 15 = .ok (.ireturn, 1) := by decide +kernel
def bX12_isFrame_0 : List OP := [oi (.iload_n 1), oi (.iconst 0), oi (.aload_n 0), (.getfield 99, 0, 12, 0, 0, 967), oi (.iconst 1), oi .isub]
theorem oX12_isFrame_0 : okB mX12_isFrame 0 bX12_isFrame_0 = true := by decide +kernel
theorem eX12_isFrame_8 : decode mX12_isFrame.2.1 8 = .ok (.invokestatic 102, 3) := by decide +kernel
theorem lX12_isFrame_8 : okL 1091 (.methodLink mX12_isFrame.1.cls 102 mX12_in.1) = true := by decide +kernel
theorem eX12_isFrame_11 : decode mX12_isFrame.2.1 11 = .ok (.ireturn, 1) := by decide +kernel
def bX12_frame_0 : List OP := [oi (.aload_n 0), (.getfield 99, 0, 12, 0, 0, 967), oi (.bipush 10)]
theorem oX12_frame_0 : okB mX12_frame 0 bX12_frame_0 = true := by decide +kernel
theorem eX12_frame_6 : decode mX12_frame.2.1 6 = .ok (.if_icmp .ne 6, 3) := by decide +kernel
def bX12_frame_9 : List OP := [oi (.bipush (-4))]
theorem oX12_frame_9 : okB mX12_frame 9 bX12_frame_9 = true := by decide +kernel
theorem eX12_frame_11 : decode mX12_frame.2.1 11 = .ok (.ireturn, 1) := by decide +kernel
def bX12_frame_12 : List OP := [oi (.aload_n 0), (.getfield 13, 2, 12, 2, 2, 969), oi (.aload_n 0), (.getfield 99, 0, 12, 0, 0, 967), oi (.aload_n 0), (.getfield 99, 0, 12, 0, 0, 967)]
theorem oX12_frame_12 : okB mX12_frame 12 bX12_frame_12 = true := by decide +kernel
theorem eX12_frame_24 : decode mX12_frame.2.1 24 = .ok (.ifCond .ne 7, 3) := by decide +kernel
def bX12_frame_27 : List OP := [oi (.iconst 1), (.goto 4, 0, 0, 32, 0, 0)]
theorem oX12_frame_27 : okB mX12_frame 27 bX12_frame_27 = true := by decide +kernel
def bX12_frame_31 : List OP := [oi (.iconst 0)]
theorem oX12_frame_31 : okB mX12_frame 31 bX12_frame_31 = true := by decide +kernel
def bX12_frame_32 : List OP := [oi .bastore, oi (.iconst 0), oi (.istore_n 1)]
theorem oX12_frame_32 : okB mX12_frame 32 bX12_frame_32 = true := by decide +kernel
def bX12_frame_35 : List OP := [oi (.iload_n 1), oi (.bipush 16)]
theorem oX12_frame_35 : okB mX12_frame 35 bX12_frame_35 = true := by decide +kernel
theorem eX12_frame_38 : decode mX12_frame.2.1 38 = .ok (.if_icmp .ge 24, 3) := by decide +kernel
def bX12_frame_41 : List OP := [oi (.aload_n 0), (.getfield 7, 1, 12, 1, 2, 968), oi (.bipush 16), oi (.aload_n 0), (.getfield 99, 0, 12, 0, 0, 967), oi .imul, oi (.iload_n 1), oi .iadd, oi (.iconst 0), oi .iastore, oi (.iinc 1 1), (.goto (-24), 0, 0, 35, 0, 0)]
theorem oX12_frame_41 : okB mX12_frame 41 bX12_frame_41 = true := by decide +kernel
def bX12_frame_62 : List OP := [oi (.aload_n 0), oi .dup, (.getfield 99, 0, 12, 0, 0, 967), oi (.iconst 1), oi .iadd, (.putfield 99, 0, 12, 0, 0, 967), oi (.aload_n 0), (.getfield 99, 0, 12, 0, 0, 967), oi (.iconst 1), oi .isub]
theorem oX12_frame_62 : okB mX12_frame 62 bX12_frame_62 = true := by decide +kernel
theorem eX12_frame_78 : decode mX12_frame.2.1 78 = .ok (.ireturn, 1) := by decide +kernel
def bX12_dot_0 : List OP := [oi (.aload_n 0), oi (.iload_n 1)]
theorem oX12_dot_0 : okB mX12_dot 0 bX12_dot_0 = true := by decide +kernel
theorem eX12_dot_2 : decode mX12_dot.2.1 2 = .ok (.invokevirtual 106, 3) := by decide +kernel
theorem lX12_dot_2 : okL 1087 (.methodLink mX12_dot.1.cls 106 mX12_isFrame.1) = true := by decide +kernel
theorem eX12_dot_5 : decode mX12_dot.2.1 5 = .ok (.ifCond .ne 5, 3) := by decide +kernel
def bX12_dot_8 : List OP := [oi (.iconst (-1))]
theorem oX12_dot_8 : okB mX12_dot 8 bX12_dot_8 = true := by decide +kernel
theorem eX12_dot_9 : decode mX12_dot.2.1 9 = .ok (.ireturn, 1) := by decide +kernel
def bX12_dot_10 : List OP := [oi (.iload_n 2), oi (.iconst 0), oi (.bipush 15)]
theorem oX12_dot_10 : okB mX12_dot 10 bX12_dot_10 = true := by decide +kernel
theorem eX12_dot_14 : decode mX12_dot.2.1 14 = .ok (.invokestatic 102, 3) := by decide +kernel
theorem lX12_dot_14 : okL 1091 (.methodLink mX12_dot.1.cls 102 mX12_in.1) = true := by decide +kernel
theorem eX12_dot_17 : decode mX12_dot.2.1 17 = .ok (.ifCond .eq 13, 3) := by decide +kernel
def bX12_dot_20 : List OP := [oi (.iload_n 3), oi (.iconst 0), oi (.bipush 15)]
theorem oX12_dot_20 : okB mX12_dot 20 bX12_dot_20 = true := by decide +kernel
theorem eX12_dot_24 : decode mX12_dot.2.1 24 = .ok (.invokestatic 102, 3) := by decide +kernel
theorem lX12_dot_24 : okL 1091 (.methodLink mX12_dot.1.cls 102 mX12_in.1) = true := by decide +kernel
theorem eX12_dot_27 : decode mX12_dot.2.1 27 = .ok (.ifCond .ne 6, 3) := by decide +kernel
def bX12_dot_30 : List OP := [oi (.bipush (-2))]
theorem oX12_dot_30 : okB mX12_dot 30 bX12_dot_30 = true := by decide +kernel
theorem eX12_dot_32 : decode mX12_dot.2.1 32 = .ok (.ireturn, 1) := by decide +kernel
def bX12_dot_33 : List OP := [oi (.aload_n 0), (.getfield 7, 1, 12, 1, 2, 968), oi (.bipush 16), oi (.iload_n 1), oi .imul, oi (.iload_n 2), oi .iadd, oi .iaload, oi (.istore 4), oi (.aload_n 0), (.getfield 7, 1, 12, 1, 2, 968), oi (.bipush 16), oi (.iload_n 1), oi .imul, oi (.iload_n 2), oi .iadd, oi (.iload_n 3), oi .iastore, oi (.iload 4)]
theorem oX12_dot_33 : okB mX12_dot 33 bX12_dot_33 = true := by decide +kernel
theorem eX12_dot_60 : decode mX12_dot.2.1 60 = .ok (.ireturn, 1) := by decide +kernel
def bX12_key_0 : List OP := [oi (.aload_n 0), oi (.iload_n 1)]
theorem oX12_key_0 : okB mX12_key 0 bX12_key_0 = true := by decide +kernel
theorem eX12_key_2 : decode mX12_key.2.1 2 = .ok (.invokevirtual 106, 3) := by decide +kernel
theorem lX12_key_2 : okL 1087 (.methodLink mX12_key.1.cls 106 mX12_isFrame.1) = true := by decide +kernel
theorem eX12_key_5 : decode mX12_key.2.1 5 = .ok (.ifCond .ne 5, 3) := by decide +kernel
def bX12_key_8 : List OP := [oi (.iconst (-1))]
theorem oX12_key_8 : okB mX12_key 8 bX12_key_8 = true := by decide +kernel
theorem eX12_key_9 : decode mX12_key.2.1 9 = .ok (.ireturn, 1) := by decide +kernel
def bX12_key_10 : List OP := [oi (.iload_n 1)]
theorem oX12_key_10 : okB mX12_key 10 bX12_key_10 = true := by decide +kernel
theorem eX12_key_11 : decode mX12_key.2.1 11 = .ok (.ifCond .ne 6, 3) := by decide +kernel
def bX12_key_14 : List OP := [oi (.bipush (-5))]
theorem oX12_key_14 : okB mX12_key 14 bX12_key_14 = true := by decide +kernel
theorem eX12_key_16 : decode mX12_key.2.1 16 = .ok (.ireturn, 1) := by decide +kernel
def bX12_key_17 : List OP := [oi (.aload_n 0), (.getfield 13, 2, 12, 2, 2, 969), oi (.iload_n 1), oi .baload]
theorem oX12_key_17 : okB mX12_key 17 bX12_key_17 = true := by decide +kernel
theorem eX12_key_23 : decode mX12_key.2.1 23 = .ok (.ifCond .eq 7, 3) := by decide +kernel
def bX12_key_26 : List OP := [oi (.iconst 1), (.goto 4, 0, 0, 31, 0, 0)]
theorem oX12_key_26 : okB mX12_key 26 bX12_key_26 = true := by decide +kernel
def bX12_key_30 : List OP := [oi (.iconst 0)]
theorem oX12_key_30 : okB mX12_key 30 bX12_key_30 = true := by decide +kernel
def bX12_key_31 : List OP := [oi (.istore_n 3), oi (.aload_n 0), (.getfield 13, 2, 12, 2, 2, 969), oi (.iload_n 1), oi (.iload_n 2), oi .bastore, oi (.iload_n 3)]
theorem oX12_key_31 : okB mX12_key 31 bX12_key_31 = true := by decide +kernel
theorem eX12_key_40 : decode mX12_key.2.1 40 = .ok (.ireturn, 1) := by decide +kernel
def bX12_set_0 : List OP := [oi (.iload_n 1), oi (.iconst 0), oi (.bipush 6)]
theorem oX12_set_0 : okB mX12_set 0 bX12_set_0 = true := by decide +kernel
theorem eX12_set_4 : decode mX12_set.2.1 4 = .ok (.invokestatic 102, 3) := by decide +kernel
theorem lX12_set_4 : okL 1091 (.methodLink mX12_set.1.cls 102 mX12_in.1) = true := by decide +kernel
theorem eX12_set_7 : decode mX12_set.2.1 7 = .ok (.ifCond .ne 6, 3) := by decide +kernel
def bX12_set_10 : List OP := [oi (.bipush (-2))]
theorem oX12_set_10 : okB mX12_set 10 bX12_set_10 = true := by decide +kernel
theorem eX12_set_12 : decode mX12_set.2.1 12 = .ok (.ireturn, 1) := by decide +kernel
def bX12_set_13 : List OP := [oi (.iload_n 1)]
theorem oX12_set_13 : okB mX12_set 13 bX12_set_13 = true := by decide +kernel
theorem eX12_set_14 : decode mX12_set.2.1 14 = .ok (.ifCond .ne 8, 3) := by decide +kernel
def bX12_set_17 : List OP := [oi (.bipush 80), (.goto 57, 0, 0, 76, 0, 0)]
theorem oX12_set_17 : okB mX12_set 17 bX12_set_17 = true := by decide +kernel
def bX12_set_22 : List OP := [oi (.iload_n 1), oi (.iconst 1)]
theorem oX12_set_22 : okB mX12_set 22 bX12_set_22 = true := by decide +kernel
theorem eX12_set_24 : decode mX12_set.2.1 24 = .ok (.if_icmp .ne 9, 3) := by decide +kernel
def bX12_set_27 : List OP := [oi (.sipush 240), (.goto 46, 0, 0, 76, 0, 0)]
theorem oX12_set_27 : okB mX12_set 27 bX12_set_27 = true := by decide +kernel
def bX12_set_33 : List OP := [oi (.iload_n 1), oi (.iconst 2)]
theorem oX12_set_33 : okB mX12_set 33 bX12_set_33 = true := by decide +kernel
theorem eX12_set_35 : decode mX12_set.2.1 35 = .ok (.if_icmp .ne 8, 3) := by decide +kernel
def bX12_set_38 : List OP := [oi (.bipush 8), (.goto 36, 0, 0, 76, 0, 0)]
theorem oX12_set_38 : okB mX12_set 38 bX12_set_38 = true := by decide +kernel
def bX12_set_43 : List OP := [oi (.iload_n 1), oi (.iconst 3)]
theorem oX12_set_43 : okB mX12_set 43 bX12_set_43 = true := by decide +kernel
theorem eX12_set_45 : decode mX12_set.2.1 45 = .ok (.if_icmp .ne 8, 3) := by decide +kernel
def bX12_set_48 : List OP := [oi (.bipush 100), (.goto 26, 0, 0, 76, 0, 0)]
theorem oX12_set_48 : okB mX12_set 48 bX12_set_48 = true := by decide +kernel
def bX12_set_53 : List OP := [oi (.iload_n 1), oi (.iconst 4)]
theorem oX12_set_53 : okB mX12_set 53 bX12_set_53 = true := by decide +kernel
theorem eX12_set_55 : decode mX12_set.2.1 55 = .ok (.if_icmp .ne 8, 3) := by decide +kernel
def bX12_set_58 : List OP := [oi (.bipush 60), (.goto 16, 0, 0, 76, 0, 0)]
theorem oX12_set_58 : okB mX12_set 58 bX12_set_58 = true := by decide +kernel
def bX12_set_63 : List OP := [oi (.iload_n 1), oi (.iconst 5)]
theorem oX12_set_63 : okB mX12_set 63 bX12_set_63 = true := by decide +kernel
theorem eX12_set_65 : decode mX12_set.2.1 65 = .ok (.if_icmp .ne 9, 3) := by decide +kernel
def bX12_set_68 : List OP := [oi (.sipush 1000), (.goto 5, 0, 0, 76, 0, 0)]
theorem oX12_set_68 : okB mX12_set 68 bX12_set_68 = true := by decide +kernel
def bX12_set_74 : List OP := [oi (.bipush 9)]
theorem oX12_set_74 : okB mX12_set 74 bX12_set_74 = true := by decide +kernel
def bX12_set_76 : List OP := [oi (.istore_n 3), oi (.iload_n 2), oi (.iload_n 1), oi (.iconst 2)]
theorem oX12_set_76 : okB mX12_set 76 bX12_set_76 = true := by decide +kernel
theorem eX12_set_80 : decode mX12_set.2.1 80 = .ok (.if_icmp .eq 9, 3) := by decide +kernel
def bX12_set_83 : List OP := [oi (.iload_n 1), oi (.bipush 6)]
theorem oX12_set_83 : okB mX12_set 83 bX12_set_83 = true := by decide +kernel
theorem eX12_set_86 : decode mX12_set.2.1 86 = .ok (.if_icmp .ne 7, 3) := by decide +kernel
def bX12_set_89 : List OP := [oi (.iconst 1), (.goto 4, 0, 0, 94, 0, 0)]
theorem oX12_set_89 : okB mX12_set 89 bX12_set_89 = true := by decide +kernel
def bX12_set_93 : List OP := [oi (.iconst 0)]
theorem oX12_set_93 : okB mX12_set 93 bX12_set_93 = true := by decide +kernel
def bX12_set_94 : List OP := [oi (.iload_n 3)]
theorem oX12_set_94 : okB mX12_set 94 bX12_set_94 = true := by decide +kernel
theorem eX12_set_95 : decode mX12_set.2.1 95 = .ok (.invokestatic 102, 3) := by decide +kernel
theorem lX12_set_95 : okL 1091 (.methodLink mX12_set.1.cls 102 mX12_in.1) = true := by decide +kernel
theorem eX12_set_98 : decode mX12_set.2.1 98 = .ok (.ifCond .ne 6, 3) := by decide +kernel
def bX12_set_101 : List OP := [oi (.bipush (-2))]
theorem oX12_set_101 : okB mX12_set 101 bX12_set_101 = true := by decide +kernel
theorem eX12_set_103 : decode mX12_set.2.1 103 = .ok (.ireturn, 1) := by decide +kernel
def bX12_set_104 : List OP := [oi (.aload_n 0), (.getfield 17, 3, 12, 3, 2, 970), oi (.iload_n 1), oi .iaload, oi (.istore 4), oi (.aload_n 0), (.getfield 17, 3, 12, 3, 2, 970), oi (.iload_n 1), oi (.iload_n 2), oi .iastore, oi (.iload 4)]
theorem oX12_set_104 : okB mX12_set 104 bX12_set_104 = true := by decide +kernel
theorem eX12_set_121 : decode mX12_set.2.1 121 = .ok (.ireturn, 1) := by decide +kernel
def bX12_costOf_0 : List OP := [oi (.iload_n 0), oi (.iconst 4)]
theorem oX12_costOf_0 : okB mX12_costOf 0 bX12_costOf_0 = true := by decide +kernel
theorem eX12_costOf_2 : decode mX12_costOf.2.1 2 = .ok (.if_icmp .ne 7, 3) := by decide +kernel
def bX12_costOf_5 : List OP := [oi (.iconst 1), (.goto 26, 0, 0, 32, 0, 0)]
theorem oX12_costOf_5 : okB mX12_costOf 5 bX12_costOf_5 = true := by decide +kernel
def bX12_costOf_9 : List OP := [oi (.iload_n 0), oi (.bipush 9)]
theorem oX12_costOf_9 : okB mX12_costOf 9 bX12_costOf_9 = true := by decide +kernel
theorem eX12_costOf_12 : decode mX12_costOf.2.1 12 = .ok (.if_icmp .ge 8, 3) := by decide +kernel
def bX12_costOf_15 : List OP := [oi (.bipush 6), (.goto 15, 0, 0, 32, 0, 0)]
theorem oX12_costOf_15 : okB mX12_costOf 15 bX12_costOf_15 = true := by decide +kernel
def bX12_costOf_20 : List OP := [oi (.iload_n 0), oi (.bipush 9)]
theorem oX12_costOf_20 : okB mX12_costOf 20 bX12_costOf_20 = true := by decide +kernel
theorem eX12_costOf_23 : decode mX12_costOf.2.1 23 = .ok (.if_icmp .ne 7, 3) := by decide +kernel
def bX12_costOf_26 : List OP := [oi (.iconst 5), (.goto 5, 0, 0, 32, 0, 0)]
theorem oX12_costOf_26 : okB mX12_costOf 26 bX12_costOf_26 = true := by decide +kernel
def bX12_costOf_30 : List OP := [oi (.bipush 20)]
theorem oX12_costOf_30 : okB mX12_costOf 30 bX12_costOf_30 = true := by decide +kernel
theorem eX12_costOf_32 : decode mX12_costOf.2.1 32 = .ok (.ireturn, 1) := by decide +kernel
def bX12_dotAt_0 : List OP := [oi (.bipush 8), oi (.iload_n 0), oi (.iconst 2), oi .idiv, oi .imul, oi (.iconst 4), oi (.iload_n 1), oi (.iconst 2), oi .idiv, oi .imul, oi .iadd, oi (.iconst 2), oi (.iload_n 0), oi (.iconst 2), oi .irem, oi .imul, oi .iadd, oi (.iload_n 1), oi (.iconst 2), oi .irem, oi .iadd]
theorem oX12_dotAt_0 : okB mX12_dotAt 0 bX12_dotAt_0 = true := by decide +kernel
theorem eX12_dotAt_22 : decode mX12_dotAt.2.1 22 = .ok (.ireturn, 1) := by decide +kernel
def bX12_held_0 : List OP := [oi (.iload_n 0)]
theorem oX12_held_0 : okB mX12_held 0 bX12_held_0 = true := by decide +kernel
theorem eX12_held_1 : decode mX12_held.2.1 1 = .ok (.ifCond .ge 7, 3) := by decide +kernel
def bX12_held_4 : List OP := [oi (.iconst 0), (.goto 13, 0, 0, 18, 0, 0)]
theorem oX12_held_4 : okB mX12_held 4 bX12_held_4 = true := by decide +kernel
def bX12_held_8 : List OP := [oi (.iload_n 0), oi (.iconst 3)]
theorem oX12_held_8 : okB mX12_held 8 bX12_held_8 = true := by decide +kernel
theorem eX12_held_10 : decode mX12_held.2.1 10 = .ok (.if_icmp .le 7, 3) := by decide +kernel
def bX12_held_13 : List OP := [oi (.iconst 3), (.goto 4, 0, 0, 18, 0, 0)]
theorem oX12_held_13 : okB mX12_held 13 bX12_held_13 = true := by decide +kernel
def bX12_held_17 : List OP := [oi (.iload_n 0)]
theorem oX12_held_17 : okB mX12_held 17 bX12_held_17 = true := by decide +kernel
theorem eX12_held_18 : decode mX12_held.2.1 18 = .ok (.ireturn, 1) := by decide +kernel
def bX12_openBy_0 : List OP := [oi (.iload_n 2), oi (.iload_n 3)]
theorem oX12_openBy_0 : okB mX12_openBy 0 bX12_openBy_0 = true := by decide +kernel
theorem eX12_openBy_2 : decode mX12_openBy.2.1 2 = .ok (.invokestatic 110, 3) := by decide +kernel
theorem lX12_openBy_2 : okL 1118 (.methodLink mX12_openBy.1.cls 110 mX12_dotAt.1) = true := by decide +kernel
def bX12_openBy_5 : List OP := [oi (.istore 5), oi (.iload 4), oi (.bipush 10)]
theorem oX12_openBy_5 : okB mX12_openBy 5 bX12_openBy_5 = true := by decide +kernel
theorem eX12_openBy_11 : decode mX12_openBy.2.1 11 = .ok (.if_icmp .ne 16, 3) := by decide +kernel
def bX12_openBy_14 : List OP := [oi (.aload_n 0), (.getfield 7, 1, 12, 1, 2, 968), oi (.bipush 16), oi (.iload_n 1), oi .imul, oi (.iload 5), oi .iadd, oi .iaload]
theorem oX12_openBy_14 : okB mX12_openBy 14 bX12_openBy_14 = true := by decide +kernel
theorem eX12_openBy_26 : decode mX12_openBy.2.1 26 = .ok (.ireturn, 1) := by decide +kernel
def bX12_openBy_27 : List OP := [oi (.iload 4), oi (.bipush 9)]
theorem oX12_openBy_27 : okB mX12_openBy 27 bX12_openBy_27 = true := by decide +kernel
theorem eX12_openBy_31 : decode mX12_openBy.2.1 31 = .ok (.if_icmp .ne 47, 3) := by decide +kernel
def bX12_openBy_34 : List OP := [oi (.iconst 0), oi (.istore 6), oi (.iconst 0), oi (.istore 7)]
theorem oX12_openBy_34 : okB mX12_openBy 34 bX12_openBy_34 = true := by decide +kernel
def bX12_openBy_40 : List OP := [oi (.iload 7), oi (.iconst 4)]
theorem oX12_openBy_40 : okB mX12_openBy 40 bX12_openBy_40 = true := by decide +kernel
theorem eX12_openBy_43 : decode mX12_openBy.2.1 43 = .ok (.if_icmp .ge 30, 3) := by decide +kernel
def bX12_openBy_46 : List OP := [oi (.iload 6), oi (.aload_n 0), (.getfield 7, 1, 12, 1, 2, 968), oi (.bipush 16), oi (.iload_n 1), oi .imul, oi (.iload_n 2), oi (.iload 7)]
theorem oX12_openBy_46 : okB mX12_openBy 46 bX12_openBy_46 = true := by decide +kernel
theorem eX12_openBy_59 : decode mX12_openBy.2.1 59 = .ok (.invokestatic 110, 3) := by decide +kernel
theorem lX12_openBy_59 : okL 1118 (.methodLink mX12_openBy.1.cls 110 mX12_dotAt.1) = true := by decide +kernel
def bX12_openBy_62 : List OP := [oi .iadd, oi .iaload, oi .iadd, oi (.istore 6), oi (.iinc 7 1), (.goto (-30), 0, 0, 40, 0, 0)]
theorem oX12_openBy_62 : okB mX12_openBy 62 bX12_openBy_62 = true := by decide +kernel
def bX12_openBy_73 : List OP := [oi (.iload 6), oi (.iconst 4), oi .idiv]
theorem oX12_openBy_73 : okB mX12_openBy 73 bX12_openBy_73 = true := by decide +kernel
theorem eX12_openBy_77 : decode mX12_openBy.2.1 77 = .ok (.ireturn, 1) := by decide +kernel
def bX12_openBy_78 : List OP := [oi (.iload 5), oi (.iconst 4), oi .irem, oi (.iload 4), oi (.iconst 3), oi .irem, oi .iadd, oi (.iconst 1), oi .isub]
theorem oX12_openBy_78 : okB mX12_openBy 78 bX12_openBy_78 = true := by decide +kernel
theorem eX12_openBy_89 : decode mX12_openBy.2.1 89 = .ok (.invokestatic 114, 3) := by decide +kernel
theorem lX12_openBy_89 : okL 1121 (.methodLink mX12_openBy.1.cls 114 mX12_held.1) = true := by decide +kernel
def bX12_openBy_92 : List OP := [oi (.istore 6), oi (.iload 5), oi (.iconst 4), oi .idiv, oi (.iload 4), oi (.iconst 3), oi .idiv, oi .iadd, oi (.iconst 1), oi .isub]
theorem oX12_openBy_92 : okB mX12_openBy 92 bX12_openBy_92 = true := by decide +kernel
theorem eX12_openBy_105 : decode mX12_openBy.2.1 105 = .ok (.invokestatic 114, 3) := by decide +kernel
theorem lX12_openBy_105 : okL 1121 (.methodLink mX12_openBy.1.cls 114 mX12_held.1) = true := by decide +kernel
def bX12_openBy_108 : List OP := [oi (.istore 7), oi (.aload_n 0), (.getfield 74, 27, 12, 27, 2, 994), oi (.bipush 16), oi (.iload_n 1), oi (.iconst 1), oi .isub, oi .imul, oi (.iconst 4), oi (.iload 7), oi .imul, oi .iadd, oi (.iload 6), oi .iadd, oi .iaload]
theorem oX12_openBy_108 : okB mX12_openBy 108 bX12_openBy_108 = true := by decide +kernel
theorem eX12_openBy_129 : decode mX12_openBy.2.1 129 = .ok (.ireturn, 1) := by decide +kernel
def bX12_cutFrame_0 : List OP := [oi (.aload_n 0), (.getfield 13, 2, 12, 2, 2, 969), oi (.iload_n 1), oi .baload]
theorem oX12_cutFrame_0 : okB mX12_cutFrame 0 bX12_cutFrame_0 = true := by decide +kernel
theorem eX12_cutFrame_6 : decode mX12_cutFrame.2.1 6 = .ok (.ifCond .eq 8, 3) := by decide +kernel
def bX12_cutFrame_9 : List OP := [oi (.bipush 9), (.goto 4, 0, 0, 15, 0, 0)]
theorem oX12_cutFrame_9 : okB mX12_cutFrame 9 bX12_cutFrame_9 = true := by decide +kernel
def bX12_cutFrame_14 : List OP := [oi (.iconst 0)]
theorem oX12_cutFrame_14 : okB mX12_cutFrame 14 bX12_cutFrame_14 = true := by decide +kernel
def bX12_cutFrame_15 : List OP := [oi (.istore_n 2), oi (.iconst 0), oi (.istore_n 3)]
theorem oX12_cutFrame_15 : okB mX12_cutFrame 15 bX12_cutFrame_15 = true := by decide +kernel
def bX12_cutFrame_18 : List OP := [oi (.iload_n 3), oi (.iconst 4)]
theorem oX12_cutFrame_18 : okB mX12_cutFrame 18 bX12_cutFrame_18 = true := by decide +kernel
theorem eX12_cutFrame_20 : decode mX12_cutFrame.2.1 20 = .ok (.if_icmp .ge 96, 3) := by decide +kernel
def bX12_cutFrame_23 : List OP := [oi (.iload_n 2), oi (.istore 4)]
theorem oX12_cutFrame_23 : okB mX12_cutFrame 23 bX12_cutFrame_23 = true := by decide +kernel
def bX12_cutFrame_26 : List OP := [oi (.iload 4), oi (.bipush 11)]
theorem oX12_cutFrame_26 : okB mX12_cutFrame 26 bX12_cutFrame_26 = true := by decide +kernel
theorem eX12_cutFrame_30 : decode mX12_cutFrame.2.1 30 = .ok (.if_icmp .ge 80, 3) := by decide +kernel
def bX12_cutFrame_33 : List OP := [oi (.iconst 0), oi (.istore 5), oi (.iconst 0), oi (.istore 6)]
theorem oX12_cutFrame_33 : okB mX12_cutFrame 33 bX12_cutFrame_33 = true := by decide +kernel
def bX12_cutFrame_39 : List OP := [oi (.iload 6), oi (.iconst 4)]
theorem oX12_cutFrame_39 : okB mX12_cutFrame 39 bX12_cutFrame_39 = true := by decide +kernel
theorem eX12_cutFrame_42 : decode mX12_cutFrame.2.1 42 = .ok (.if_icmp .ge 48, 3) := by decide +kernel
def bX12_cutFrame_45 : List OP := [oi (.aload_n 0), oi (.iload_n 1), oi (.iload_n 3), oi (.iload 6), oi (.iload 4)]
theorem oX12_cutFrame_45 : okB mX12_cutFrame 45 bX12_cutFrame_45 = true := by decide +kernel
theorem eX12_cutFrame_52 : decode mX12_cutFrame.2.1 52 = .ok (.invokevirtual 118, 3) := by decide +kernel
theorem lX12_cutFrame_52 : okL 1114 (.methodLink mX12_cutFrame.1.cls 118 mX12_openBy.1) = true := by decide +kernel
def bX12_cutFrame_55 : List OP := [oi (.aload_n 0), (.getfield 7, 1, 12, 1, 2, 968), oi (.bipush 16), oi (.iload_n 1), oi .imul, oi (.iload_n 3), oi (.iload 6)]
theorem oX12_cutFrame_55 : okB mX12_cutFrame 55 bX12_cutFrame_55 = true := by decide +kernel
theorem eX12_cutFrame_66 : decode mX12_cutFrame.2.1 66 = .ok (.invokestatic 110, 3) := by decide +kernel
theorem lX12_cutFrame_66 : okL 1118 (.methodLink mX12_cutFrame.1.cls 110 mX12_dotAt.1) = true := by decide +kernel
def bX12_cutFrame_69 : List OP := [oi .iadd, oi .iaload, oi .isub, oi (.istore 7), oi (.iload 5), oi (.iload 7), oi (.iload 7), oi .imul, oi .iadd, oi (.istore 5), oi (.iinc 6 1), (.goto (-48), 0, 0, 39, 0, 0)]
theorem oX12_cutFrame_69 : okB mX12_cutFrame 69 bX12_cutFrame_69 = true := by decide +kernel
def bX12_cutFrame_90 : List OP := [oi (.aload_n 0), (.getfield 83, 30, 12, 30, 2, 997), oi (.bipush 11), oi (.iload_n 3), oi .imul, oi (.iload 4), oi .iadd, oi (.iload 5), oi .iastore, oi (.iinc 4 1), (.goto (-81), 0, 0, 26, 0, 0)]
theorem oX12_cutFrame_90 : okB mX12_cutFrame 90 bX12_cutFrame_90 = true := by decide +kernel
def bX12_cutFrame_110 : List OP := [oi (.iinc 3 1), (.goto (-95), 0, 0, 18, 0, 0)]
theorem oX12_cutFrame_110 : okB mX12_cutFrame 110 bX12_cutFrame_110 = true := by decide +kernel
def bX12_cutFrame_116 : List OP := [(.ldc 122, 1000000, 0, 0, 0, 1124), oi (.istore_n 3), (.ldc 122, 1000000, 0, 0, 0, 1124), oi (.istore 4), oi (.iconst 0), oi (.istore 5), oi (.iload_n 2), oi (.istore 6)]
theorem oX12_cutFrame_116 : okB mX12_cutFrame 116 bX12_cutFrame_116 = true := by decide +kernel
def bX12_cutFrame_129 : List OP := [oi (.iload 6), oi (.bipush 11)]
theorem oX12_cutFrame_129 : okB mX12_cutFrame 129 bX12_cutFrame_129 = true := by decide +kernel
theorem eX12_cutFrame_133 : decode mX12_cutFrame.2.1 133 = .ok (.if_icmp .ge 280, 3) := by decide +kernel
def bX12_cutFrame_136 : List OP := [oi (.iload_n 2), oi (.istore 7)]
theorem oX12_cutFrame_136 : okB mX12_cutFrame 136 bX12_cutFrame_136 = true := by decide +kernel
def bX12_cutFrame_139 : List OP := [oi (.iload 7), oi (.bipush 11)]
theorem oX12_cutFrame_139 : okB mX12_cutFrame 139 bX12_cutFrame_139 = true := by decide +kernel
theorem eX12_cutFrame_143 : decode mX12_cutFrame.2.1 143 = .ok (.if_icmp .ge 264, 3) := by decide +kernel
def bX12_cutFrame_146 : List OP := [oi (.iload_n 2), oi (.istore 8)]
theorem oX12_cutFrame_146 : okB mX12_cutFrame 146 bX12_cutFrame_146 = true := by decide +kernel
def bX12_cutFrame_149 : List OP := [oi (.iload 8), oi (.bipush 11)]
theorem oX12_cutFrame_149 : okB mX12_cutFrame 149 bX12_cutFrame_149 = true := by decide +kernel
theorem eX12_cutFrame_153 : decode mX12_cutFrame.2.1 153 = .ok (.if_icmp .ge 248, 3) := by decide +kernel
def bX12_cutFrame_156 : List OP := [oi (.iload_n 2), oi (.istore 9)]
theorem oX12_cutFrame_156 : okB mX12_cutFrame 156 bX12_cutFrame_156 = true := by decide +kernel
def bX12_cutFrame_159 : List OP := [oi (.iload 9), oi (.bipush 11)]
theorem oX12_cutFrame_159 : okB mX12_cutFrame 159 bX12_cutFrame_159 = true := by decide +kernel
theorem eX12_cutFrame_163 : decode mX12_cutFrame.2.1 163 = .ok (.if_icmp .ge 232, 3) := by decide +kernel
def bX12_cutFrame_166 : List OP := [oi (.iload 6)]
theorem oX12_cutFrame_166 : okB mX12_cutFrame 166 bX12_cutFrame_166 = true := by decide +kernel
theorem eX12_cutFrame_168 : decode mX12_cutFrame.2.1 168 = .ok (.invokestatic 123, 3) := by decide +kernel
theorem lX12_cutFrame_168 : okL 1125 (.methodLink mX12_cutFrame.1.cls 123 mX12_costOf.1) = true := by decide +kernel
def bX12_cutFrame_171 : List OP := [oi (.iload 7)]
theorem oX12_cutFrame_171 : okB mX12_cutFrame 171 bX12_cutFrame_171 = true := by decide +kernel
theorem eX12_cutFrame_173 : decode mX12_cutFrame.2.1 173 = .ok (.invokestatic 123, 3) := by decide +kernel
theorem lX12_cutFrame_173 : okL 1125 (.methodLink mX12_cutFrame.1.cls 123 mX12_costOf.1) = true := by decide +kernel
def bX12_cutFrame_176 : List OP := [oi .iadd, oi (.iload 8)]
theorem oX12_cutFrame_176 : okB mX12_cutFrame 176 bX12_cutFrame_176 = true := by decide +kernel
theorem eX12_cutFrame_179 : decode mX12_cutFrame.2.1 179 = .ok (.invokestatic 123, 3) := by decide +kernel
theorem lX12_cutFrame_179 : okL 1125 (.methodLink mX12_cutFrame.1.cls 123 mX12_costOf.1) = true := by decide +kernel
def bX12_cutFrame_182 : List OP := [oi .iadd, oi (.iload 9)]
theorem oX12_cutFrame_182 : okB mX12_cutFrame 182 bX12_cutFrame_182 = true := by decide +kernel
theorem eX12_cutFrame_185 : decode mX12_cutFrame.2.1 185 = .ok (.invokestatic 123, 3) := by decide +kernel
theorem lX12_cutFrame_185 : okL 1125 (.methodLink mX12_cutFrame.1.cls 123 mX12_costOf.1) = true := by decide +kernel
def bX12_cutFrame_188 : List OP := [oi .iadd, oi (.istore 10), oi (.aload_n 0), (.getfield 83, 30, 12, 30, 2, 997), oi (.iload 6), oi .iaload, oi (.aload_n 0), (.getfield 83, 30, 12, 30, 2, 997), oi (.bipush 11), oi (.iload 7), oi .iadd, oi .iaload, oi .iadd, oi (.aload_n 0), (.getfield 83, 30, 12, 30, 2, 997), oi (.bipush 22), oi (.iload 8), oi .iadd, oi .iaload, oi .iadd, oi (.aload_n 0), (.getfield 83, 30, 12, 30, 2, 997), oi (.bipush 33), oi (.iload 9), oi .iadd, oi .iaload, oi .iadd, oi (.istore 11), oi (.iload 10), oi (.aload_n 0), (.getfield 17, 3, 12, 3, 2, 970), oi (.iconst 0), oi .iaload]
theorem oX12_cutFrame_188 : okB mX12_cutFrame 188 bX12_cutFrame_188 = true := by decide +kernel
theorem eX12_cutFrame_241 : decode mX12_cutFrame.2.1 241 = .ok (.if_icmp .gt 7, 3) := by decide +kernel
def bX12_cutFrame_244 : List OP := [oi (.iconst 1), (.goto 4, 0, 0, 249, 0, 0)]
theorem oX12_cutFrame_244 : okB mX12_cutFrame 244 bX12_cutFrame_244 = true := by decide +kernel
def bX12_cutFrame_248 : List OP := [oi (.iconst 0)]
theorem oX12_cutFrame_248 : okB mX12_cutFrame 248 bX12_cutFrame_248 = true := by decide +kernel
def bX12_cutFrame_249 : List OP := [oi (.istore 12), oi (.iload 11), oi (.iload 4)]
theorem oX12_cutFrame_249 : okB mX12_cutFrame 249 bX12_cutFrame_249 = true := by decide +kernel
theorem eX12_cutFrame_255 : decode mX12_cutFrame.2.1 255 = .ok (.if_icmp .lt 16, 3) := by decide +kernel
def bX12_cutFrame_258 : List OP := [oi (.iload 11), oi (.iload 4)]
theorem oX12_cutFrame_258 : okB mX12_cutFrame 258 bX12_cutFrame_258 = true := by decide +kernel
theorem eX12_cutFrame_262 : decode mX12_cutFrame.2.1 262 = .ok (.if_icmp .ne 13, 3) := by decide +kernel
def bX12_cutFrame_265 : List OP := [oi (.iload 10), oi (.iload_n 3)]
theorem oX12_cutFrame_265 : okB mX12_cutFrame 265 bX12_cutFrame_265 = true := by decide +kernel
theorem eX12_cutFrame_268 : decode mX12_cutFrame.2.1 268 = .ok (.if_icmp .ge 7, 3) := by decide +kernel
def bX12_cutFrame_271 : List OP := [oi (.iconst 1), (.goto 4, 0, 0, 276, 0, 0)]
theorem oX12_cutFrame_271 : okB mX12_cutFrame 271 bX12_cutFrame_271 = true := by decide +kernel
def bX12_cutFrame_275 : List OP := [oi (.iconst 0)]
theorem oX12_cutFrame_275 : okB mX12_cutFrame 275 bX12_cutFrame_275 = true := by decide +kernel
def bX12_cutFrame_276 : List OP := [oi (.istore 13), oi (.iload 10), oi (.iload_n 3)]
theorem oX12_cutFrame_276 : okB mX12_cutFrame 276 bX12_cutFrame_276 = true := by decide +kernel
theorem eX12_cutFrame_281 : decode mX12_cutFrame.2.1 281 = .ok (.if_icmp .lt 16, 3) := by decide +kernel
def bX12_cutFrame_284 : List OP := [oi (.iload 10), oi (.iload_n 3)]
theorem oX12_cutFrame_284 : okB mX12_cutFrame 284 bX12_cutFrame_284 = true := by decide +kernel
theorem eX12_cutFrame_287 : decode mX12_cutFrame.2.1 287 = .ok (.if_icmp .ne 14, 3) := by decide +kernel
def bX12_cutFrame_290 : List OP := [oi (.iload 11), oi (.iload 4)]
theorem oX12_cutFrame_290 : okB mX12_cutFrame 290 bX12_cutFrame_290 = true := by decide +kernel
theorem eX12_cutFrame_294 : decode mX12_cutFrame.2.1 294 = .ok (.if_icmp .ge 7, 3) := by decide +kernel
def bX12_cutFrame_297 : List OP := [oi (.iconst 1), (.goto 4, 0, 0, 302, 0, 0)]
theorem oX12_cutFrame_297 : okB mX12_cutFrame 297 bX12_cutFrame_297 = true := by decide +kernel
def bX12_cutFrame_301 : List OP := [oi (.iconst 0)]
theorem oX12_cutFrame_301 : okB mX12_cutFrame 301 bX12_cutFrame_301 = true := by decide +kernel
def bX12_cutFrame_302 : List OP := [oi (.istore 14), oi (.iload 12)]
theorem oX12_cutFrame_302 : okB mX12_cutFrame 302 bX12_cutFrame_302 = true := by decide +kernel
theorem eX12_cutFrame_306 : decode mX12_cutFrame.2.1 306 = .ok (.ifCond .eq 16, 3) := by decide +kernel
def bX12_cutFrame_309 : List OP := [oi (.iload 5)]
theorem oX12_cutFrame_309 : okB mX12_cutFrame 309 bX12_cutFrame_309 = true := by decide +kernel
theorem eX12_cutFrame_311 : decode mX12_cutFrame.2.1 311 = .ok (.ifCond .eq 21, 3) := by decide +kernel
def bX12_cutFrame_314 : List OP := [oi (.iload 13)]
theorem oX12_cutFrame_314 : okB mX12_cutFrame 314 bX12_cutFrame_314 = true := by decide +kernel
theorem eX12_cutFrame_316 : decode mX12_cutFrame.2.1 316 = .ok (.ifCond .eq 73, 3) := by decide +kernel
def bX12_cutFrame_319 : List OP := [(.goto 13, 0, 0, 332, 0, 0)]
theorem oX12_cutFrame_319 : okB mX12_cutFrame 319 bX12_cutFrame_319 = true := by decide +kernel
def bX12_cutFrame_322 : List OP := [oi (.iload 5)]
theorem oX12_cutFrame_322 : okB mX12_cutFrame 322 bX12_cutFrame_322 = true := by decide +kernel
theorem eX12_cutFrame_324 : decode mX12_cutFrame.2.1 324 = .ok (.ifCond .ne 65, 3) := by decide +kernel
def bX12_cutFrame_327 : List OP := [oi (.iload 14)]
theorem oX12_cutFrame_327 : okB mX12_cutFrame 327 bX12_cutFrame_327 = true := by decide +kernel
theorem eX12_cutFrame_329 : decode mX12_cutFrame.2.1 329 = .ok (.ifCond .eq 60, 3) := by decide +kernel
def bX12_cutFrame_332 : List OP := [oi (.iload 12), oi (.istore 5), oi (.iload 10), oi (.istore_n 3), oi (.iload 11), oi (.istore 4), oi (.aload_n 0), (.getfield 71, 26, 12, 26, 2, 993), oi (.iconst 4), oi (.iload_n 1), oi .imul, oi (.iload 6), oi .iastore, oi (.aload_n 0), (.getfield 71, 26, 12, 26, 2, 993), oi (.iconst 4), oi (.iload_n 1), oi .imul, oi (.iconst 1), oi .iadd, oi (.iload 7), oi .iastore, oi (.aload_n 0), (.getfield 71, 26, 12, 26, 2, 993), oi (.iconst 4), oi (.iload_n 1), oi .imul, oi (.iconst 2), oi .iadd, oi (.iload 8), oi .iastore, oi (.aload_n 0), (.getfield 71, 26, 12, 26, 2, 993), oi (.iconst 4), oi (.iload_n 1), oi .imul, oi (.iconst 3), oi .iadd, oi (.iload 9), oi .iastore]
theorem oX12_cutFrame_332 : okB mX12_cutFrame 332 bX12_cutFrame_332 = true := by decide +kernel
def bX12_cutFrame_389 : List OP := [oi (.iinc 9 1), (.goto (-233), 0, 0, 159, 0, 0)]
theorem oX12_cutFrame_389 : okB mX12_cutFrame 389 bX12_cutFrame_389 = true := by decide +kernel
def bX12_cutFrame_395 : List OP := [oi (.iinc 8 1), (.goto (-249), 0, 0, 149, 0, 0)]
theorem oX12_cutFrame_395 : okB mX12_cutFrame 395 bX12_cutFrame_395 = true := by decide +kernel
def bX12_cutFrame_401 : List OP := [oi (.iinc 7 1), (.goto (-265), 0, 0, 139, 0, 0)]
theorem oX12_cutFrame_401 : okB mX12_cutFrame 401 bX12_cutFrame_401 = true := by decide +kernel
def bX12_cutFrame_407 : List OP := [oi (.iinc 6 1), (.goto (-281), 0, 0, 129, 0, 0)]
theorem oX12_cutFrame_407 : okB mX12_cutFrame 407 bX12_cutFrame_407 = true := by decide +kernel
def bX12_cutFrame_413 : List OP := [oi (.aload_n 0), (.getfield 77, 28, 12, 28, 2, 995), oi (.iload_n 1), oi (.iload_n 3), oi .iastore, oi (.aload_n 0), (.getfield 80, 29, 12, 29, 2, 996), oi (.iload_n 1), oi (.iload 4), oi .iastore, oi (.iconst 0), oi (.istore 6)]
theorem oX12_cutFrame_413 : okB mX12_cutFrame 413 bX12_cutFrame_413 = true := by decide +kernel
def bX12_cutFrame_431 : List OP := [oi (.iload 6), oi (.iconst 4)]
theorem oX12_cutFrame_431 : okB mX12_cutFrame 431 bX12_cutFrame_431 = true := by decide +kernel
theorem eX12_cutFrame_434 : decode mX12_cutFrame.2.1 434 = .ok (.if_icmp .ge 61, 3) := by decide +kernel
def bX12_cutFrame_437 : List OP := [oi (.iconst 0), oi (.istore 7)]
theorem oX12_cutFrame_437 : okB mX12_cutFrame 437 bX12_cutFrame_437 = true := by decide +kernel
def bX12_cutFrame_440 : List OP := [oi (.iload 7), oi (.iconst 4)]
theorem oX12_cutFrame_440 : okB mX12_cutFrame 440 bX12_cutFrame_440 = true := by decide +kernel
theorem eX12_cutFrame_443 : decode mX12_cutFrame.2.1 443 = .ok (.if_icmp .ge 46, 3) := by decide +kernel
def bX12_cutFrame_446 : List OP := [oi (.aload_n 0), (.getfield 74, 27, 12, 27, 2, 994), oi (.bipush 16), oi (.iload_n 1), oi .imul, oi (.iload 6), oi (.iload 7)]
theorem oX12_cutFrame_446 : okB mX12_cutFrame 446 bX12_cutFrame_446 = true := by decide +kernel
theorem eX12_cutFrame_458 : decode mX12_cutFrame.2.1 458 = .ok (.invokestatic 110, 3) := by decide +kernel
theorem lX12_cutFrame_458 : okL 1118 (.methodLink mX12_cutFrame.1.cls 110 mX12_dotAt.1) = true := by decide +kernel
def bX12_cutFrame_461 : List OP := [oi .iadd, oi (.aload_n 0), oi (.iload_n 1), oi (.iload 6), oi (.iload 7), oi (.aload_n 0), (.getfield 71, 26, 12, 26, 2, 993), oi (.iconst 4), oi (.iload_n 1), oi .imul, oi (.iload 6), oi .iadd, oi .iaload]
theorem oX12_cutFrame_461 : okB mX12_cutFrame 461 bX12_cutFrame_461 = true := by decide +kernel
theorem eX12_cutFrame_479 : decode mX12_cutFrame.2.1 479 = .ok (.invokevirtual 118, 3) := by decide +kernel
theorem lX12_cutFrame_479 : okL 1114 (.methodLink mX12_cutFrame.1.cls 118 mX12_openBy.1) = true := by decide +kernel
def bX12_cutFrame_482 : List OP := [oi .iastore, oi (.iinc 7 1), (.goto (-46), 0, 0, 440, 0, 0)]
theorem oX12_cutFrame_482 : okB mX12_cutFrame 482 bX12_cutFrame_482 = true := by decide +kernel
def bX12_cutFrame_489 : List OP := [oi (.iinc 6 1), (.goto (-61), 0, 0, 431, 0, 0)]
theorem oX12_cutFrame_489 : okB mX12_cutFrame 489 bX12_cutFrame_489 = true := by decide +kernel
theorem eX12_cutFrame_495 : decode mX12_cutFrame.2.1 495 = .ok (.return_, 1) := by decide +kernel
def bX12_cut_0 : List OP := [oi (.iconst 0), oi (.istore_n 2)]
theorem oX12_cut_0 : okB mX12_cut 0 bX12_cut_0 = true := by decide +kernel
def bX12_cut_2 : List OP := [oi (.iload_n 2), oi (.iload_n 1)]
theorem oX12_cut_2 : okB mX12_cut 2 bX12_cut_2 = true := by decide +kernel
theorem eX12_cut_4 : decode mX12_cut.2.1 4 = .ok (.if_icmp .gt 14, 3) := by decide +kernel
def bX12_cut_7 : List OP := [oi (.aload_n 0), oi (.iload_n 2)]
theorem oX12_cut_7 : okB mX12_cut 7 bX12_cut_7 = true := by decide +kernel
theorem eX12_cut_9 : decode mX12_cut.2.1 9 = .ok (.invokevirtual 126, 3) := by decide +kernel
theorem lX12_cut_9 : okL 1110 (.methodLink mX12_cut.1.cls 126 mX12_cutFrame.1) = true := by decide +kernel
def bX12_cut_12 : List OP := [oi (.iinc 2 1), (.goto (-13), 0, 0, 2, 0, 0)]
theorem oX12_cut_12 : okB mX12_cut 12 bX12_cut_12 = true := by decide +kernel
theorem eX12_cut_18 : decode mX12_cut.2.1 18 = .ok (.return_, 1) := by decide +kernel
def bX12_way_0 : List OP := [oi (.aload_n 0), oi (.iload_n 1)]
theorem oX12_way_0 : okB mX12_way 0 bX12_way_0 = true := by decide +kernel
theorem eX12_way_2 : decode mX12_way.2.1 2 = .ok (.invokevirtual 106, 3) := by decide +kernel
theorem lX12_way_2 : okL 1087 (.methodLink mX12_way.1.cls 106 mX12_isFrame.1) = true := by decide +kernel
theorem eX12_way_5 : decode mX12_way.2.1 5 = .ok (.ifCond .eq 12, 3) := by decide +kernel
def bX12_way_8 : List OP := [oi (.iload_n 2), oi (.iconst 0), oi (.iconst 3)]
theorem oX12_way_8 : okB mX12_way 8 bX12_way_8 = true := by decide +kernel
theorem eX12_way_11 : decode mX12_way.2.1 11 = .ok (.invokestatic 102, 3) := by decide +kernel
theorem lX12_way_11 : okL 1091 (.methodLink mX12_way.1.cls 102 mX12_in.1) = true := by decide +kernel
theorem eX12_way_14 : decode mX12_way.2.1 14 = .ok (.ifCond .ne 5, 3) := by decide +kernel
def bX12_way_17 : List OP := [oi (.iconst (-1))]
theorem oX12_way_17 : okB mX12_way 17 bX12_way_17 = true := by decide +kernel
theorem eX12_way_18 : decode mX12_way.2.1 18 = .ok (.ireturn, 1) := by decide +kernel
def bX12_way_19 : List OP := [oi (.aload_n 0), oi (.iload_n 1)]
theorem oX12_way_19 : okB mX12_way 19 bX12_way_19 = true := by decide +kernel
theorem eX12_way_21 : decode mX12_way.2.1 21 = .ok (.invokevirtual 130, 3) := by decide +kernel
theorem lX12_way_21 : okL 1106 (.methodLink mX12_way.1.cls 130 mX12_cut.1) = true := by decide +kernel
def bX12_way_24 : List OP := [oi (.aload_n 0), (.getfield 71, 26, 12, 26, 2, 993), oi (.iconst 4), oi (.iload_n 1), oi .imul, oi (.iload_n 2), oi .iadd, oi .iaload]
theorem oX12_way_24 : okB mX12_way 24 bX12_way_24 = true := by decide +kernel
theorem eX12_way_34 : decode mX12_way.2.1 34 = .ok (.ireturn, 1) := by decide +kernel
def bX12_opened_0 : List OP := [oi (.aload_n 0), oi (.iload_n 1)]
theorem oX12_opened_0 : okB mX12_opened 0 bX12_opened_0 = true := by decide +kernel
theorem eX12_opened_2 : decode mX12_opened.2.1 2 = .ok (.invokevirtual 106, 3) := by decide +kernel
theorem lX12_opened_2 : okL 1087 (.methodLink mX12_opened.1.cls 106 mX12_isFrame.1) = true := by decide +kernel
theorem eX12_opened_5 : decode mX12_opened.2.1 5 = .ok (.ifCond .ne 5, 3) := by decide +kernel
def bX12_opened_8 : List OP := [oi (.iconst (-1))]
theorem oX12_opened_8 : okB mX12_opened 8 bX12_opened_8 = true := by decide +kernel
theorem eX12_opened_9 : decode mX12_opened.2.1 9 = .ok (.ireturn, 1) := by decide +kernel
def bX12_opened_10 : List OP := [oi (.iload_n 2), oi (.iconst 0), oi (.bipush 15)]
theorem oX12_opened_10 : okB mX12_opened 10 bX12_opened_10 = true := by decide +kernel
theorem eX12_opened_14 : decode mX12_opened.2.1 14 = .ok (.invokestatic 102, 3) := by decide +kernel
theorem lX12_opened_14 : okL 1091 (.methodLink mX12_opened.1.cls 102 mX12_in.1) = true := by decide +kernel
theorem eX12_opened_17 : decode mX12_opened.2.1 17 = .ok (.ifCond .ne 6, 3) := by decide +kernel
def bX12_opened_20 : List OP := [oi (.bipush (-2))]
theorem oX12_opened_20 : okB mX12_opened 20 bX12_opened_20 = true := by decide +kernel
theorem eX12_opened_22 : decode mX12_opened.2.1 22 = .ok (.ireturn, 1) := by decide +kernel
def bX12_opened_23 : List OP := [oi (.aload_n 0), oi (.iload_n 1)]
theorem oX12_opened_23 : okB mX12_opened 23 bX12_opened_23 = true := by decide +kernel
theorem eX12_opened_25 : decode mX12_opened.2.1 25 = .ok (.invokevirtual 130, 3) := by decide +kernel
theorem lX12_opened_25 : okL 1106 (.methodLink mX12_opened.1.cls 130 mX12_cut.1) = true := by decide +kernel
def bX12_opened_28 : List OP := [oi (.aload_n 0), (.getfield 74, 27, 12, 27, 2, 994), oi (.bipush 16), oi (.iload_n 1), oi .imul, oi (.iload_n 2), oi .iadd, oi .iaload]
theorem oX12_opened_28 : okB mX12_opened 28 bX12_opened_28 = true := by decide +kernel
theorem eX12_opened_39 : decode mX12_opened.2.1 39 = .ok (.ireturn, 1) := by decide +kernel
def bX12_unlike_0 : List OP := [oi (.iconst 0), oi (.istore_n 2), oi (.iconst 0), oi (.istore_n 3)]
theorem oX12_unlike_0 : okB mX12_unlike 0 bX12_unlike_0 = true := by decide +kernel
def bX12_unlike_4 : List OP := [oi (.iload_n 3), oi (.bipush 16)]
theorem oX12_unlike_4 : okB mX12_unlike 4 bX12_unlike_4 = true := by decide +kernel
theorem eX12_unlike_7 : decode mX12_unlike.2.1 7 = .ok (.if_icmp .ge 57, 3) := by decide +kernel
def bX12_unlike_10 : List OP := [oi (.iload_n 1)]
theorem oX12_unlike_10 : okB mX12_unlike 10 bX12_unlike_10 = true := by decide +kernel
theorem eX12_unlike_11 : decode mX12_unlike.2.1 11 = .ok (.ifCond .le 53, 3) := by decide +kernel
def bX12_unlike_14 : List OP := [oi (.aload_n 0), (.getfield 7, 1, 12, 1, 2, 968), oi (.bipush 16), oi (.iload_n 1), oi .imul, oi (.iload_n 3), oi .iadd, oi .iaload, oi (.aload_n 0), (.getfield 7, 1, 12, 1, 2, 968), oi (.bipush 16), oi (.iload_n 1), oi .imul, oi (.bipush 16), oi .isub, oi (.iload_n 3), oi .iadd, oi .iaload, oi .isub, oi (.istore 4), oi (.iload_n 2), oi (.iload 4)]
theorem oX12_unlike_14 : okB mX12_unlike 14 bX12_unlike_14 = true := by decide +kernel
theorem eX12_unlike_45 : decode mX12_unlike.2.1 45 = .ok (.ifCond .ge 9, 3) := by decide +kernel
def bX12_unlike_48 : List OP := [oi (.iload 4), oi .ineg, (.goto 5, 0, 0, 56, 0, 0)]
theorem oX12_unlike_48 : okB mX12_unlike 48 bX12_unlike_48 = true := by decide +kernel
def bX12_unlike_54 : List OP := [oi (.iload 4)]
theorem oX12_unlike_54 : okB mX12_unlike 54 bX12_unlike_54 = true := by decide +kernel
def bX12_unlike_56 : List OP := [oi .iadd, oi (.istore_n 2), oi (.iinc 3 1), (.goto (-57), 0, 0, 4, 0, 0)]
theorem oX12_unlike_56 : okB mX12_unlike 56 bX12_unlike_56 = true := by decide +kernel
def bX12_unlike_64 : List OP := [oi (.iload_n 2)]
theorem oX12_unlike_64 : okB mX12_unlike 64 bX12_unlike_64 = true := by decide +kernel
theorem eX12_unlike_65 : decode mX12_unlike.2.1 65 = .ok (.ireturn, 1) := by decide +kernel
def bX12_isScene_0 : List OP := [oi (.iload_n 1)]
theorem oX12_isScene_0 : okB mX12_isScene 0 bX12_isScene_0 = true := by decide +kernel
theorem eX12_isScene_1 : decode mX12_isScene.2.1 1 = .ok (.ifCond .le 21, 3) := by decide +kernel
def bX12_isScene_4 : List OP := [oi (.aload_n 0), oi (.iload_n 1)]
theorem oX12_isScene_4 : okB mX12_isScene 4 bX12_isScene_4 = true := by decide +kernel
theorem eX12_isScene_6 : decode mX12_isScene.2.1 6 = .ok (.invokevirtual 133, 3) := by decide +kernel
theorem lX12_isScene_6 : okL 1136 (.methodLink mX12_isScene.1.cls 133 mX12_unlike.1) = true := by decide +kernel
def bX12_isScene_9 : List OP := [oi (.aload_n 0), (.getfield 17, 3, 12, 3, 2, 970), oi (.iconst 1), oi .iaload]
theorem oX12_isScene_9 : okB mX12_isScene 9 bX12_isScene_9 = true := by decide +kernel
theorem eX12_isScene_15 : decode mX12_isScene.2.1 15 = .ok (.if_icmp .lt 7, 3) := by decide +kernel
def bX12_isScene_18 : List OP := [oi (.iconst 1), (.goto 4, 0, 0, 23, 0, 0)]
theorem oX12_isScene_18 : okB mX12_isScene 18 bX12_isScene_18 = true := by decide +kernel
def bX12_isScene_22 : List OP := [oi (.iconst 0)]
theorem oX12_isScene_22 : okB mX12_isScene 22 bX12_isScene_22 = true := by decide +kernel
theorem eX12_isScene_23 : decode mX12_isScene.2.1 23 = .ok (.ireturn, 1) := by decide +kernel
def bX12_isStill_0 : List OP := [oi (.iload_n 1)]
theorem oX12_isStill_0 : okB mX12_isStill 0 bX12_isStill_0 = true := by decide +kernel
theorem eX12_isStill_1 : decode mX12_isStill.2.1 1 = .ok (.ifCond .le 15, 3) := by decide +kernel
def bX12_isStill_4 : List OP := [oi (.aload_n 0), oi (.iload_n 1)]
theorem oX12_isStill_4 : okB mX12_isStill 4 bX12_isStill_4 = true := by decide +kernel
theorem eX12_isStill_6 : decode mX12_isStill.2.1 6 = .ok (.invokevirtual 133, 3) := by decide +kernel
theorem lX12_isStill_6 : okL 1136 (.methodLink mX12_isStill.1.cls 133 mX12_unlike.1) = true := by decide +kernel
theorem eX12_isStill_9 : decode mX12_isStill.2.1 9 = .ok (.ifCond .ne 7, 3) := by decide +kernel
def bX12_isStill_12 : List OP := [oi (.iconst 1), (.goto 4, 0, 0, 17, 0, 0)]
theorem oX12_isStill_12 : okB mX12_isStill 12 bX12_isStill_12 = true := by decide +kernel
def bX12_isStill_16 : List OP := [oi (.iconst 0)]
theorem oX12_isStill_16 : okB mX12_isStill 16 bX12_isStill_16 = true := by decide +kernel
theorem eX12_isStill_17 : decode mX12_isStill.2.1 17 = .ok (.ireturn, 1) := by decide +kernel
def bX12_of_0 : List OP := [oi (.aload_n 0), oi (.iload_n 1)]
theorem oX12_of_0 : okB mX12_of 0 bX12_of_0 = true := by decide +kernel
theorem eX12_of_2 : decode mX12_of.2.1 2 = .ok (.invokevirtual 106, 3) := by decide +kernel
theorem lX12_of_2 : okL 1087 (.methodLink mX12_of.1.cls 106 mX12_isFrame.1) = true := by decide +kernel
theorem eX12_of_5 : decode mX12_of.2.1 5 = .ok (.ifCond .ne 5, 3) := by decide +kernel
def bX12_of_8 : List OP := [oi (.iconst (-1))]
theorem oX12_of_8 : okB mX12_of 8 bX12_of_8 = true := by decide +kernel
theorem eX12_of_9 : decode mX12_of.2.1 9 = .ok (.ireturn, 1) := by decide +kernel
def bX12_of_10 : List OP := [oi (.iload_n 2), oi (.iconst 0), oi (.iconst 4)]
theorem oX12_of_10 : okB mX12_of 10 bX12_of_10 = true := by decide +kernel
theorem eX12_of_13 : decode mX12_of.2.1 13 = .ok (.invokestatic 102, 3) := by decide +kernel
theorem lX12_of_13 : okL 1091 (.methodLink mX12_of.1.cls 102 mX12_in.1) = true := by decide +kernel
theorem eX12_of_16 : decode mX12_of.2.1 16 = .ok (.ifCond .ne 6, 3) := by decide +kernel
def bX12_of_19 : List OP := [oi (.bipush (-2))]
theorem oX12_of_19 : okB mX12_of 19 bX12_of_19 = true := by decide +kernel
theorem eX12_of_21 : decode mX12_of.2.1 21 = .ok (.ireturn, 1) := by decide +kernel
def bX12_of_22 : List OP := [oi (.aload_n 0), oi (.iload_n 1)]
theorem oX12_of_22 : okB mX12_of 22 bX12_of_22 = true := by decide +kernel
theorem eX12_of_24 : decode mX12_of.2.1 24 = .ok (.invokevirtual 130, 3) := by decide +kernel
theorem lX12_of_24 : okL 1106 (.methodLink mX12_of.1.cls 130 mX12_cut.1) = true := by decide +kernel
def bX12_of_27 : List OP := [oi (.iload_n 2)]
theorem oX12_of_27 : okB mX12_of 27 bX12_of_27 = true := by decide +kernel
theorem eX12_of_28 : decode mX12_of.2.1 28 = .ok (.ifCond .ne 12, 3) := by decide +kernel
def bX12_of_31 : List OP := [oi (.aload_n 0), (.getfield 77, 28, 12, 28, 2, 995), oi (.iload_n 1), oi .iaload, (.goto 64, 0, 0, 101, 0, 0)]
theorem oX12_of_31 : okB mX12_of 31 bX12_of_31 = true := by decide +kernel
def bX12_of_40 : List OP := [oi (.iload_n 2), oi (.iconst 1)]
theorem oX12_of_40 : okB mX12_of 40 bX12_of_40 = true := by decide +kernel
theorem eX12_of_42 : decode mX12_of.2.1 42 = .ok (.if_icmp .ne 12, 3) := by decide +kernel
def bX12_of_45 : List OP := [oi (.aload_n 0), (.getfield 80, 29, 12, 29, 2, 996), oi (.iload_n 1), oi .iaload, (.goto 50, 0, 0, 101, 0, 0)]
theorem oX12_of_45 : okB mX12_of 45 bX12_of_45 = true := by decide +kernel
def bX12_of_54 : List OP := [oi (.iload_n 2), oi (.iconst 2)]
theorem oX12_of_54 : okB mX12_of 54 bX12_of_54 = true := by decide +kernel
theorem eX12_of_56 : decode mX12_of.2.1 56 = .ok (.if_icmp .ne 11, 3) := by decide +kernel
def bX12_of_59 : List OP := [oi (.aload_n 0), oi (.iload_n 1)]
theorem oX12_of_59 : okB mX12_of 59 bX12_of_59 = true := by decide +kernel
theorem eX12_of_61 : decode mX12_of.2.1 61 = .ok (.invokevirtual 133, 3) := by decide +kernel
theorem lX12_of_61 : okL 1136 (.methodLink mX12_of.1.cls 133 mX12_unlike.1) = true := by decide +kernel
def bX12_of_64 : List OP := [(.goto 37, 0, 0, 101, 0, 0)]
theorem oX12_of_64 : okB mX12_of 64 bX12_of_64 = true := by decide +kernel
def bX12_of_67 : List OP := [oi (.iload_n 2), oi (.iconst 3)]
theorem oX12_of_67 : okB mX12_of 67 bX12_of_67 = true := by decide +kernel
theorem eX12_of_69 : decode mX12_of.2.1 69 = .ok (.if_icmp .ne 19, 3) := by decide +kernel
def bX12_of_72 : List OP := [oi (.aload_n 0), oi (.iload_n 1)]
theorem oX12_of_72 : okB mX12_of 72 bX12_of_72 = true := by decide +kernel
theorem eX12_of_74 : decode mX12_of.2.1 74 = .ok (.invokevirtual 136, 3) := by decide +kernel
theorem lX12_of_74 : okL 1140 (.methodLink mX12_of.1.cls 136 mX12_isScene.1) = true := by decide +kernel
theorem eX12_of_77 : decode mX12_of.2.1 77 = .ok (.ifCond .eq 7, 3) := by decide +kernel
def bX12_of_80 : List OP := [oi (.iconst 1), (.goto 20, 0, 0, 101, 0, 0)]
theorem oX12_of_80 : okB mX12_of 80 bX12_of_80 = true := by decide +kernel
def bX12_of_84 : List OP := [oi (.iconst 0), (.goto 16, 0, 0, 101, 0, 0)]
theorem oX12_of_84 : okB mX12_of 84 bX12_of_84 = true := by decide +kernel
def bX12_of_88 : List OP := [oi (.aload_n 0), oi (.iload_n 1)]
theorem oX12_of_88 : okB mX12_of 88 bX12_of_88 = true := by decide +kernel
theorem eX12_of_90 : decode mX12_of.2.1 90 = .ok (.invokevirtual 139, 3) := by decide +kernel
theorem lX12_of_90 : okL 1144 (.methodLink mX12_of.1.cls 139 mX12_isStill.1) = true := by decide +kernel
theorem eX12_of_93 : decode mX12_of.2.1 93 = .ok (.ifCond .eq 7, 3) := by decide +kernel
def bX12_of_96 : List OP := [oi (.iconst 1), (.goto 4, 0, 0, 101, 0, 0)]
theorem oX12_of_96 : okB mX12_of 96 bX12_of_96 = true := by decide +kernel
def bX12_of_100 : List OP := [oi (.iconst 0)]
theorem oX12_of_100 : okB mX12_of 100 bX12_of_100 = true := by decide +kernel
theorem eX12_of_101 : decode mX12_of.2.1 101 = .ok (.ireturn, 1) := by decide +kernel
def bX12_pieces_0 : List OP := [oi (.iload_n 1), oi (.iconst 1), oi (.bipush 8)]
theorem oX12_pieces_0 : okB mX12_pieces 0 bX12_pieces_0 = true := by decide +kernel
theorem eX12_pieces_4 : decode mX12_pieces.2.1 4 = .ok (.invokestatic 102, 3) := by decide +kernel
theorem lX12_pieces_4 : okL 1091 (.methodLink mX12_pieces.1.cls 102 mX12_in.1) = true := by decide +kernel
theorem eX12_pieces_7 : decode mX12_pieces.2.1 7 = .ok (.ifCond .ne 6, 3) := by decide +kernel
def bX12_pieces_10 : List OP := [oi (.bipush (-2))]
theorem oX12_pieces_10 : okB mX12_pieces 10 bX12_pieces_10 = true := by decide +kernel
theorem eX12_pieces_12 : decode mX12_pieces.2.1 12 = .ok (.ireturn, 1) := by decide +kernel
def bX12_pieces_13 : List OP := [oi (.aload_n 0), (.getfield 92, 4, 12, 4, 0, 971), oi (.istore_n 2), oi (.aload_n 0), oi (.iload_n 1), (.putfield 92, 4, 12, 4, 0, 971), oi (.iload_n 2)]
theorem oX12_pieces_13 : okB mX12_pieces 13 bX12_pieces_13 = true := by decide +kernel
theorem eX12_pieces_24 : decode mX12_pieces.2.1 24 = .ok (.ireturn, 1) := by decide +kernel
def bX12_bits_0 : List OP := [oi (.iload_n 1), oi (.iconst 0), oi (.bipush 7)]
theorem oX12_bits_0 : okB mX12_bits 0 bX12_bits_0 = true := by decide +kernel
theorem eX12_bits_4 : decode mX12_bits.2.1 4 = .ok (.invokestatic 102, 3) := by decide +kernel
theorem lX12_bits_4 : okL 1091 (.methodLink mX12_bits.1.cls 102 mX12_in.1) = true := by decide +kernel
theorem eX12_bits_7 : decode mX12_bits.2.1 7 = .ok (.ifCond .ne 5, 3) := by decide +kernel
def bX12_bits_10 : List OP := [oi (.iconst (-1))]
theorem oX12_bits_10 : okB mX12_bits 10 bX12_bits_10 = true := by decide +kernel
theorem eX12_bits_11 : decode mX12_bits.2.1 11 = .ok (.ireturn, 1) := by decide +kernel
def bX12_bits_12 : List OP := [oi (.iload_n 2), oi (.iconst 0), oi (.iconst 2)]
theorem oX12_bits_12 : okB mX12_bits 12 bX12_bits_12 = true := by decide +kernel
theorem eX12_bits_15 : decode mX12_bits.2.1 15 = .ok (.invokestatic 102, 3) := by decide +kernel
theorem lX12_bits_15 : okL 1091 (.methodLink mX12_bits.1.cls 102 mX12_in.1) = true := by decide +kernel
theorem eX12_bits_18 : decode mX12_bits.2.1 18 = .ok (.ifCond .eq 14, 3) := by decide +kernel
def bX12_bits_21 : List OP := [oi (.iload_n 3), oi (.iconst 1), oi (.sipush 1000)]
theorem oX12_bits_21 : okB mX12_bits 21 bX12_bits_21 = true := by decide +kernel
theorem eX12_bits_26 : decode mX12_bits.2.1 26 = .ok (.invokestatic 102, 3) := by decide +kernel
theorem lX12_bits_26 : okL 1091 (.methodLink mX12_bits.1.cls 102 mX12_in.1) = true := by decide +kernel
theorem eX12_bits_29 : decode mX12_bits.2.1 29 = .ok (.ifCond .ne 6, 3) := by decide +kernel
def bX12_bits_32 : List OP := [oi (.bipush (-2))]
theorem oX12_bits_32 : okB mX12_bits 32 bX12_bits_32 = true := by decide +kernel
theorem eX12_bits_34 : decode mX12_bits.2.1 34 = .ok (.ireturn, 1) := by decide +kernel
def bX12_bits_35 : List OP := [oi (.aload_n 0), (.getfield 20, 5, 12, 5, 2, 972), oi (.iconst 3), oi (.iload_n 1), oi .imul, oi (.iload_n 2), oi .iadd, oi .iaload, oi (.istore 4), oi (.aload_n 0), (.getfield 20, 5, 12, 5, 2, 972), oi (.iconst 3), oi (.iload_n 1), oi .imul, oi (.iload_n 2), oi .iadd, oi (.iload_n 3), oi .iastore, oi (.iload 4)]
theorem oX12_bits_35 : okB mX12_bits 35 bX12_bits_35 = true := by decide +kernel
theorem eX12_bits_60 : decode mX12_bits.2.1 60 = .ok (.ireturn, 1) := by decide +kernel
def bX12_doors_0 : List OP := [oi (.iload_n 1), oi (.iconst 0), oi (.sipush 255)]
theorem oX12_doors_0 : okB mX12_doors 0 bX12_doors_0 = true := by decide +kernel
theorem eX12_doors_5 : decode mX12_doors.2.1 5 = .ok (.invokestatic 102, 3) := by decide +kernel
theorem lX12_doors_5 : okL 1091 (.methodLink mX12_doors.1.cls 102 mX12_in.1) = true := by decide +kernel
theorem eX12_doors_8 : decode mX12_doors.2.1 8 = .ok (.ifCond .ne 6, 3) := by decide +kernel
def bX12_doors_11 : List OP := [oi (.bipush (-2))]
theorem oX12_doors_11 : okB mX12_doors 11 bX12_doors_11 = true := by decide +kernel
theorem eX12_doors_13 : decode mX12_doors.2.1 13 = .ok (.ireturn, 1) := by decide +kernel
def bX12_doors_14 : List OP := [oi (.aload_n 0), (.getfield 96, 6, 12, 6, 0, 973), oi (.istore_n 2), oi (.aload_n 0), oi (.iload_n 1), (.putfield 96, 6, 12, 6, 0, 973), oi (.iload_n 2)]
theorem oX12_doors_14 : okB mX12_doors 14 bX12_doors_14 = true := by decide +kernel
theorem eX12_doors_25 : decode mX12_doors.2.1 25 = .ok (.ireturn, 1) := by decide +kernel
def bX12_line_0 : List OP := [oi (.iload_n 1), oi (.iconst 0), oi (.bipush 59)]
theorem oX12_line_0 : okB mX12_line 0 bX12_line_0 = true := by decide +kernel
theorem eX12_line_4 : decode mX12_line.2.1 4 = .ok (.invokestatic 102, 3) := by decide +kernel
theorem lX12_line_4 : okL 1091 (.methodLink mX12_line.1.cls 102 mX12_in.1) = true := by decide +kernel
theorem eX12_line_7 : decode mX12_line.2.1 7 = .ok (.ifCond .eq 29, 3) := by decide +kernel
def bX12_line_10 : List OP := [oi (.iload_n 2), oi (.iconst 0), oi (.bipush 59)]
theorem oX12_line_10 : okB mX12_line 10 bX12_line_10 = true := by decide +kernel
theorem eX12_line_14 : decode mX12_line.2.1 14 = .ok (.invokestatic 102, 3) := by decide +kernel
theorem lX12_line_14 : okL 1091 (.methodLink mX12_line.1.cls 102 mX12_in.1) = true := by decide +kernel
theorem eX12_line_17 : decode mX12_line.2.1 17 = .ok (.ifCond .eq 19, 3) := by decide +kernel
def bX12_line_20 : List OP := [oi (.iload_n 1), oi (.iload_n 2)]
theorem oX12_line_20 : okB mX12_line 20 bX12_line_20 = true := by decide +kernel
theorem eX12_line_22 : decode mX12_line.2.1 22 = .ok (.if_icmp .gt 14, 3) := by decide +kernel
def bX12_line_25 : List OP := [oi (.iload_n 3), oi (.iconst 0), oi (.sipush 1000)]
theorem oX12_line_25 : okB mX12_line 25 bX12_line_25 = true := by decide +kernel
theorem eX12_line_30 : decode mX12_line.2.1 30 = .ok (.invokestatic 102, 3) := by decide +kernel
theorem lX12_line_30 : okL 1091 (.methodLink mX12_line.1.cls 102 mX12_in.1) = true := by decide +kernel
theorem eX12_line_33 : decode mX12_line.2.1 33 = .ok (.ifCond .ne 6, 3) := by decide +kernel
def bX12_line_36 : List OP := [oi (.bipush (-2))]
theorem oX12_line_36 : okB mX12_line 36 bX12_line_36 = true := by decide +kernel
theorem eX12_line_38 : decode mX12_line.2.1 38 = .ok (.ireturn, 1) := by decide +kernel
def bX12_line_39 : List OP := [oi (.iload_n 1), oi (.istore 4)]
theorem oX12_line_39 : okB mX12_line 39 bX12_line_39 = true := by decide +kernel
def bX12_line_42 : List OP := [oi (.iload 4), oi (.iload_n 2)]
theorem oX12_line_42 : okB mX12_line 42 bX12_line_42 = true := by decide +kernel
theorem eX12_line_45 : decode mX12_line.2.1 45 = .ok (.if_icmp .gt 17, 3) := by decide +kernel
def bX12_line_48 : List OP := [oi (.aload_n 0), (.getfield 23, 7, 12, 7, 2, 974), oi (.iload 4), oi (.iload_n 3), oi .iastore, oi (.iinc 4 1), (.goto (-17), 0, 0, 42, 0, 0)]
theorem oX12_line_48 : okB mX12_line 48 bX12_line_48 = true := by decide +kernel
def bX12_line_62 : List OP := [oi (.iconst 1)]
theorem oX12_line_62 : okB mX12_line 62 bX12_line_62 = true := by decide +kernel
theorem eX12_line_63 : decode mX12_line.2.1 63 = .ok (.ireturn, 1) := by decide +kernel
def bX12_say_0 : List OP := [oi (.iload_n 1), oi (.bipush 33), oi (.bipush 126)]
theorem oX12_say_0 : okB mX12_say 0 bX12_say_0 = true := by decide +kernel
theorem eX12_say_5 : decode mX12_say.2.1 5 = .ok (.invokestatic 102, 3) := by decide +kernel
theorem lX12_say_5 : okL 1091 (.methodLink mX12_say.1.cls 102 mX12_in.1) = true := by decide +kernel
theorem eX12_say_8 : decode mX12_say.2.1 8 = .ok (.ifCond .ne 6, 3) := by decide +kernel
def bX12_say_11 : List OP := [oi (.bipush (-2))]
theorem oX12_say_11 : okB mX12_say 11 bX12_say_11 = true := by decide +kernel
theorem eX12_say_13 : decode mX12_say.2.1 13 = .ok (.ireturn, 1) := by decide +kernel
def bX12_say_14 : List OP := [oi (.aload_n 0), (.getfield 142, 8, 12, 8, 0, 975), oi (.bipush 40)]
theorem oX12_say_14 : okB mX12_say 14 bX12_say_14 = true := by decide +kernel
theorem eX12_say_20 : decode mX12_say.2.1 20 = .ok (.if_icmp .ne 6, 3) := by decide +kernel
def bX12_say_23 : List OP := [oi (.bipush (-4))]
theorem oX12_say_23 : okB mX12_say 23 bX12_say_23 = true := by decide +kernel
theorem eX12_say_25 : decode mX12_say.2.1 25 = .ok (.ireturn, 1) := by decide +kernel
def bX12_say_26 : List OP := [oi (.aload_n 0), (.getfield 26, 9, 12, 9, 2, 976), oi (.aload_n 0), (.getfield 142, 8, 12, 8, 0, 975), oi (.iload_n 1), oi .iastore, oi (.aload_n 0), oi .dup, (.getfield 142, 8, 12, 8, 0, 975), oi (.iconst 1), oi .iadd, (.putfield 142, 8, 12, 8, 0, 975), oi (.aload_n 0), (.getfield 142, 8, 12, 8, 0, 975)]
theorem oX12_say_26 : okB mX12_say 26 bX12_say_26 = true := by decide +kernel
theorem eX12_say_50 : decode mX12_say.2.1 50 = .ok (.ireturn, 1) := by decide +kernel
def bX12_wipe_0 : List OP := [oi (.aload_n 0), (.getfield 142, 8, 12, 8, 0, 975), oi (.istore_n 1), oi (.aload_n 0), oi (.iconst 0), (.putfield 142, 8, 12, 8, 0, 975), oi (.iload_n 1)]
theorem oX12_wipe_0 : okB mX12_wipe 0 bX12_wipe_0 = true := by decide +kernel
theorem eX12_wipe_11 : decode mX12_wipe.2.1 11 = .ok (.ireturn, 1) := by decide +kernel
def bX12_faultOf_0 : List OP := [oi (.iconst 0), oi (.istore_n 1), oi (.iconst 0), oi (.istore_n 2)]
theorem oX12_faultOf_0 : okB mX12_faultOf 0 bX12_faultOf_0 = true := by decide +kernel
def bX12_faultOf_4 : List OP := [oi (.iload_n 2), oi (.aload_n 0), (.getfield 142, 8, 12, 8, 0, 975)]
theorem oX12_faultOf_4 : okB mX12_faultOf 4 bX12_faultOf_4 = true := by decide +kernel
theorem eX12_faultOf_9 : decode mX12_faultOf.2.1 9 = .ok (.if_icmp .ge 231, 3) := by decide +kernel
def bX12_faultOf_12 : List OP := [oi (.aload_n 0), (.getfield 26, 9, 12, 9, 2, 976), oi (.iload_n 2), oi .iaload, oi (.istore_n 3), oi (.bipush (-6)), oi (.istore 4), oi (.iload_n 3), oi (.bipush 48), oi (.bipush 57)]
theorem oX12_faultOf_12 : okB mX12_faultOf 12 bX12_faultOf_12 = true := by decide +kernel
theorem eX12_faultOf_28 : decode mX12_faultOf.2.1 28 = .ok (.invokestatic 102, 3) := by decide +kernel
theorem lX12_faultOf_28 : okL 1091 (.methodLink mX12_faultOf.1.cls 102 mX12_in.1) = true := by decide +kernel
def bX12_faultOf_31 : List OP := [oi (.istore 5), oi (.iload_n 1)]
theorem oX12_faultOf_31 : okB mX12_faultOf 31 bX12_faultOf_31 = true := by decide +kernel
theorem eX12_faultOf_34 : decode mX12_faultOf.2.1 34 = .ok (.ifCond .ne 54, 3) := by decide +kernel
def bX12_faultOf_37 : List OP := [oi (.iload_n 3), oi (.bipush 98)]
theorem oX12_faultOf_37 : okB mX12_faultOf 37 bX12_faultOf_37 = true := by decide +kernel
theorem eX12_faultOf_40 : decode mX12_faultOf.2.1 40 = .ok (.if_icmp .eq 21, 3) := by decide +kernel
def bX12_faultOf_43 : List OP := [oi (.iload_n 3), oi (.bipush 108)]
theorem oX12_faultOf_43 : okB mX12_faultOf 43 bX12_faultOf_43 = true := by decide +kernel
theorem eX12_faultOf_46 : decode mX12_faultOf.2.1 46 = .ok (.if_icmp .eq 15, 3) := by decide +kernel
def bX12_faultOf_49 : List OP := [oi (.iload_n 3), oi (.bipush 115)]
theorem oX12_faultOf_49 : okB mX12_faultOf 49 bX12_faultOf_49 = true := by decide +kernel
theorem eX12_faultOf_52 : decode mX12_faultOf.2.1 52 = .ok (.if_icmp .eq 9, 3) := by decide +kernel
def bX12_faultOf_55 : List OP := [oi (.iload_n 3), oi (.bipush 107)]
theorem oX12_faultOf_55 : okB mX12_faultOf 55 bX12_faultOf_55 = true := by decide +kernel
theorem eX12_faultOf_58 : decode mX12_faultOf.2.1 58 = .ok (.if_icmp .ne 7, 3) := by decide +kernel
def bX12_faultOf_61 : List OP := [oi (.iconst 1), (.goto 21, 0, 0, 83, 0, 0)]
theorem oX12_faultOf_61 : okB mX12_faultOf 61 bX12_faultOf_61 = true := by decide +kernel
def bX12_faultOf_65 : List OP := [oi (.iload_n 3), oi (.bipush 48), oi (.bipush 50)]
theorem oX12_faultOf_65 : okB mX12_faultOf 65 bX12_faultOf_65 = true := by decide +kernel
theorem eX12_faultOf_70 : decode mX12_faultOf.2.1 70 = .ok (.invokestatic 102, 3) := by decide +kernel
theorem lX12_faultOf_70 : okL 1091 (.methodLink mX12_faultOf.1.cls 102 mX12_in.1) = true := by decide +kernel
theorem eX12_faultOf_73 : decode mX12_faultOf.2.1 73 = .ok (.ifCond .eq 8, 3) := by decide +kernel
def bX12_faultOf_76 : List OP := [oi (.bipush 8), (.goto 5, 0, 0, 83, 0, 0)]
theorem oX12_faultOf_76 : okB mX12_faultOf 76 bX12_faultOf_76 = true := by decide +kernel
def bX12_faultOf_81 : List OP := [oi (.bipush (-6))]
theorem oX12_faultOf_81 : okB mX12_faultOf 81 bX12_faultOf_81 = true := by decide +kernel
def bX12_faultOf_83 : List OP := [oi (.istore 4), (.goto 139, 0, 0, 224, 0, 0)]
theorem oX12_faultOf_83 : okB mX12_faultOf 83 bX12_faultOf_83 = true := by decide +kernel
def bX12_faultOf_88 : List OP := [oi (.iload_n 1), oi (.iconst 1)]
theorem oX12_faultOf_88 : okB mX12_faultOf 88 bX12_faultOf_88 = true := by decide +kernel
theorem eX12_faultOf_90 : decode mX12_faultOf.2.1 90 = .ok (.if_icmp .ne 26, 3) := by decide +kernel
def bX12_faultOf_93 : List OP := [oi (.iload_n 3), oi (.bipush 60)]
theorem oX12_faultOf_93 : okB mX12_faultOf 93 bX12_faultOf_93 = true := by decide +kernel
theorem eX12_faultOf_96 : decode mX12_faultOf.2.1 96 = .ok (.if_icmp .eq 9, 3) := by decide +kernel
def bX12_faultOf_99 : List OP := [oi (.iload_n 3), oi (.bipush 62)]
theorem oX12_faultOf_99 : okB mX12_faultOf 99 bX12_faultOf_99 = true := by decide +kernel
theorem eX12_faultOf_102 : decode mX12_faultOf.2.1 102 = .ok (.if_icmp .ne 7, 3) := by decide +kernel
def bX12_faultOf_105 : List OP := [oi (.iconst 2), (.goto 5, 0, 0, 111, 0, 0)]
theorem oX12_faultOf_105 : okB mX12_faultOf 105 bX12_faultOf_105 = true := by decide +kernel
def bX12_faultOf_109 : List OP := [oi (.bipush (-6))]
theorem oX12_faultOf_109 : okB mX12_faultOf 109 bX12_faultOf_109 = true := by decide +kernel
def bX12_faultOf_111 : List OP := [oi (.istore 4), (.goto 111, 0, 0, 224, 0, 0)]
theorem oX12_faultOf_111 : okB mX12_faultOf 111 bX12_faultOf_111 = true := by decide +kernel
def bX12_faultOf_116 : List OP := [oi (.iload_n 1), oi (.iconst 2), oi (.iconst 5)]
theorem oX12_faultOf_116 : okB mX12_faultOf 116 bX12_faultOf_116 = true := by decide +kernel
theorem eX12_faultOf_119 : decode mX12_faultOf.2.1 119 = .ok (.invokestatic 102, 3) := by decide +kernel
theorem lX12_faultOf_119 : okL 1091 (.methodLink mX12_faultOf.1.cls 102 mX12_in.1) = true := by decide +kernel
theorem eX12_faultOf_122 : decode mX12_faultOf.2.1 122 = .ok (.ifCond .eq 26, 3) := by decide +kernel
def bX12_faultOf_125 : List OP := [oi (.iload 5)]
theorem oX12_faultOf_125 : okB mX12_faultOf 125 bX12_faultOf_125 = true := by decide +kernel
theorem eX12_faultOf_127 : decode mX12_faultOf.2.1 127 = .ok (.ifCond .eq 21, 3) := by decide +kernel
def bX12_faultOf_130 : List OP := [oi (.iload_n 1), oi (.iconst 5)]
theorem oX12_faultOf_130 : okB mX12_faultOf 130 bX12_faultOf_130 = true := by decide +kernel
theorem eX12_faultOf_132 : decode mX12_faultOf.2.1 132 = .ok (.if_icmp .ge 9, 3) := by decide +kernel
def bX12_faultOf_135 : List OP := [oi (.iload_n 1), oi (.iconst 1), oi .iadd, (.goto 5, 0, 0, 143, 0, 0)]
theorem oX12_faultOf_135 : okB mX12_faultOf 135 bX12_faultOf_135 = true := by decide +kernel
def bX12_faultOf_141 : List OP := [oi (.bipush (-6))]
theorem oX12_faultOf_141 : okB mX12_faultOf 141 bX12_faultOf_141 = true := by decide +kernel
def bX12_faultOf_143 : List OP := [oi (.istore 4), (.goto 79, 0, 0, 224, 0, 0)]
theorem oX12_faultOf_143 : okB mX12_faultOf 143 bX12_faultOf_143 = true := by decide +kernel
def bX12_faultOf_148 : List OP := [oi (.iload_n 1), oi (.iconst 3), oi (.iconst 5)]
theorem oX12_faultOf_148 : okB mX12_faultOf 148 bX12_faultOf_148 = true := by decide +kernel
theorem eX12_faultOf_151 : decode mX12_faultOf.2.1 151 = .ok (.invokestatic 102, 3) := by decide +kernel
theorem lX12_faultOf_151 : okL 1091 (.methodLink mX12_faultOf.1.cls 102 mX12_in.1) = true := by decide +kernel
theorem eX12_faultOf_154 : decode mX12_faultOf.2.1 154 = .ok (.ifCond .eq 21, 3) := by decide +kernel
def bX12_faultOf_157 : List OP := [oi (.iload_n 3), oi (.bipush 58)]
theorem oX12_faultOf_157 : okB mX12_faultOf 157 bX12_faultOf_157 = true := by decide +kernel
theorem eX12_faultOf_160 : decode mX12_faultOf.2.1 160 = .ok (.if_icmp .ne 8, 3) := by decide +kernel
def bX12_faultOf_163 : List OP := [oi (.bipush 6), (.goto 5, 0, 0, 170, 0, 0)]
theorem oX12_faultOf_163 : okB mX12_faultOf 163 bX12_faultOf_163 = true := by decide +kernel
def bX12_faultOf_168 : List OP := [oi (.bipush (-6))]
theorem oX12_faultOf_168 : okB mX12_faultOf 168 bX12_faultOf_168 = true := by decide +kernel
def bX12_faultOf_170 : List OP := [oi (.istore 4), (.goto 52, 0, 0, 224, 0, 0)]
theorem oX12_faultOf_170 : okB mX12_faultOf 170 bX12_faultOf_170 = true := by decide +kernel
def bX12_faultOf_175 : List OP := [oi (.iload_n 1), oi (.bipush 6)]
theorem oX12_faultOf_175 : okB mX12_faultOf 175 bX12_faultOf_175 = true := by decide +kernel
theorem eX12_faultOf_178 : decode mX12_faultOf.2.1 178 = .ok (.if_icmp .ne 26, 3) := by decide +kernel
def bX12_faultOf_181 : List OP := [oi (.iload_n 3), oi (.bipush 48), oi (.bipush 50)]
theorem oX12_faultOf_181 : okB mX12_faultOf 181 bX12_faultOf_181 = true := by decide +kernel
theorem eX12_faultOf_186 : decode mX12_faultOf.2.1 186 = .ok (.invokestatic 102, 3) := by decide +kernel
theorem lX12_faultOf_186 : okL 1091 (.methodLink mX12_faultOf.1.cls 102 mX12_in.1) = true := by decide +kernel
theorem eX12_faultOf_189 : decode mX12_faultOf.2.1 189 = .ok (.ifCond .eq 8, 3) := by decide +kernel
def bX12_faultOf_192 : List OP := [oi (.bipush 7), (.goto 5, 0, 0, 199, 0, 0)]
theorem oX12_faultOf_192 : okB mX12_faultOf 192 bX12_faultOf_192 = true := by decide +kernel
def bX12_faultOf_197 : List OP := [oi (.bipush (-6))]
theorem oX12_faultOf_197 : okB mX12_faultOf 197 bX12_faultOf_197 = true := by decide +kernel
def bX12_faultOf_199 : List OP := [oi (.istore 4), (.goto 23, 0, 0, 224, 0, 0)]
theorem oX12_faultOf_199 : okB mX12_faultOf 199 bX12_faultOf_199 = true := by decide +kernel
def bX12_faultOf_204 : List OP := [oi (.iload_n 1), oi (.bipush 7)]
theorem oX12_faultOf_204 : okB mX12_faultOf 204 bX12_faultOf_204 = true := by decide +kernel
theorem eX12_faultOf_207 : decode mX12_faultOf.2.1 207 = .ok (.if_icmp .ne 17, 3) := by decide +kernel
def bX12_faultOf_210 : List OP := [oi (.iload_n 3), oi (.bipush 59)]
theorem oX12_faultOf_210 : okB mX12_faultOf 210 bX12_faultOf_210 = true := by decide +kernel
theorem eX12_faultOf_213 : decode mX12_faultOf.2.1 213 = .ok (.if_icmp .ne 7, 3) := by decide +kernel
def bX12_faultOf_216 : List OP := [oi (.iconst 0), (.goto 5, 0, 0, 222, 0, 0)]
theorem oX12_faultOf_216 : okB mX12_faultOf 216 bX12_faultOf_216 = true := by decide +kernel
def bX12_faultOf_220 : List OP := [oi (.bipush (-6))]
theorem oX12_faultOf_220 : okB mX12_faultOf 220 bX12_faultOf_220 = true := by decide +kernel
def bX12_faultOf_222 : List OP := [oi (.istore 4)]
theorem oX12_faultOf_222 : okB mX12_faultOf 222 bX12_faultOf_222 = true := by decide +kernel
def bX12_faultOf_224 : List OP := [oi (.iload 4)]
theorem oX12_faultOf_224 : okB mX12_faultOf 224 bX12_faultOf_224 = true := by decide +kernel
theorem eX12_faultOf_226 : decode mX12_faultOf.2.1 226 = .ok (.ifCond .ge 5, 3) := by decide +kernel
def bX12_faultOf_229 : List OP := [oi (.iload_n 2)]
theorem oX12_faultOf_229 : okB mX12_faultOf 229 bX12_faultOf_229 = true := by decide +kernel
theorem eX12_faultOf_230 : decode mX12_faultOf.2.1 230 = .ok (.ireturn, 1) := by decide +kernel
def bX12_faultOf_231 : List OP := [oi (.iload 4), oi (.istore_n 1), oi (.iinc 2 1), (.goto (-233), 0, 0, 4, 0, 0)]
theorem oX12_faultOf_231 : okB mX12_faultOf 231 bX12_faultOf_231 = true := by decide +kernel
def bX12_faultOf_240 : List OP := [oi (.iload_n 1), oi (.bipush 8)]
theorem oX12_faultOf_240 : okB mX12_faultOf 240 bX12_faultOf_240 = true := by decide +kernel
theorem eX12_faultOf_243 : decode mX12_faultOf.2.1 243 = .ok (.if_icmp .ne 8, 3) := by decide +kernel
def bX12_faultOf_246 : List OP := [oi (.bipush (-6)), (.goto 7, 0, 0, 255, 0, 0)]
theorem oX12_faultOf_246 : okB mX12_faultOf 246 bX12_faultOf_246 = true := by decide +kernel
def bX12_faultOf_251 : List OP := [oi (.aload_n 0), (.getfield 142, 8, 12, 8, 0, 975)]
theorem oX12_faultOf_251 : okB mX12_faultOf 251 bX12_faultOf_251 = true := by decide +kernel
theorem eX12_faultOf_255 : decode mX12_faultOf.2.1 255 = .ok (.ireturn, 1) := by decide +kernel
def bX12_fault_0 : List OP := [oi (.aload_n 0)]
theorem oX12_fault_0 : okB mX12_fault 0 bX12_fault_0 = true := by decide +kernel
theorem eX12_fault_1 : decode mX12_fault.2.1 1 = .ok (.invokevirtual 145, 3) := by decide +kernel
theorem lX12_fault_1 : okL 1176 (.methodLink mX12_fault.1.cls 145 mX12_faultOf.1) = true := by decide +kernel
theorem eX12_fault_4 : decode mX12_fault.2.1 4 = .ok (.ireturn, 1) := by decide +kernel
def bX12_rule_0 : List OP := [oi (.aload_n 0)]
theorem oX12_rule_0 : okB mX12_rule 0 bX12_rule_0 = true := by decide +kernel
theorem eX12_rule_1 : decode mX12_rule.2.1 1 = .ok (.invokevirtual 145, 3) := by decide +kernel
theorem lX12_rule_1 : okL 1176 (.methodLink mX12_rule.1.cls 145 mX12_faultOf.1) = true := by decide +kernel
theorem eX12_rule_4 : decode mX12_rule.2.1 4 = .ok (.ifCond .lt 6, 3) := by decide +kernel
def bX12_rule_7 : List OP := [oi (.bipush (-5))]
theorem oX12_rule_7 : okB mX12_rule 7 bX12_rule_7 = true := by decide +kernel
theorem eX12_rule_9 : decode mX12_rule.2.1 9 = .ok (.ireturn, 1) := by decide +kernel
def bX12_rule_10 : List OP := [oi (.aload_n 0), oi (.aload_n 0), (.getfield 142, 8, 12, 8, 0, 975), (.putfield 149, 10, 12, 10, 0, 977), oi (.iconst 0), oi (.istore_n 1)]
theorem oX12_rule_10 : okB mX12_rule 10 bX12_rule_10 = true := by decide +kernel
def bX12_rule_20 : List OP := [oi (.iload_n 1), oi (.aload_n 0), (.getfield 142, 8, 12, 8, 0, 975)]
theorem oX12_rule_20 : okB mX12_rule 20 bX12_rule_20 = true := by decide +kernel
theorem eX12_rule_25 : decode mX12_rule.2.1 25 = .ok (.if_icmp .ge 21, 3) := by decide +kernel
def bX12_rule_28 : List OP := [oi (.aload_n 0), (.getfield 29, 11, 12, 11, 2, 978), oi (.iload_n 1), oi (.aload_n 0), (.getfield 26, 9, 12, 9, 2, 976), oi (.iload_n 1), oi .iaload, oi .iastore, oi (.iinc 1 1), (.goto (-23), 0, 0, 20, 0, 0)]
theorem oX12_rule_28 : okB mX12_rule 28 bX12_rule_28 = true := by decide +kernel
def bX12_rule_46 : List OP := [oi (.aload_n 0), oi (.iconst 0), (.putfield 142, 8, 12, 8, 0, 975), oi (.iconst 1)]
theorem oX12_rule_46 : okB mX12_rule 46 bX12_rule_46 = true := by decide +kernel
theorem eX12_rule_52 : decode mX12_rule.2.1 52 = .ok (.ireturn, 1) := by decide +kernel
def bX12_pick_0 : List OP := [oi (.iconst 0), oi (.istore 5)]
theorem oX12_pick_0 : okB mX12_pick 0 bX12_pick_0 = true := by decide +kernel
def bX12_pick_3 : List OP := [oi (.iload 5), oi (.aload_n 0), (.getfield 149, 10, 12, 10, 0, 977)]
theorem oX12_pick_3 : okB mX12_pick 3 bX12_pick_3 = true := by decide +kernel
theorem eX12_pick_9 : decode mX12_pick.2.1 9 = .ok (.if_icmp .ge 171, 3) := by decide +kernel
def bX12_pick_12 : List OP := [oi (.aload_n 0), (.getfield 29, 11, 12, 11, 2, 978), oi (.iload 5), oi .iaload, oi (.istore 6), oi (.iload 6), oi (.bipush 48), oi (.bipush 50)]
theorem oX12_pick_12 : okB mX12_pick 12 bX12_pick_12 = true := by decide +kernel
theorem eX12_pick_27 : decode mX12_pick.2.1 27 = .ok (.invokestatic 102, 3) := by decide +kernel
theorem lX12_pick_27 : okL 1091 (.methodLink mX12_pick.1.cls 102 mX12_in.1) = true := by decide +kernel
theorem eX12_pick_30 : decode mX12_pick.2.1 30 = .ok (.ifCond .eq 9, 3) := by decide +kernel
def bX12_pick_33 : List OP := [oi (.iload 6), oi (.bipush 48), oi .isub]
theorem oX12_pick_33 : okB mX12_pick 33 bX12_pick_33 = true := by decide +kernel
theorem eX12_pick_38 : decode mX12_pick.2.1 38 = .ok (.ireturn, 1) := by decide +kernel
def bX12_pick_39 : List OP := [oi (.iload 6), oi (.bipush 98)]
theorem oX12_pick_39 : okB mX12_pick 39 bX12_pick_39 = true := by decide +kernel
theorem eX12_pick_43 : decode mX12_pick.2.1 43 = .ok (.if_icmp .ne 7, 3) := by decide +kernel
def bX12_pick_46 : List OP := [oi (.iload_n 1), (.goto 27, 0, 0, 74, 0, 0)]
theorem oX12_pick_46 : okB mX12_pick 46 bX12_pick_46 = true := by decide +kernel
def bX12_pick_50 : List OP := [oi (.iload 6), oi (.bipush 108)]
theorem oX12_pick_50 : okB mX12_pick 50 bX12_pick_50 = true := by decide +kernel
theorem eX12_pick_54 : decode mX12_pick.2.1 54 = .ok (.if_icmp .ne 7, 3) := by decide +kernel
def bX12_pick_57 : List OP := [oi (.iload_n 2), (.goto 16, 0, 0, 74, 0, 0)]
theorem oX12_pick_57 : okB mX12_pick 57 bX12_pick_57 = true := by decide +kernel
def bX12_pick_61 : List OP := [oi (.iload 6), oi (.bipush 115)]
theorem oX12_pick_61 : okB mX12_pick 61 bX12_pick_61 = true := by decide +kernel
theorem eX12_pick_65 : decode mX12_pick.2.1 65 = .ok (.if_icmp .ne 7, 3) := by decide +kernel
def bX12_pick_68 : List OP := [oi (.iload_n 3), (.goto 5, 0, 0, 74, 0, 0)]
theorem oX12_pick_68 : okB mX12_pick 68 bX12_pick_68 = true := by decide +kernel
def bX12_pick_72 : List OP := [oi (.iload 4)]
theorem oX12_pick_72 : okB mX12_pick 72 bX12_pick_72 = true := by decide +kernel
def bX12_pick_74 : List OP := [oi (.istore 7), oi (.aload_n 0), (.getfield 29, 11, 12, 11, 2, 978), oi (.iload 5), oi (.iconst 1), oi .iadd, oi .iaload, oi (.bipush 60)]
theorem oX12_pick_74 : okB mX12_pick 74 bX12_pick_74 = true := by decide +kernel
theorem eX12_pick_87 : decode mX12_pick.2.1 87 = .ok (.if_icmp .ne 7, 3) := by decide +kernel
def bX12_pick_90 : List OP := [oi (.iconst 1), (.goto 4, 0, 0, 95, 0, 0)]
theorem oX12_pick_90 : okB mX12_pick 90 bX12_pick_90 = true := by decide +kernel
def bX12_pick_94 : List OP := [oi (.iconst 0)]
theorem oX12_pick_94 : okB mX12_pick 94 bX12_pick_94 = true := by decide +kernel
def bX12_pick_95 : List OP := [oi (.istore 8), oi (.iconst 0), oi (.istore 9), oi (.iinc 5 2)]
theorem oX12_pick_95 : okB mX12_pick 95 bX12_pick_95 = true := by decide +kernel
def bX12_pick_103 : List OP := [oi (.aload_n 0), (.getfield 29, 11, 12, 11, 2, 978), oi (.iload 5), oi .iaload, oi (.bipush 58)]
theorem oX12_pick_103 : okB mX12_pick 103 bX12_pick_103 = true := by decide +kernel
theorem eX12_pick_112 : decode mX12_pick.2.1 112 = .ok (.if_icmp .eq 27, 3) := by decide +kernel
def bX12_pick_115 : List OP := [oi (.bipush 10), oi (.iload 9), oi .imul, oi (.aload_n 0), (.getfield 29, 11, 12, 11, 2, 978), oi (.iload 5), oi .iaload, oi .iadd, oi (.bipush 48), oi .isub, oi (.istore 9), oi (.iinc 5 1), (.goto (-33), 0, 0, 103, 0, 0)]
theorem oX12_pick_115 : okB mX12_pick 115 bX12_pick_115 = true := by decide +kernel
def bX12_pick_139 : List OP := [oi (.iload 8)]
theorem oX12_pick_139 : okB mX12_pick 139 bX12_pick_139 = true := by decide +kernel
theorem eX12_pick_141 : decode mX12_pick.2.1 141 = .ok (.ifCond .eq 13, 3) := by decide +kernel
def bX12_pick_144 : List OP := [oi (.iload 7), oi (.iload 9)]
theorem oX12_pick_144 : okB mX12_pick 144 bX12_pick_144 = true := by decide +kernel
theorem eX12_pick_148 : decode mX12_pick.2.1 148 = .ok (.if_icmp .ge 26, 3) := by decide +kernel
def bX12_pick_151 : List OP := [(.goto 10, 0, 0, 161, 0, 0)]
theorem oX12_pick_151 : okB mX12_pick 151 bX12_pick_151 = true := by decide +kernel
def bX12_pick_154 : List OP := [oi (.iload 7), oi (.iload 9)]
theorem oX12_pick_154 : okB mX12_pick 154 bX12_pick_154 = true := by decide +kernel
theorem eX12_pick_158 : decode mX12_pick.2.1 158 = .ok (.if_icmp .le 16, 3) := by decide +kernel
def bX12_pick_161 : List OP := [oi (.aload_n 0), (.getfield 29, 11, 12, 11, 2, 978), oi (.iload 5), oi (.iconst 1), oi .iadd, oi .iaload, oi (.bipush 48), oi .isub]
theorem oX12_pick_161 : okB mX12_pick 161 bX12_pick_161 = true := by decide +kernel
theorem eX12_pick_173 : decode mX12_pick.2.1 173 = .ok (.ireturn, 1) := by decide +kernel
def bX12_pick_174 : List OP := [oi (.iinc 5 3), (.goto (-174), 0, 0, 3, 0, 0)]
theorem oX12_pick_174 : okB mX12_pick 174 bX12_pick_174 = true := by decide +kernel
def bX12_pick_180 : List OP := [oi (.iconst 0)]
theorem oX12_pick_180 : okB mX12_pick 180 bX12_pick_180 = true := by decide +kernel
theorem eX12_pick_181 : decode mX12_pick.2.1 181 = .ok (.ireturn, 1) := by decide +kernel
def bX12_run_0 : List OP := [oi (.aload_n 0), oi (.iconst 0), (.putfield 152, 31, 12, 31, 0, 998), oi (.aload_n 0), oi (.iconst 0), (.putfield 155, 32, 12, 32, 0, 999), oi (.aload_n 0), oi (.iconst 0), (.putfield 158, 33, 12, 33, 0, 1000), oi (.aload_n 0), oi (.bipush (-6)), (.putfield 161, 34, 12, 34, 0, 1001), oi (.iconst 0), oi (.istore_n 2)]
theorem oX12_run_0 : okB mX12_run 0 bX12_run_0 = true := by decide +kernel
def bX12_run_23 : List OP := [oi (.iload_n 2), oi (.bipush 8)]
theorem oX12_run_23 : okB mX12_run 23 bX12_run_23 = true := by decide +kernel
theorem eX12_run_26 : decode mX12_run.2.1 26 = .ok (.if_icmp .ge 17, 3) := by decide +kernel
def bX12_run_29 : List OP := [oi (.aload_n 0), (.getfield 86, 35, 12, 35, 2, 1002), oi (.iload_n 2), oi (.bipush (-6)), oi .iastore, oi (.iinc 2 1), (.goto (-17), 0, 0, 23, 0, 0)]
theorem oX12_run_29 : okB mX12_run 29 bX12_run_29 = true := by decide +kernel
def bX12_run_43 : List OP := [oi (.iconst 0), oi (.istore_n 2), oi (.iconst 0), oi (.istore_n 3), oi (.iconst 0), oi (.istore 4), oi (.iconst 0), oi (.istore 5), oi (.iconst 0), oi (.istore 6)]
theorem oX12_run_43 : okB mX12_run 43 bX12_run_43 = true := by decide +kernel
def bX12_run_56 : List OP := [oi (.iload 6), oi (.bipush 60)]
theorem oX12_run_56 : okB mX12_run 56 bX12_run_56 = true := by decide +kernel
theorem eX12_run_60 : decode mX12_run.2.1 60 = .ok (.if_icmp .ge 299, 3) := by decide +kernel
def bX12_run_63 : List OP := [oi (.aload_n 0), (.getfield 152, 31, 12, 31, 0, 998), oi (.aload_n 0), (.getfield 92, 4, 12, 4, 0, 971)]
theorem oX12_run_63 : okB mX12_run 63 bX12_run_63 = true := by decide +kernel
theorem eX12_run_71 : decode mX12_run.2.1 71 = .ok (.if_icmp .ge 288, 3) := by decide +kernel
def bX12_run_74 : List OP := [oi (.aload_n 0), (.getfield 23, 7, 12, 7, 2, 974), oi (.iload 6), oi .iaload, oi (.istore 7)]
theorem oX12_run_74 : okB mX12_run 74 bX12_run_74 = true := by decide +kernel
def bX12_run_83 : List OP := [oi (.iload 7)]
theorem oX12_run_83 : okB mX12_run 83 bX12_run_83 = true := by decide +kernel
theorem eX12_run_85 : decode mX12_run.2.1 85 = .ok (.ifCond .le 157, 3) := by decide +kernel
def bX12_run_88 : List OP := [oi (.iload_n 3), oi (.aload_n 0), (.getfield 92, 4, 12, 4, 0, 971)]
theorem oX12_run_88 : okB mX12_run 88 bX12_run_88 = true := by decide +kernel
theorem eX12_run_93 : decode mX12_run.2.1 93 = .ok (.if_icmp .ge 149, 3) := by decide +kernel
def bX12_run_96 : List OP := [oi (.iload 4)]
theorem oX12_run_96 : okB mX12_run 96 bX12_run_96 = true := by decide +kernel
theorem eX12_run_98 : decode mX12_run.2.1 98 = .ok (.ifCond .ne 98, 3) := by decide +kernel
def bX12_run_101 : List OP := [oi (.iload_n 3)]
theorem oX12_run_101 : okB mX12_run 101 bX12_run_101 = true := by decide +kernel
theorem eX12_run_102 : decode mX12_run.2.1 102 = .ok (.ifCond .eq 15, 3) := by decide +kernel
def bX12_run_105 : List OP := [oi (.aload_n 0), (.getfield 96, 6, 12, 6, 0, 973), oi (.iload_n 3), oi .ishr, oi (.iconst 1), oi .iand, oi (.iconst 1)]
theorem oX12_run_105 : okB mX12_run 105 bX12_run_105 = true := by decide +kernel
theorem eX12_run_114 : decode mX12_run.2.1 114 = .ok (.if_icmp .ne 7, 3) := by decide +kernel
def bX12_run_117 : List OP := [oi (.iconst 1), (.goto 4, 0, 0, 122, 0, 0)]
theorem oX12_run_117 : okB mX12_run 117 bX12_run_117 = true := by decide +kernel
def bX12_run_121 : List OP := [oi (.iconst 0)]
theorem oX12_run_121 : okB mX12_run 121 bX12_run_121 = true := by decide +kernel
def bX12_run_122 : List OP := [oi (.istore 8), oi (.iload_n 1)]
theorem oX12_run_122 : okB mX12_run 122 bX12_run_122 = true := by decide +kernel
theorem eX12_run_125 : decode mX12_run.2.1 125 = .ok (.ifCond .ne 12, 3) := by decide +kernel
def bX12_run_128 : List OP := [oi (.aload_n 0), (.getfield 89, 36, 12, 36, 2, 1003), oi (.iload_n 3), oi .iaload, (.goto 42, 0, 0, 176, 0, 0)]
theorem oX12_run_128 : okB mX12_run 128 bX12_run_128 = true := by decide +kernel
def bX12_run_137 : List OP := [oi (.iload 8)]
theorem oX12_run_137 : okB mX12_run 137 bX12_run_137 = true := by decide +kernel
theorem eX12_run_139 : decode mX12_run.2.1 139 = .ok (.ifCond .eq 36, 3) := by decide +kernel
def bX12_run_142 : List OP := [oi (.aload_n 0), oi (.iload_n 3), oi (.aload_n 0), (.getfield 152, 31, 12, 31, 0, 998), oi .isub, oi (.iload 6)]
theorem oX12_run_142 : okB mX12_run 142 bX12_run_142 = true := by decide +kernel
theorem eX12_run_151 : decode mX12_run.2.1 151 = .ok (.ifCond .ne 7, 3) := by decide +kernel
def bX12_run_154 : List OP := [oi (.iconst 0), (.goto 12, 0, 0, 167, 0, 0)]
theorem oX12_run_154 : okB mX12_run 154 bX12_run_154 = true := by decide +kernel
def bX12_run_158 : List OP := [oi (.aload_n 0), (.getfield 23, 7, 12, 7, 2, 974), oi (.iload 6), oi (.iconst 1), oi .isub, oi .iaload]
theorem oX12_run_158 : okB mX12_run 158 bX12_run_158 = true := by decide +kernel
def bX12_run_167 : List OP := [oi (.iload_n 2), oi (.iload_n 3)]
theorem oX12_run_167 : okB mX12_run 167 bX12_run_167 = true := by decide +kernel
theorem eX12_run_169 : decode mX12_run.2.1 169 = .ok (.invokevirtual 164, 3) := by decide +kernel
theorem lX12_run_169 : okL 1195 (.methodLink mX12_run.1.cls 164 mX12_pick.1) = true := by decide +kernel
def bX12_run_172 : List OP := [(.goto 4, 0, 0, 176, 0, 0)]
theorem oX12_run_172 : okB mX12_run 172 bX12_run_172 = true := by decide +kernel
def bX12_run_175 : List OP := [oi (.iload_n 2)]
theorem oX12_run_175 : okB mX12_run 175 bX12_run_175 = true := by decide +kernel
def bX12_run_176 : List OP := [oi (.istore_n 2), oi (.aload_n 0), (.getfield 86, 35, 12, 35, 2, 1002), oi (.iload_n 3), oi (.iload_n 2), oi .iastore, oi (.aload_n 0), (.getfield 20, 5, 12, 5, 2, 972), oi (.iconst 3), oi (.iload_n 3), oi .imul, oi (.iload_n 2), oi .iadd, oi .iaload, oi (.istore 4)]
theorem oX12_run_176 : okB mX12_run 176 bX12_run_176 = true := by decide +kernel
def bX12_run_196 : List OP := [oi (.iload 7), oi (.iload 4)]
theorem oX12_run_196 : okB mX12_run 196 bX12_run_196 = true := by decide +kernel
theorem eX12_run_200 : decode mX12_run.2.1 200 = .ok (.if_icmp .ge 8, 3) := by decide +kernel
def bX12_run_203 : List OP := [oi (.iload 7), (.goto 5, 0, 0, 210, 0, 0)]
theorem oX12_run_203 : okB mX12_run 203 bX12_run_203 = true := by decide +kernel
def bX12_run_208 : List OP := [oi (.iload 4)]
theorem oX12_run_208 : okB mX12_run 208 bX12_run_208 = true := by decide +kernel
def bX12_run_210 : List OP := [oi (.istore 8), oi (.iload 7), oi (.iload 8), oi .isub, oi (.istore 7), oi (.iload 4), oi (.iload 8), oi .isub, oi (.istore 4), oi (.iload_n 3), oi (.iload 4)]
theorem oX12_run_210 : okB mX12_run 210 bX12_run_210 = true := by decide +kernel
theorem eX12_run_229 : decode mX12_run.2.1 229 = .ok (.ifCond .ne 7, 3) := by decide +kernel
def bX12_run_232 : List OP := [oi (.iconst 1), (.goto 4, 0, 0, 237, 0, 0)]
theorem oX12_run_232 : okB mX12_run 232 bX12_run_232 = true := by decide +kernel
def bX12_run_236 : List OP := [oi (.iconst 0)]
theorem oX12_run_236 : okB mX12_run 236 bX12_run_236 = true := by decide +kernel
def bX12_run_237 : List OP := [oi .iadd, oi (.istore_n 3), (.goto (-156), 0, 0, 83, 0, 0)]
theorem oX12_run_237 : okB mX12_run 237 bX12_run_237 = true := by decide +kernel
def bX12_run_242 : List OP := [oi (.iload 5)]
theorem oX12_run_242 : okB mX12_run 242 bX12_run_242 = true := by decide +kernel
theorem eX12_run_244 : decode mX12_run.2.1 244 = .ok (.ifCond .ne 21, 3) := by decide +kernel
def bX12_run_247 : List OP := [oi (.iload_n 3), oi (.aload_n 0), (.getfield 17, 3, 12, 3, 2, 970), oi (.iconst 2), oi .iaload]
theorem oX12_run_247 : okB mX12_run 247 bX12_run_247 = true := by decide +kernel
theorem eX12_run_254 : decode mX12_run.2.1 254 = .ok (.if_icmp .ge 11, 3) := by decide +kernel
def bX12_run_257 : List OP := [oi (.iload_n 3), oi (.aload_n 0), (.getfield 92, 4, 12, 4, 0, 971)]
theorem oX12_run_257 : okB mX12_run 257 bX12_run_257 = true := by decide +kernel
theorem eX12_run_262 : decode mX12_run.2.1 262 = .ok (.if_icmp .ne 7, 3) := by decide +kernel
def bX12_run_265 : List OP := [oi (.iconst 1), (.goto 4, 0, 0, 270, 0, 0)]
theorem oX12_run_265 : okB mX12_run 265 bX12_run_265 = true := by decide +kernel
def bX12_run_269 : List OP := [oi (.iconst 0)]
theorem oX12_run_269 : okB mX12_run 269 bX12_run_269 = true := by decide +kernel
def bX12_run_270 : List OP := [oi (.istore 5), oi (.iload 5)]
theorem oX12_run_270 : okB mX12_run 270 bX12_run_270 = true := by decide +kernel
theorem eX12_run_274 : decode mX12_run.2.1 274 = .ok (.ifCond .eq 64, 3) := by decide +kernel
def bX12_run_277 : List OP := [oi (.iload_n 3), oi (.aload_n 0), (.getfield 152, 31, 12, 31, 0, 998)]
theorem oX12_run_277 : okB mX12_run 277 bX12_run_277 = true := by decide +kernel
theorem eX12_run_282 : decode mX12_run.2.1 282 = .ok (.if_icmp .le 56, 3) := by decide +kernel
def bX12_run_285 : List OP := [oi (.aload_n 0), oi .dup, (.getfield 158, 33, 12, 33, 0, 1000), oi (.aload_n 0), (.getfield 86, 35, 12, 35, 2, 1002), oi (.aload_n 0), (.getfield 152, 31, 12, 31, 0, 998), oi .iaload, oi .iadd, (.putfield 158, 33, 12, 33, 0, 1000), oi (.aload_n 0), oi .dup, (.getfield 152, 31, 12, 31, 0, 998), oi (.iconst 1), oi .iadd, (.putfield 152, 31, 12, 31, 0, 998), oi (.aload_n 0), oi (.aload_n 0), (.getfield 152, 31, 12, 31, 0, 998), oi (.aload_n 0), (.getfield 92, 4, 12, 4, 0, 971)]
theorem oX12_run_285 : okB mX12_run 285 bX12_run_285 = true := by decide +kernel
theorem eX12_run_322 : decode mX12_run.2.1 322 = .ok (.if_icmp .ne 8, 3) := by decide +kernel
def bX12_run_325 : List OP := [oi (.iload 6), (.goto 5, 0, 0, 332, 0, 0)]
theorem oX12_run_325 : okB mX12_run 325 bX12_run_325 = true := by decide +kernel
def bX12_run_330 : List OP := [oi (.bipush (-6))]
theorem oX12_run_330 : okB mX12_run 330 bX12_run_330 = true := by decide +kernel
def bX12_run_332 : List OP := [(.putfield 161, 34, 12, 34, 0, 1001), (.goto 18, 0, 0, 353, 0, 0)]
theorem oX12_run_332 : okB mX12_run 332 bX12_run_332 = true := by decide +kernel
def bX12_run_338 : List OP := [oi (.iload 5)]
theorem oX12_run_338 : okB mX12_run 338 bX12_run_338 = true := by decide +kernel
theorem eX12_run_340 : decode mX12_run.2.1 340 = .ok (.ifCond .eq 13, 3) := by decide +kernel
def bX12_run_343 : List OP := [oi (.aload_n 0), oi .dup, (.getfield 155, 32, 12, 32, 0, 999), oi (.iconst 1), oi .iadd, (.putfield 155, 32, 12, 32, 0, 999)]
theorem oX12_run_343 : okB mX12_run 343 bX12_run_343 = true := by decide +kernel
def bX12_run_353 : List OP := [oi (.iinc 6 1), (.goto (-300), 0, 0, 56, 0, 0)]
theorem oX12_run_353 : okB mX12_run 353 bX12_run_353 = true := by decide +kernel
theorem eX12_run_359 : decode mX12_run.2.1 359 = .ok (.return_, 1) := by decide +kernel
def bX12_tell_0 : List OP := [oi (.iload_n 1)]
theorem oX12_tell_0 : okB mX12_tell 0 bX12_tell_0 = true := by decide +kernel
theorem eX12_tell_1 : decode mX12_tell.2.1 1 = .ok (.ifCond .ne 10, 3) := by decide +kernel
def bX12_tell_4 : List OP := [oi (.aload_n 0), (.getfield 152, 31, 12, 31, 0, 998), (.goto 64, 0, 0, 72, 0, 0)]
theorem oX12_tell_4 : okB mX12_tell 4 bX12_tell_4 = true := by decide +kernel
def bX12_tell_11 : List OP := [oi (.iload_n 1), oi (.iconst 1)]
theorem oX12_tell_11 : okB mX12_tell 11 bX12_tell_11 = true := by decide +kernel
theorem eX12_tell_13 : decode mX12_tell.2.1 13 = .ok (.if_icmp .ne 10, 3) := by decide +kernel
def bX12_tell_16 : List OP := [oi (.aload_n 0), (.getfield 155, 32, 12, 32, 0, 999), (.goto 52, 0, 0, 72, 0, 0)]
theorem oX12_tell_16 : okB mX12_tell 16 bX12_tell_16 = true := by decide +kernel
def bX12_tell_23 : List OP := [oi (.iload_n 1), oi (.iconst 2)]
theorem oX12_tell_23 : okB mX12_tell 23 bX12_tell_23 = true := by decide +kernel
theorem eX12_tell_25 : decode mX12_tell.2.1 25 = .ok (.if_icmp .ne 10, 3) := by decide +kernel
def bX12_tell_28 : List OP := [oi (.aload_n 0), (.getfield 158, 33, 12, 33, 0, 1000), (.goto 40, 0, 0, 72, 0, 0)]
theorem oX12_tell_28 : okB mX12_tell 28 bX12_tell_28 = true := by decide +kernel
def bX12_tell_35 : List OP := [oi (.iload_n 1), oi (.iconst 3)]
theorem oX12_tell_35 : okB mX12_tell 35 bX12_tell_35 = true := by decide +kernel
theorem eX12_tell_37 : decode mX12_tell.2.1 37 = .ok (.if_icmp .ne 10, 3) := by decide +kernel
def bX12_tell_40 : List OP := [oi (.aload_n 0), (.getfield 161, 34, 12, 34, 0, 1001), (.goto 28, 0, 0, 72, 0, 0)]
theorem oX12_tell_40 : okB mX12_tell 40 bX12_tell_40 = true := by decide +kernel
def bX12_tell_47 : List OP := [oi (.iload_n 1), oi (.bipush 10), oi .isub, oi (.aload_n 0), (.getfield 92, 4, 12, 4, 0, 971)]
theorem oX12_tell_47 : okB mX12_tell 47 bX12_tell_47 = true := by decide +kernel
theorem eX12_tell_55 : decode mX12_tell.2.1 55 = .ok (.if_icmp .ge 15, 3) := by decide +kernel
def bX12_tell_58 : List OP := [oi (.aload_n 0), (.getfield 86, 35, 12, 35, 2, 1002), oi (.iload_n 1), oi (.bipush 10), oi .isub, oi .iaload, (.goto 5, 0, 0, 72, 0, 0)]
theorem oX12_tell_58 : okB mX12_tell 58 bX12_tell_58 = true := by decide +kernel
def bX12_tell_70 : List OP := [oi (.bipush (-6))]
theorem oX12_tell_70 : okB mX12_tell 70 bX12_tell_70 = true := by decide +kernel
theorem eX12_tell_72 : decode mX12_tell.2.1 72 = .ok (.ireturn, 1) := by decide +kernel
def bX12_isTold_0 : List OP := [oi (.iload_n 0), oi (.iconst 0), oi (.iconst 3)]
theorem oX12_isTold_0 : okB mX12_isTold 0 bX12_isTold_0 = true := by decide +kernel
theorem eX12_isTold_3 : decode mX12_isTold.2.1 3 = .ok (.invokestatic 102, 3) := by decide +kernel
theorem lX12_isTold_3 : okL 1091 (.methodLink mX12_isTold.1.cls 102 mX12_in.1) = true := by decide +kernel
theorem eX12_isTold_6 : decode mX12_isTold.2.1 6 = .ok (.ifCond .ne 14, 3) := by decide +kernel
def bX12_isTold_9 : List OP := [oi (.iload_n 0), oi (.bipush 10), oi (.bipush 17)]
theorem oX12_isTold_9 : okB mX12_isTold 9 bX12_isTold_9 = true := by decide +kernel
theorem eX12_isTold_14 : decode mX12_isTold.2.1 14 = .ok (.invokestatic 102, 3) := by decide +kernel
theorem lX12_isTold_14 : okL 1091 (.methodLink mX12_isTold.1.cls 102 mX12_in.1) = true := by decide +kernel
theorem eX12_isTold_17 : decode mX12_isTold.2.1 17 = .ok (.ifCond .eq 7, 3) := by decide +kernel
def bX12_isTold_20 : List OP := [oi (.iconst 1), (.goto 4, 0, 0, 25, 0, 0)]
theorem oX12_isTold_20 : okB mX12_isTold 20 bX12_isTold_20 = true := by decide +kernel
def bX12_isTold_24 : List OP := [oi (.iconst 0)]
theorem oX12_isTold_24 : okB mX12_isTold 24 bX12_isTold_24 = true := by decide +kernel
theorem eX12_isTold_25 : decode mX12_isTold.2.1 25 = .ok (.ireturn, 1) := by decide +kernel
def bX12_show_0 : List OP := [oi (.iload_n 1)]
theorem oX12_show_0 : okB mX12_show 0 bX12_show_0 = true := by decide +kernel
theorem eX12_show_1 : decode mX12_show.2.1 1 = .ok (.invokestatic 167, 3) := by decide +kernel
theorem lX12_show_1 : okL 1188 (.methodLink mX12_show.1.cls 167 mX12_isTold.1) = true := by decide +kernel
theorem eX12_show_4 : decode mX12_show.2.1 4 = .ok (.ifCond .ne 6, 3) := by decide +kernel
def bX12_show_7 : List OP := [oi (.bipush (-2))]
theorem oX12_show_7 : okB mX12_show 7 bX12_show_7 = true := by decide +kernel
theorem eX12_show_9 : decode mX12_show.2.1 9 = .ok (.ireturn, 1) := by decide +kernel
def bX12_show_10 : List OP := [oi (.aload_n 0), oi (.iconst 1)]
theorem oX12_show_10 : okB mX12_show 10 bX12_show_10 = true := by decide +kernel
theorem eX12_show_12 : decode mX12_show.2.1 12 = .ok (.invokevirtual 170, 3) := by decide +kernel
theorem lX12_show_12 : okL 1191 (.methodLink mX12_show.1.cls 170 mX12_run.1) = true := by decide +kernel
def bX12_show_15 : List OP := [oi (.aload_n 0), oi (.iload_n 1)]
theorem oX12_show_15 : okB mX12_show 15 bX12_show_15 = true := by decide +kernel
theorem eX12_show_17 : decode mX12_show.2.1 17 = .ok (.invokevirtual 174, 3) := by decide +kernel
theorem lX12_show_17 : okL 1199 (.methodLink mX12_show.1.cls 174 mX12_tell.1) = true := by decide +kernel
theorem eX12_show_20 : decode mX12_show.2.1 20 = .ok (.ireturn, 1) := by decide +kernel
def bX12_wish_0 : List OP := [oi (.iload_n 1), oi (.istore_n 2), oi (.aload_n 0), (.getfield 92, 4, 12, 4, 0, 971), oi (.iconst 1), oi .isub, oi (.istore_n 3)]
theorem oX12_wish_0 : okB mX12_wish 0 bX12_wish_0 = true := by decide +kernel
def bX12_wish_9 : List OP := [oi (.iload_n 3)]
theorem oX12_wish_9 : okB mX12_wish 9 bX12_wish_9 = true := by decide +kernel
theorem eX12_wish_10 : decode mX12_wish.2.1 10 = .ok (.ifCond .lt 63, 3) := by decide +kernel
def bX12_wish_13 : List OP := [oi (.iload_n 3)]
theorem oX12_wish_13 : okB mX12_wish 13 bX12_wish_13 = true := by decide +kernel
theorem eX12_wish_14 : decode mX12_wish.2.1 14 = .ok (.ifCond .eq 15, 3) := by decide +kernel
def bX12_wish_17 : List OP := [oi (.aload_n 0), (.getfield 96, 6, 12, 6, 0, 973), oi (.iload_n 3), oi .ishr, oi (.iconst 1), oi .iand, oi (.iconst 1)]
theorem oX12_wish_17 : okB mX12_wish 17 bX12_wish_17 = true := by decide +kernel
theorem eX12_wish_26 : decode mX12_wish.2.1 26 = .ok (.if_icmp .ne 7, 3) := by decide +kernel
def bX12_wish_29 : List OP := [oi (.iconst 1), (.goto 4, 0, 0, 34, 0, 0)]
theorem oX12_wish_29 : okB mX12_wish 29 bX12_wish_29 = true := by decide +kernel
def bX12_wish_33 : List OP := [oi (.iconst 0)]
theorem oX12_wish_33 : okB mX12_wish 33 bX12_wish_33 = true := by decide +kernel
def bX12_wish_34 : List OP := [oi (.istore 4), oi (.aload_n 0), (.getfield 89, 36, 12, 36, 2, 1003), oi (.iload_n 3), oi (.iload 4)]
theorem oX12_wish_34 : okB mX12_wish 34 bX12_wish_34 = true := by decide +kernel
theorem eX12_wish_43 : decode mX12_wish.2.1 43 = .ok (.ifCond .eq 9, 3) := by decide +kernel
def bX12_wish_46 : List OP := [oi (.iload_n 2), oi (.iconst 3), oi .irem, (.goto 4, 0, 0, 53, 0, 0)]
theorem oX12_wish_46 : okB mX12_wish 46 bX12_wish_46 = true := by decide +kernel
def bX12_wish_52 : List OP := [oi (.iconst (-1))]
theorem oX12_wish_52 : okB mX12_wish 52 bX12_wish_52 = true := by decide +kernel
def bX12_wish_53 : List OP := [oi .iastore, oi (.iload_n 2), oi (.iload 4)]
theorem oX12_wish_53 : okB mX12_wish 53 bX12_wish_53 = true := by decide +kernel
theorem eX12_wish_57 : decode mX12_wish.2.1 57 = .ok (.ifCond .eq 7, 3) := by decide +kernel
def bX12_wish_60 : List OP := [oi (.iconst 3), (.goto 4, 0, 0, 65, 0, 0)]
theorem oX12_wish_60 : okB mX12_wish 60 bX12_wish_60 = true := by decide +kernel
def bX12_wish_64 : List OP := [oi (.iconst 1)]
theorem oX12_wish_64 : okB mX12_wish 64 bX12_wish_64 = true := by decide +kernel
def bX12_wish_65 : List OP := [oi .idiv, oi (.istore_n 2), oi (.iinc 3 (-1)), (.goto (-61), 0, 0, 9, 0, 0)]
theorem oX12_wish_65 : okB mX12_wish 65 bX12_wish_65 = true := by decide +kernel
def bX12_wish_73 : List OP := [oi (.iconst 1), oi (.istore_n 3)]
theorem oX12_wish_73 : okB mX12_wish 73 bX12_wish_73 = true := by decide +kernel
def bX12_wish_75 : List OP := [oi (.iload_n 3), oi (.aload_n 0), (.getfield 92, 4, 12, 4, 0, 971)]
theorem oX12_wish_75 : okB mX12_wish 75 bX12_wish_75 = true := by decide +kernel
theorem eX12_wish_80 : decode mX12_wish.2.1 80 = .ok (.if_icmp .ge 41, 3) := by decide +kernel
def bX12_wish_83 : List OP := [oi (.aload_n 0), (.getfield 89, 36, 12, 36, 2, 1003), oi (.iload_n 3), oi (.aload_n 0), (.getfield 89, 36, 12, 36, 2, 1003), oi (.iload_n 3), oi .iaload]
theorem oX12_wish_83 : okB mX12_wish 83 bX12_wish_83 = true := by decide +kernel
theorem eX12_wish_94 : decode mX12_wish.2.1 94 = .ok (.ifCond .ge 14, 3) := by decide +kernel
def bX12_wish_97 : List OP := [oi (.aload_n 0), (.getfield 89, 36, 12, 36, 2, 1003), oi (.iload_n 3), oi (.iconst 1), oi .isub, oi .iaload, (.goto 9, 0, 0, 114, 0, 0)]
theorem oX12_wish_97 : okB mX12_wish 97 bX12_wish_97 = true := by decide +kernel
def bX12_wish_108 : List OP := [oi (.aload_n 0), (.getfield 89, 36, 12, 36, 2, 1003), oi (.iload_n 3), oi .iaload]
theorem oX12_wish_108 : okB mX12_wish 108 bX12_wish_108 = true := by decide +kernel
def bX12_wish_114 : List OP := [oi .iastore, oi (.iinc 3 1), (.goto (-43), 0, 0, 75, 0, 0)]
theorem oX12_wish_114 : okB mX12_wish 114 bX12_wish_114 = true := by decide +kernel
theorem eX12_wish_121 : decode mX12_wish.2.1 121 = .ok (.return_, 1) := by decide +kernel
def bX12_best_0 : List OP := [oi (.iload_n 1)]
theorem oX12_best_0 : okB mX12_best 0 bX12_best_0 = true := by decide +kernel
theorem eX12_best_1 : decode mX12_best.2.1 1 = .ok (.invokestatic 167, 3) := by decide +kernel
theorem lX12_best_1 : okL 1188 (.methodLink mX12_best.1.cls 167 mX12_isTold.1) = true := by decide +kernel
theorem eX12_best_4 : decode mX12_best.2.1 4 = .ok (.ifCond .ne 6, 3) := by decide +kernel
def bX12_best_7 : List OP := [oi (.bipush (-2))]
theorem oX12_best_7 : okB mX12_best 7 bX12_best_7 = true := by decide +kernel
theorem eX12_best_9 : decode mX12_best.2.1 9 = .ok (.ireturn, 1) := by decide +kernel
def bX12_best_10 : List OP := [oi (.iconst 1), oi (.istore_n 2), oi (.iconst 0), oi (.istore_n 3)]
theorem oX12_best_10 : okB mX12_best 10 bX12_best_10 = true := by decide +kernel
def bX12_best_14 : List OP := [oi (.iload_n 3), oi (.aload_n 0), (.getfield 92, 4, 12, 4, 0, 971)]
theorem oX12_best_14 : okB mX12_best 14 bX12_best_14 = true := by decide +kernel
theorem eX12_best_19 : decode mX12_best.2.1 19 = .ok (.if_icmp .ge 33, 3) := by decide +kernel
def bX12_best_22 : List OP := [oi (.iload_n 2), oi (.iload_n 3)]
theorem oX12_best_22 : okB mX12_best 22 bX12_best_22 = true := by decide +kernel
theorem eX12_best_24 : decode mX12_best.2.1 24 = .ok (.ifCond .eq 15, 3) := by decide +kernel
def bX12_best_27 : List OP := [oi (.aload_n 0), (.getfield 96, 6, 12, 6, 0, 973), oi (.iload_n 3), oi .ishr, oi (.iconst 1), oi .iand, oi (.iconst 1)]
theorem oX12_best_27 : okB mX12_best 27 bX12_best_27 = true := by decide +kernel
theorem eX12_best_36 : decode mX12_best.2.1 36 = .ok (.if_icmp .ne 7, 3) := by decide +kernel
def bX12_best_39 : List OP := [oi (.iconst 3), (.goto 4, 0, 0, 44, 0, 0)]
theorem oX12_best_39 : okB mX12_best 39 bX12_best_39 = true := by decide +kernel
def bX12_best_43 : List OP := [oi (.iconst 1)]
theorem oX12_best_43 : okB mX12_best 43 bX12_best_43 = true := by decide +kernel
def bX12_best_44 : List OP := [oi .imul, oi (.istore_n 2), oi (.iinc 3 1), (.goto (-35), 0, 0, 14, 0, 0)]
theorem oX12_best_44 : okB mX12_best 44 bX12_best_44 = true := by decide +kernel
def bX12_best_52 : List OP := [oi (.iconst (-1)), oi (.istore_n 3), oi (.iconst 0), oi (.istore 4), oi (.iconst 0), oi (.istore 5), oi (.iconst 0), oi (.istore 6), oi (.iconst 0), oi (.istore 7)]
theorem oX12_best_52 : okB mX12_best 52 bX12_best_52 = true := by decide +kernel
def bX12_best_66 : List OP := [oi (.iload 7), oi (.iload_n 2)]
theorem oX12_best_66 : okB mX12_best 66 bX12_best_66 = true := by decide +kernel
theorem eX12_best_69 : decode mX12_best.2.1 69 = .ok (.if_icmp .ge 102, 3) := by decide +kernel
def bX12_best_72 : List OP := [oi (.aload_n 0), oi (.iload 7)]
theorem oX12_best_72 : okB mX12_best 72 bX12_best_72 = true := by decide +kernel
theorem eX12_best_75 : decode mX12_best.2.1 75 = .ok (.invokevirtual 177, 3) := by decide +kernel
theorem lX12_best_75 : okL 1207 (.methodLink mX12_best.1.cls 177 mX12_wish.1) = true := by decide +kernel
def bX12_best_78 : List OP := [oi (.aload_n 0), oi (.iconst 0)]
theorem oX12_best_78 : okB mX12_best 78 bX12_best_78 = true := by decide +kernel
theorem eX12_best_80 : decode mX12_best.2.1 80 = .ok (.invokevirtual 170, 3) := by decide +kernel
theorem lX12_best_80 : okL 1191 (.methodLink mX12_best.1.cls 170 mX12_run.1) = true := by decide +kernel
def bX12_best_83 : List OP := [oi (.iload_n 3)]
theorem oX12_best_83 : okB mX12_best 83 bX12_best_83 = true := by decide +kernel
theorem eX12_best_84 : decode mX12_best.2.1 84 = .ok (.ifCond .lt 48, 3) := by decide +kernel
def bX12_best_87 : List OP := [oi (.aload_n 0), (.getfield 152, 31, 12, 31, 0, 998), oi (.iload 4)]
theorem oX12_best_87 : okB mX12_best 87 bX12_best_87 = true := by decide +kernel
theorem eX12_best_93 : decode mX12_best.2.1 93 = .ok (.if_icmp .gt 39, 3) := by decide +kernel
def bX12_best_96 : List OP := [oi (.aload_n 0), (.getfield 152, 31, 12, 31, 0, 998), oi (.iload 4)]
theorem oX12_best_96 : okB mX12_best 96 bX12_best_96 = true := by decide +kernel
theorem eX12_best_102 : decode mX12_best.2.1 102 = .ok (.if_icmp .ne 34, 3) := by decide +kernel
def bX12_best_105 : List OP := [oi (.aload_n 0), (.getfield 155, 32, 12, 32, 0, 999), oi (.iload 5)]
theorem oX12_best_105 : okB mX12_best 105 bX12_best_105 = true := by decide +kernel
theorem eX12_best_111 : decode mX12_best.2.1 111 = .ok (.if_icmp .lt 21, 3) := by decide +kernel
def bX12_best_114 : List OP := [oi (.aload_n 0), (.getfield 155, 32, 12, 32, 0, 999), oi (.iload 5)]
theorem oX12_best_114 : okB mX12_best 114 bX12_best_114 = true := by decide +kernel
theorem eX12_best_120 : decode mX12_best.2.1 120 = .ok (.if_icmp .ne 16, 3) := by decide +kernel
def bX12_best_123 : List OP := [oi (.aload_n 0), (.getfield 158, 33, 12, 33, 0, 1000), oi (.iload 6)]
theorem oX12_best_123 : okB mX12_best 123 bX12_best_123 = true := by decide +kernel
theorem eX12_best_129 : decode mX12_best.2.1 129 = .ok (.if_icmp .le 7, 3) := by decide +kernel
def bX12_best_132 : List OP := [oi (.iconst 1), (.goto 4, 0, 0, 137, 0, 0)]
theorem oX12_best_132 : okB mX12_best 132 bX12_best_132 = true := by decide +kernel
def bX12_best_136 : List OP := [oi (.iconst 0)]
theorem oX12_best_136 : okB mX12_best 136 bX12_best_136 = true := by decide +kernel
def bX12_best_137 : List OP := [oi (.istore 8), oi (.iload 8)]
theorem oX12_best_137 : okB mX12_best 137 bX12_best_137 = true := by decide +kernel
theorem eX12_best_141 : decode mX12_best.2.1 141 = .ok (.ifCond .eq 24, 3) := by decide +kernel
def bX12_best_144 : List OP := [oi (.iload 7), oi (.istore_n 3), oi (.aload_n 0), (.getfield 152, 31, 12, 31, 0, 998), oi (.istore 4), oi (.aload_n 0), (.getfield 155, 32, 12, 32, 0, 999), oi (.istore 5), oi (.aload_n 0), (.getfield 158, 33, 12, 33, 0, 1000), oi (.istore 6)]
theorem oX12_best_144 : okB mX12_best 144 bX12_best_144 = true := by decide +kernel
def bX12_best_165 : List OP := [oi (.iinc 7 1), (.goto (-102), 0, 0, 66, 0, 0)]
theorem oX12_best_165 : okB mX12_best 165 bX12_best_165 = true := by decide +kernel
def bX12_best_171 : List OP := [oi (.aload_n 0), oi (.iload_n 3)]
theorem oX12_best_171 : okB mX12_best 171 bX12_best_171 = true := by decide +kernel
theorem eX12_best_173 : decode mX12_best.2.1 173 = .ok (.invokevirtual 177, 3) := by decide +kernel
theorem lX12_best_173 : okL 1207 (.methodLink mX12_best.1.cls 177 mX12_wish.1) = true := by decide +kernel
def bX12_best_176 : List OP := [oi (.aload_n 0), oi (.iconst 0)]
theorem oX12_best_176 : okB mX12_best 176 bX12_best_176 = true := by decide +kernel
theorem eX12_best_178 : decode mX12_best.2.1 178 = .ok (.invokevirtual 170, 3) := by decide +kernel
theorem lX12_best_178 : okL 1191 (.methodLink mX12_best.1.cls 170 mX12_run.1) = true := by decide +kernel
def bX12_best_181 : List OP := [oi (.aload_n 0), oi (.iload_n 1)]
theorem oX12_best_181 : okB mX12_best 181 bX12_best_181 = true := by decide +kernel
theorem eX12_best_183 : decode mX12_best.2.1 183 = .ok (.invokevirtual 174, 3) := by decide +kernel
theorem lX12_best_183 : okL 1199 (.methodLink mX12_best.1.cls 174 mX12_tell.1) = true := by decide +kernel
theorem eX12_best_186 : decode mX12_best.2.1 186 = .ok (.ireturn, 1) := by decide +kernel
def bX12_isTown_0 : List OP := [oi (.iload_n 0), oi (.iconst 0), oi (.iconst 3)]
theorem oX12_isTown_0 : okB mX12_isTown 0 bX12_isTown_0 = true := by decide +kernel
theorem eX12_isTown_3 : decode mX12_isTown.2.1 3 = .ok (.invokestatic 102, 3) := by decide +kernel
theorem lX12_isTown_3 : okL 1091 (.methodLink mX12_isTown.1.cls 102 mX12_in.1) = true := by decide +kernel
theorem eX12_isTown_6 : decode mX12_isTown.2.1 6 = .ok (.ireturn, 1) := by decide +kernel
def bX12_isFilm_0 : List OP := [oi (.iload_n 0), oi (.iconst 0), oi (.iconst 5)]
theorem oX12_isFilm_0 : okB mX12_isFilm 0 bX12_isFilm_0 = true := by decide +kernel
theorem eX12_isFilm_3 : decode mX12_isFilm.2.1 3 = .ok (.invokestatic 102, 3) := by decide +kernel
theorem lX12_isFilm_3 : okL 1091 (.methodLink mX12_isFilm.1.cls 102 mX12_in.1) = true := by decide +kernel
theorem eX12_isFilm_6 : decode mX12_isFilm.2.1 6 = .ok (.ireturn, 1) := by decide +kernel
def bX12_isSeer_0 : List OP := [oi (.iload_n 0), oi (.iconst 0), oi (.bipush 7)]
theorem oX12_isSeer_0 : okB mX12_isSeer 0 bX12_isSeer_0 = true := by decide +kernel
theorem eX12_isSeer_4 : decode mX12_isSeer.2.1 4 = .ok (.invokestatic 102, 3) := by decide +kernel
theorem lX12_isSeer_4 : okL 1091 (.methodLink mX12_isSeer.1.cls 102 mX12_in.1) = true := by decide +kernel
theorem eX12_isSeer_7 : decode mX12_isSeer.2.1 7 = .ok (.ireturn, 1) := by decide +kernel
def bX12_town_0 : List OP := [oi (.iload_n 1)]
theorem oX12_town_0 : okB mX12_town 0 bX12_town_0 = true := by decide +kernel
theorem eX12_town_1 : decode mX12_town.2.1 1 = .ok (.invokestatic 180, 3) := by decide +kernel
theorem lX12_town_1 : okL 1215 (.methodLink mX12_town.1.cls 180 mX12_isTown.1) = true := by decide +kernel
theorem eX12_town_4 : decode mX12_town.2.1 4 = .ok (.ifCond .ne 5, 3) := by decide +kernel
def bX12_town_7 : List OP := [oi (.iconst (-1))]
theorem oX12_town_7 : okB mX12_town 7 bX12_town_7 = true := by decide +kernel
theorem eX12_town_8 : decode mX12_town.2.1 8 = .ok (.ireturn, 1) := by decide +kernel
def bX12_town_9 : List OP := [oi (.iload_n 2), oi (.iconst 0), oi (.iconst 1)]
theorem oX12_town_9 : okB mX12_town 9 bX12_town_9 = true := by decide +kernel
theorem eX12_town_12 : decode mX12_town.2.1 12 = .ok (.invokestatic 102, 3) := by decide +kernel
theorem lX12_town_12 : okL 1091 (.methodLink mX12_town.1.cls 102 mX12_in.1) = true := by decide +kernel
theorem eX12_town_15 : decode mX12_town.2.1 15 = .ok (.ifCond .eq 13, 3) := by decide +kernel
def bX12_town_18 : List OP := [oi (.iload_n 3), oi (.iconst 0), oi (.bipush 100)]
theorem oX12_town_18 : okB mX12_town 18 bX12_town_18 = true := by decide +kernel
theorem eX12_town_22 : decode mX12_town.2.1 22 = .ok (.invokestatic 102, 3) := by decide +kernel
theorem lX12_town_22 : okL 1091 (.methodLink mX12_town.1.cls 102 mX12_in.1) = true := by decide +kernel
theorem eX12_town_25 : decode mX12_town.2.1 25 = .ok (.ifCond .ne 6, 3) := by decide +kernel
def bX12_town_28 : List OP := [oi (.bipush (-2))]
theorem oX12_town_28 : okB mX12_town 28 bX12_town_28 = true := by decide +kernel
theorem eX12_town_30 : decode mX12_town.2.1 30 = .ok (.ireturn, 1) := by decide +kernel
def bX12_town_31 : List OP := [oi (.iload_n 2)]
theorem oX12_town_31 : okB mX12_town 31 bX12_town_31 = true := by decide +kernel
theorem eX12_town_32 : decode mX12_town.2.1 32 = .ok (.ifCond .ne 12, 3) := by decide +kernel
def bX12_town_35 : List OP := [oi (.aload_n 0), (.getfield 32, 12, 12, 12, 2, 979), oi (.iload_n 1), oi .iaload, (.goto 9, 0, 0, 50, 0, 0)]
theorem oX12_town_35 : okB mX12_town 35 bX12_town_35 = true := by decide +kernel
def bX12_town_44 : List OP := [oi (.aload_n 0), (.getfield 35, 13, 12, 13, 2, 980), oi (.iload_n 1), oi .iaload]
theorem oX12_town_44 : okB mX12_town 44 bX12_town_44 = true := by decide +kernel
def bX12_town_50 : List OP := [oi (.istore 4), oi (.iload_n 2)]
theorem oX12_town_50 : okB mX12_town 50 bX12_town_50 = true := by decide +kernel
theorem eX12_town_53 : decode mX12_town.2.1 53 = .ok (.ifCond .ne 13, 3) := by decide +kernel
def bX12_town_56 : List OP := [oi (.aload_n 0), (.getfield 32, 12, 12, 12, 2, 979), oi (.iload_n 1), oi (.iload_n 3), oi .iastore, (.goto 10, 0, 0, 73, 0, 0)]
theorem oX12_town_56 : okB mX12_town 56 bX12_town_56 = true := by decide +kernel
def bX12_town_66 : List OP := [oi (.aload_n 0), (.getfield 35, 13, 12, 13, 2, 980), oi (.iload_n 1), oi (.iload_n 3), oi .iastore]
theorem oX12_town_66 : okB mX12_town 66 bX12_town_66 = true := by decide +kernel
def bX12_town_73 : List OP := [oi (.iload 4)]
theorem oX12_town_73 : okB mX12_town 73 bX12_town_73 = true := by decide +kernel
theorem eX12_town_75 : decode mX12_town.2.1 75 = .ok (.ireturn, 1) := by decide +kernel
def bX12_weight_0 : List OP := [oi (.iload_n 1)]
theorem oX12_weight_0 : okB mX12_weight 0 bX12_weight_0 = true := by decide +kernel
theorem eX12_weight_1 : decode mX12_weight.2.1 1 = .ok (.invokestatic 183, 3) := by decide +kernel
theorem lX12_weight_1 : okL 1222 (.methodLink mX12_weight.1.cls 183 mX12_isFilm.1) = true := by decide +kernel
theorem eX12_weight_4 : decode mX12_weight.2.1 4 = .ok (.ifCond .ne 5, 3) := by decide +kernel
def bX12_weight_7 : List OP := [oi (.iconst (-1))]
theorem oX12_weight_7 : okB mX12_weight 7 bX12_weight_7 = true := by decide +kernel
theorem eX12_weight_8 : decode mX12_weight.2.1 8 = .ok (.ireturn, 1) := by decide +kernel
def bX12_weight_9 : List OP := [oi (.iload_n 2), oi (.iconst 1), oi (.bipush 50)]
theorem oX12_weight_9 : okB mX12_weight 9 bX12_weight_9 = true := by decide +kernel
theorem eX12_weight_13 : decode mX12_weight.2.1 13 = .ok (.invokestatic 102, 3) := by decide +kernel
theorem lX12_weight_13 : okL 1091 (.methodLink mX12_weight.1.cls 102 mX12_in.1) = true := by decide +kernel
theorem eX12_weight_16 : decode mX12_weight.2.1 16 = .ok (.ifCond .ne 6, 3) := by decide +kernel
def bX12_weight_19 : List OP := [oi (.bipush (-2))]
theorem oX12_weight_19 : okB mX12_weight 19 bX12_weight_19 = true := by decide +kernel
theorem eX12_weight_21 : decode mX12_weight.2.1 21 = .ok (.ireturn, 1) := by decide +kernel
def bX12_weight_22 : List OP := [oi (.aload_n 0), (.getfield 38, 14, 12, 14, 2, 981), oi (.iload_n 1), oi .iaload, oi (.istore_n 3), oi (.aload_n 0), (.getfield 38, 14, 12, 14, 2, 981), oi (.iload_n 1), oi (.iload_n 2), oi .iastore, oi (.iload_n 3)]
theorem oX12_weight_22 : okB mX12_weight 22 bX12_weight_22 = true := by decide +kernel
theorem eX12_weight_37 : decode mX12_weight.2.1 37 = .ok (.ireturn, 1) := by decide +kernel
def bX12_ask_0 : List OP := [oi (.iload_n 1)]
theorem oX12_ask_0 : okB mX12_ask 0 bX12_ask_0 = true := by decide +kernel
theorem eX12_ask_1 : decode mX12_ask.2.1 1 = .ok (.invokestatic 180, 3) := by decide +kernel
theorem lX12_ask_1 : okL 1215 (.methodLink mX12_ask.1.cls 180 mX12_isTown.1) = true := by decide +kernel
theorem eX12_ask_4 : decode mX12_ask.2.1 4 = .ok (.ifCond .eq 10, 3) := by decide +kernel
def bX12_ask_7 : List OP := [oi (.iload_n 2)]
theorem oX12_ask_7 : okB mX12_ask 7 bX12_ask_7 = true := by decide +kernel
theorem eX12_ask_8 : decode mX12_ask.2.1 8 = .ok (.invokestatic 183, 3) := by decide +kernel
theorem lX12_ask_8 : okL 1222 (.methodLink mX12_ask.1.cls 183 mX12_isFilm.1) = true := by decide +kernel
theorem eX12_ask_11 : decode mX12_ask.2.1 11 = .ok (.ifCond .ne 5, 3) := by decide +kernel
def bX12_ask_14 : List OP := [oi (.iconst (-1))]
theorem oX12_ask_14 : okB mX12_ask 14 bX12_ask_14 = true := by decide +kernel
theorem eX12_ask_15 : decode mX12_ask.2.1 15 = .ok (.ireturn, 1) := by decide +kernel
def bX12_ask_16 : List OP := [oi (.iload_n 3), oi (.iconst 0), oi (.sipush 1000)]
theorem oX12_ask_16 : okB mX12_ask 16 bX12_ask_16 = true := by decide +kernel
theorem eX12_ask_21 : decode mX12_ask.2.1 21 = .ok (.invokestatic 102, 3) := by decide +kernel
theorem lX12_ask_21 : okL 1091 (.methodLink mX12_ask.1.cls 102 mX12_in.1) = true := by decide +kernel
theorem eX12_ask_24 : decode mX12_ask.2.1 24 = .ok (.ifCond .ne 6, 3) := by decide +kernel
def bX12_ask_27 : List OP := [oi (.bipush (-2))]
theorem oX12_ask_27 : okB mX12_ask 27 bX12_ask_27 = true := by decide +kernel
theorem eX12_ask_29 : decode mX12_ask.2.1 29 = .ok (.ireturn, 1) := by decide +kernel
def bX12_ask_30 : List OP := [oi (.aload_n 0), (.getfield 41, 15, 12, 15, 2, 982), oi (.bipush 6), oi (.iload_n 1), oi .imul, oi (.iload_n 2), oi .iadd, oi .iaload, oi (.istore 4), oi (.aload_n 0), (.getfield 41, 15, 12, 15, 2, 982), oi (.bipush 6), oi (.iload_n 1), oi .imul, oi (.iload_n 2), oi .iadd, oi (.iload_n 3), oi .iastore, oi (.iload 4)]
theorem oX12_ask_30 : okB mX12_ask 30 bX12_ask_30 = true := by decide +kernel
theorem eX12_ask_57 : decode mX12_ask.2.1 57 = .ok (.ireturn, 1) := by decide +kernel
def bX12_kept_0 : List OP := [oi (.iload_n 1)]
theorem oX12_kept_0 : okB mX12_kept 0 bX12_kept_0 = true := by decide +kernel
theorem eX12_kept_1 : decode mX12_kept.2.1 1 = .ok (.invokestatic 180, 3) := by decide +kernel
theorem lX12_kept_1 : okL 1215 (.methodLink mX12_kept.1.cls 180 mX12_isTown.1) = true := by decide +kernel
theorem eX12_kept_4 : decode mX12_kept.2.1 4 = .ok (.ifCond .ne 5, 3) := by decide +kernel
def bX12_kept_7 : List OP := [oi (.iconst (-1))]
theorem oX12_kept_7 : okB mX12_kept 7 bX12_kept_7 = true := by decide +kernel
theorem eX12_kept_8 : decode mX12_kept.2.1 8 = .ok (.ireturn, 1) := by decide +kernel
def bX12_kept_9 : List OP := [oi (.iload_n 2), oi (.iconst 0), oi (.iconst 1)]
theorem oX12_kept_9 : okB mX12_kept 9 bX12_kept_9 = true := by decide +kernel
theorem eX12_kept_12 : decode mX12_kept.2.1 12 = .ok (.invokestatic 102, 3) := by decide +kernel
theorem lX12_kept_12 : okL 1091 (.methodLink mX12_kept.1.cls 102 mX12_in.1) = true := by decide +kernel
theorem eX12_kept_15 : decode mX12_kept.2.1 15 = .ok (.ifCond .ne 6, 3) := by decide +kernel
def bX12_kept_18 : List OP := [oi (.bipush (-2))]
theorem oX12_kept_18 : okB mX12_kept 18 bX12_kept_18 = true := by decide +kernel
theorem eX12_kept_20 : decode mX12_kept.2.1 20 = .ok (.ireturn, 1) := by decide +kernel
def bX12_kept_21 : List OP := [oi (.bipush (-6)), oi (.istore_n 3), oi (.iconst 0), oi (.istore 4), oi (.iconst 0), oi (.istore 5), oi (.iconst 0), oi (.istore 6)]
theorem oX12_kept_21 : okB mX12_kept 21 bX12_kept_21 = true := by decide +kernel
def bX12_kept_33 : List OP := [oi (.iload 6), oi (.bipush 64)]
theorem oX12_kept_33 : okB mX12_kept 33 bX12_kept_33 = true := by decide +kernel
theorem eX12_kept_37 : decode mX12_kept.2.1 37 = .ok (.if_icmp .ge 132, 3) := by decide +kernel
def bX12_kept_40 : List OP := [oi (.iconst 0), oi (.istore 7), oi (.iconst 0), oi (.istore 8), oi (.iconst 0), oi (.istore 9)]
theorem oX12_kept_40 : okB mX12_kept 40 bX12_kept_40 = true := by decide +kernel
def bX12_kept_49 : List OP := [oi (.iload 9), oi (.bipush 6)]
theorem oX12_kept_49 : okB mX12_kept 49 bX12_kept_49 = true := by decide +kernel
theorem eX12_kept_53 : decode mX12_kept.2.1 53 = .ok (.if_icmp .ge 63, 3) := by decide +kernel
def bX12_kept_56 : List OP := [oi (.iload 7), oi (.iload 6), oi (.iload 9), oi .ishr, oi (.iconst 1), oi .iand, oi (.aload_n 0), (.getfield 38, 14, 12, 14, 2, 981), oi (.iload 9), oi .iaload, oi .imul, oi .iadd, oi (.istore 7), oi (.iload 8), oi (.iconst 1), oi (.iload 6), oi (.iload 9), oi .ishr, oi (.iconst 1), oi .iand, oi .isub, oi (.aload_n 0), (.getfield 41, 15, 12, 15, 2, 982), oi (.bipush 6), oi (.iload_n 1), oi .imul, oi (.iload 9), oi .iadd, oi .iaload, oi .imul, oi (.aload_n 0), (.getfield 35, 13, 12, 13, 2, 980), oi (.iload_n 1), oi .iaload, oi .imul, oi .iadd, oi (.istore 8), oi (.iinc 9 1), (.goto (-64), 0, 0, 49, 0, 0)]
theorem oX12_kept_56 : okB mX12_kept 56 bX12_kept_56 = true := by decide +kernel
def bX12_kept_116 : List OP := [oi (.iload 7), oi (.aload_n 0), (.getfield 32, 12, 12, 12, 2, 979), oi (.iload_n 1), oi .iaload]
theorem oX12_kept_116 : okB mX12_kept 116 bX12_kept_116 = true := by decide +kernel
theorem eX12_kept_124 : decode mX12_kept.2.1 124 = .ok (.if_icmp .gt 39, 3) := by decide +kernel
def bX12_kept_127 : List OP := [oi (.iload_n 3)]
theorem oX12_kept_127 : okB mX12_kept 127 bX12_kept_127 = true := by decide +kernel
theorem eX12_kept_128 : decode mX12_kept.2.1 128 = .ok (.ifCond .lt 24, 3) := by decide +kernel
def bX12_kept_131 : List OP := [oi (.iload 8), oi (.iload 4)]
theorem oX12_kept_131 : okB mX12_kept 131 bX12_kept_131 = true := by decide +kernel
theorem eX12_kept_135 : decode mX12_kept.2.1 135 = .ok (.if_icmp .lt 17, 3) := by decide +kernel
def bX12_kept_138 : List OP := [oi (.iload 8), oi (.iload 4)]
theorem oX12_kept_138 : okB mX12_kept 138 bX12_kept_138 = true := by decide +kernel
theorem eX12_kept_142 : decode mX12_kept.2.1 142 = .ok (.if_icmp .ne 21, 3) := by decide +kernel
def bX12_kept_145 : List OP := [oi (.iload 7), oi (.iload 5)]
theorem oX12_kept_145 : okB mX12_kept 145 bX12_kept_145 = true := by decide +kernel
theorem eX12_kept_149 : decode mX12_kept.2.1 149 = .ok (.if_icmp .ge 14, 3) := by decide +kernel
def bX12_kept_152 : List OP := [oi (.iload 6), oi (.istore_n 3), oi (.iload 8), oi (.istore 4), oi (.iload 7), oi (.istore 5)]
theorem oX12_kept_152 : okB mX12_kept 152 bX12_kept_152 = true := by decide +kernel
def bX12_kept_163 : List OP := [oi (.iinc 6 1), (.goto (-133), 0, 0, 33, 0, 0)]
theorem oX12_kept_163 : okB mX12_kept 163 bX12_kept_163 = true := by decide +kernel
def bX12_kept_169 : List OP := [oi (.iload_n 2)]
theorem oX12_kept_169 : okB mX12_kept 169 bX12_kept_169 = true := by decide +kernel
theorem eX12_kept_170 : decode mX12_kept.2.1 170 = .ok (.ifCond .ne 7, 3) := by decide +kernel
def bX12_kept_173 : List OP := [oi (.iload_n 3), (.goto 5, 0, 0, 179, 0, 0)]
theorem oX12_kept_173 : okB mX12_kept 173 bX12_kept_173 = true := by decide +kernel
def bX12_kept_177 : List OP := [oi (.iload 4)]
theorem oX12_kept_177 : okB mX12_kept 177 bX12_kept_177 = true := by decide +kernel
theorem eX12_kept_179 : decode mX12_kept.2.1 179 = .ok (.ireturn, 1) := by decide +kernel
def bX12_right_0 : List OP := [oi (.iload_n 1)]
theorem oX12_right_0 : okB mX12_right 0 bX12_right_0 = true := by decide +kernel
theorem eX12_right_1 : decode mX12_right.2.1 1 = .ok (.invokestatic 183, 3) := by decide +kernel
theorem lX12_right_1 : okL 1222 (.methodLink mX12_right.1.cls 183 mX12_isFilm.1) = true := by decide +kernel
theorem eX12_right_4 : decode mX12_right.2.1 4 = .ok (.ifCond .eq 12, 3) := by decide +kernel
def bX12_right_7 : List OP := [oi (.iload_n 2), oi (.iconst 0), oi (.iconst 3)]
theorem oX12_right_7 : okB mX12_right 7 bX12_right_7 = true := by decide +kernel
theorem eX12_right_10 : decode mX12_right.2.1 10 = .ok (.invokestatic 102, 3) := by decide +kernel
theorem lX12_right_10 : okL 1091 (.methodLink mX12_right.1.cls 102 mX12_in.1) = true := by decide +kernel
theorem eX12_right_13 : decode mX12_right.2.1 13 = .ok (.ifCond .ne 5, 3) := by decide +kernel
def bX12_right_16 : List OP := [oi (.iconst (-1))]
theorem oX12_right_16 : okB mX12_right 16 bX12_right_16 = true := by decide +kernel
theorem eX12_right_17 : decode mX12_right.2.1 17 = .ok (.ireturn, 1) := by decide +kernel
def bX12_right_18 : List OP := [oi (.iload_n 3), oi (.iconst 0), oi (.sipush 999)]
theorem oX12_right_18 : okB mX12_right 18 bX12_right_18 = true := by decide +kernel
theorem eX12_right_23 : decode mX12_right.2.1 23 = .ok (.invokestatic 102, 3) := by decide +kernel
theorem lX12_right_23 : okL 1091 (.methodLink mX12_right.1.cls 102 mX12_in.1) = true := by decide +kernel
theorem eX12_right_26 : decode mX12_right.2.1 26 = .ok (.ifCond .eq 32, 3) := by decide +kernel
def bX12_right_29 : List OP := [oi (.iload 4), oi (.iconst 0), oi (.sipush 999)]
theorem oX12_right_29 : okB mX12_right 29 bX12_right_29 = true := by decide +kernel
theorem eX12_right_35 : decode mX12_right.2.1 35 = .ok (.invokestatic 102, 3) := by decide +kernel
theorem lX12_right_35 : okL 1091 (.methodLink mX12_right.1.cls 102 mX12_in.1) = true := by decide +kernel
theorem eX12_right_38 : decode mX12_right.2.1 38 = .ok (.ifCond .eq 20, 3) := by decide +kernel
def bX12_right_41 : List OP := [oi (.iload_n 3), oi (.iload 4)]
theorem oX12_right_41 : okB mX12_right 41 bX12_right_41 = true := by decide +kernel
theorem eX12_right_44 : decode mX12_right.2.1 44 = .ok (.if_icmp .gt 14, 3) := by decide +kernel
def bX12_right_47 : List OP := [oi (.iload 5), oi (.iconst 1), oi (.bipush 20)]
theorem oX12_right_47 : okB mX12_right 47 bX12_right_47 = true := by decide +kernel
theorem eX12_right_52 : decode mX12_right.2.1 52 = .ok (.invokestatic 102, 3) := by decide +kernel
theorem lX12_right_52 : okL 1091 (.methodLink mX12_right.1.cls 102 mX12_in.1) = true := by decide +kernel
theorem eX12_right_55 : decode mX12_right.2.1 55 = .ok (.ifCond .ne 6, 3) := by decide +kernel
def bX12_right_58 : List OP := [oi (.bipush (-2))]
theorem oX12_right_58 : okB mX12_right 58 bX12_right_58 = true := by decide +kernel
theorem eX12_right_60 : decode mX12_right.2.1 60 = .ok (.ireturn, 1) := by decide +kernel
def bX12_right_61 : List OP := [oi (.aload_n 0), (.getfield 186, 16, 12, 16, 0, 983), oi (.bipush 12)]
theorem oX12_right_61 : okB mX12_right 61 bX12_right_61 = true := by decide +kernel
theorem eX12_right_67 : decode mX12_right.2.1 67 = .ok (.if_icmp .ne 6, 3) := by decide +kernel
def bX12_right_70 : List OP := [oi (.bipush (-4))]
theorem oX12_right_70 : okB mX12_right 70 bX12_right_70 = true := by decide +kernel
theorem eX12_right_72 : decode mX12_right.2.1 72 = .ok (.ireturn, 1) := by decide +kernel
def bX12_right_73 : List OP := [oi (.aload_n 0), (.getfield 44, 17, 12, 17, 2, 984), oi (.iconst 5), oi (.aload_n 0), (.getfield 186, 16, 12, 16, 0, 983), oi .imul, oi (.iload_n 1), oi .iastore, oi (.aload_n 0), (.getfield 44, 17, 12, 17, 2, 984), oi (.iconst 5), oi (.aload_n 0), (.getfield 186, 16, 12, 16, 0, 983), oi .imul, oi (.iconst 1), oi .iadd, oi (.iload_n 2), oi .iastore, oi (.aload_n 0), (.getfield 44, 17, 12, 17, 2, 984), oi (.iconst 5), oi (.aload_n 0), (.getfield 186, 16, 12, 16, 0, 983), oi .imul, oi (.iconst 2), oi .iadd, oi (.iload_n 3), oi .iastore, oi (.aload_n 0), (.getfield 44, 17, 12, 17, 2, 984), oi (.iconst 5), oi (.aload_n 0), (.getfield 186, 16, 12, 16, 0, 983), oi .imul, oi (.iconst 3), oi .iadd, oi (.iload 4), oi .iastore, oi (.aload_n 0), (.getfield 44, 17, 12, 17, 2, 984), oi (.iconst 5), oi (.aload_n 0), (.getfield 186, 16, 12, 16, 0, 983), oi .imul, oi (.iconst 4), oi .iadd, oi (.iload 5), oi .iastore, oi (.aload_n 0), oi .dup, (.getfield 186, 16, 12, 16, 0, 983), oi (.iconst 1), oi .iadd, (.putfield 186, 16, 12, 16, 0, 983), oi (.aload_n 0), (.getfield 186, 16, 12, 16, 0, 983), oi (.iconst 1), oi .isub]
theorem oX12_right_73 : okB mX12_right 73 bX12_right_73 = true := by decide +kernel
theorem eX12_right_159 : decode mX12_right.2.1 159 = .ok (.ireturn, 1) := by decide +kernel
def bX12_land_0 : List OP := [oi (.iload_n 1)]
theorem oX12_land_0 : okB mX12_land 0 bX12_land_0 = true := by decide +kernel
theorem eX12_land_1 : decode mX12_land.2.1 1 = .ok (.invokestatic 189, 3) := by decide +kernel
theorem lX12_land_1 : okL 1241 (.methodLink mX12_land.1.cls 189 mX12_isSeer.1) = true := by decide +kernel
theorem eX12_land_4 : decode mX12_land.2.1 4 = .ok (.ifCond .eq 12, 3) := by decide +kernel
def bX12_land_7 : List OP := [oi (.iload_n 2), oi (.iconst 0), oi (.iconst 3)]
theorem oX12_land_7 : okB mX12_land 7 bX12_land_7 = true := by decide +kernel
theorem eX12_land_10 : decode mX12_land.2.1 10 = .ok (.invokestatic 102, 3) := by decide +kernel
theorem lX12_land_10 : okL 1091 (.methodLink mX12_land.1.cls 102 mX12_in.1) = true := by decide +kernel
theorem eX12_land_13 : decode mX12_land.2.1 13 = .ok (.ifCond .ne 5, 3) := by decide +kernel
def bX12_land_16 : List OP := [oi (.iconst (-1))]
theorem oX12_land_16 : okB mX12_land 16 bX12_land_16 = true := by decide +kernel
theorem eX12_land_17 : decode mX12_land.2.1 17 = .ok (.ireturn, 1) := by decide +kernel
def bX12_land_18 : List OP := [oi (.aload_n 0), (.getfield 47, 18, 12, 18, 2, 985), oi (.iload_n 1), oi .iaload, oi (.istore_n 3), oi (.aload_n 0), (.getfield 47, 18, 12, 18, 2, 985), oi (.iload_n 1), oi (.iload_n 2), oi .iastore, oi (.iload_n 3)]
theorem oX12_land_18 : okB mX12_land 18 bX12_land_18 = true := by decide +kernel
theorem eX12_land_33 : decode mX12_land.2.1 33 = .ok (.ireturn, 1) := by decide +kernel
def bX12_mayIt_0 : List OP := [oi (.iconst 0), oi (.istore 4), oi (.iconst 0), oi (.istore 5)]
theorem oX12_mayIt_0 : okB mX12_mayIt 0 bX12_mayIt_0 = true := by decide +kernel
def bX12_mayIt_6 : List OP := [oi (.iload 5), oi (.aload_n 0), (.getfield 186, 16, 12, 16, 0, 983)]
theorem oX12_mayIt_6 : okB mX12_mayIt 6 bX12_mayIt_6 = true := by decide +kernel
theorem eX12_mayIt_12 : decode mX12_mayIt.2.1 12 = .ok (.if_icmp .ge 116, 3) := by decide +kernel
def bX12_mayIt_15 : List OP := [oi (.iconst 5), oi (.iload 5), oi .imul, oi (.istore 6), oi (.aload_n 0), (.getfield 44, 17, 12, 17, 2, 984), oi (.iload 6), oi .iaload, oi (.iload_n 2)]
theorem oX12_mayIt_15 : okB mX12_mayIt 15 bX12_mayIt_15 = true := by decide +kernel
theorem eX12_mayIt_29 : decode mX12_mayIt.2.1 29 = .ok (.if_icmp .ne 50, 3) := by decide +kernel
def bX12_mayIt_32 : List OP := [oi (.aload_n 0), (.getfield 44, 17, 12, 17, 2, 984), oi (.iload 6), oi (.iconst 1), oi .iadd, oi .iaload, oi (.aload_n 0), (.getfield 47, 18, 12, 18, 2, 985), oi (.iload_n 1), oi .iaload]
theorem oX12_mayIt_32 : okB mX12_mayIt 32 bX12_mayIt_32 = true := by decide +kernel
theorem eX12_mayIt_47 : decode mX12_mayIt.2.1 47 = .ok (.if_icmp .ne 32, 3) := by decide +kernel
def bX12_mayIt_50 : List OP := [oi (.iload_n 3), oi (.aload_n 0), (.getfield 44, 17, 12, 17, 2, 984), oi (.iload 6), oi (.iconst 2), oi .iadd, oi .iaload, oi (.aload_n 0), (.getfield 44, 17, 12, 17, 2, 984), oi (.iload 6), oi (.iconst 3), oi .iadd, oi .iaload]
theorem oX12_mayIt_50 : okB mX12_mayIt 50 bX12_mayIt_50 = true := by decide +kernel
theorem eX12_mayIt_69 : decode mX12_mayIt.2.1 69 = .ok (.invokestatic 102, 3) := by decide +kernel
theorem lX12_mayIt_69 : okL 1091 (.methodLink mX12_mayIt.1.cls 102 mX12_in.1) = true := by decide +kernel
theorem eX12_mayIt_72 : decode mX12_mayIt.2.1 72 = .ok (.ifCond .eq 7, 3) := by decide +kernel
def bX12_mayIt_75 : List OP := [oi (.iconst 1), (.goto 4, 0, 0, 80, 0, 0)]
theorem oX12_mayIt_75 : okB mX12_mayIt 75 bX12_mayIt_75 = true := by decide +kernel
def bX12_mayIt_79 : List OP := [oi (.iconst 0)]
theorem oX12_mayIt_79 : okB mX12_mayIt 79 bX12_mayIt_79 = true := by decide +kernel
def bX12_mayIt_80 : List OP := [oi (.istore 7), oi (.iload 4)]
theorem oX12_mayIt_80 : okB mX12_mayIt 80 bX12_mayIt_80 = true := by decide +kernel
theorem eX12_mayIt_84 : decode mX12_mayIt.2.1 84 = .ok (.ifCond .ne 31, 3) := by decide +kernel
def bX12_mayIt_87 : List OP := [oi (.iload 7)]
theorem oX12_mayIt_87 : okB mX12_mayIt 87 bX12_mayIt_87 = true := by decide +kernel
theorem eX12_mayIt_89 : decode mX12_mayIt.2.1 89 = .ok (.ifCond .eq 30, 3) := by decide +kernel
def bX12_mayIt_92 : List OP := [oi (.aload_n 0), (.getfield 53, 20, 12, 20, 2, 987), oi (.bipush 6), oi (.iload_n 1), oi .imul, oi (.iload_n 2), oi .iadd, oi .iaload, oi (.aload_n 0), (.getfield 44, 17, 12, 17, 2, 984), oi (.iload 6), oi (.iconst 4), oi .iadd, oi .iaload]
theorem oX12_mayIt_92 : okB mX12_mayIt 92 bX12_mayIt_92 = true := by decide +kernel
theorem eX12_mayIt_112 : decode mX12_mayIt.2.1 112 = .ok (.if_icmp .ge 7, 3) := by decide +kernel
def bX12_mayIt_115 : List OP := [oi (.iconst 1), (.goto 4, 0, 0, 120, 0, 0)]
theorem oX12_mayIt_115 : okB mX12_mayIt 115 bX12_mayIt_115 = true := by decide +kernel
def bX12_mayIt_119 : List OP := [oi (.iconst 0)]
theorem oX12_mayIt_119 : okB mX12_mayIt 119 bX12_mayIt_119 = true := by decide +kernel
def bX12_mayIt_120 : List OP := [oi (.istore 4), oi (.iinc 5 1), (.goto (-119), 0, 0, 6, 0, 0)]
theorem oX12_mayIt_120 : okB mX12_mayIt 120 bX12_mayIt_120 = true := by decide +kernel
def bX12_mayIt_128 : List OP := [oi (.iload 4)]
theorem oX12_mayIt_128 : okB mX12_mayIt 128 bX12_mayIt_128 = true := by decide +kernel
theorem eX12_mayIt_130 : decode mX12_mayIt.2.1 130 = .ok (.ireturn, 1) := by decide +kernel
def bX12_may_0 : List OP := [oi (.iload_n 1)]
theorem oX12_may_0 : okB mX12_may 0 bX12_may_0 = true := by decide +kernel
theorem eX12_may_1 : decode mX12_may.2.1 1 = .ok (.invokestatic 189, 3) := by decide +kernel
theorem lX12_may_1 : okL 1241 (.methodLink mX12_may.1.cls 189 mX12_isSeer.1) = true := by decide +kernel
theorem eX12_may_4 : decode mX12_may.2.1 4 = .ok (.ifCond .eq 10, 3) := by decide +kernel
def bX12_may_7 : List OP := [oi (.iload_n 2)]
theorem oX12_may_7 : okB mX12_may 7 bX12_may_7 = true := by decide +kernel
theorem eX12_may_8 : decode mX12_may.2.1 8 = .ok (.invokestatic 183, 3) := by decide +kernel
theorem lX12_may_8 : okL 1222 (.methodLink mX12_may.1.cls 183 mX12_isFilm.1) = true := by decide +kernel
theorem eX12_may_11 : decode mX12_may.2.1 11 = .ok (.ifCond .ne 5, 3) := by decide +kernel
def bX12_may_14 : List OP := [oi (.iconst (-1))]
theorem oX12_may_14 : okB mX12_may 14 bX12_may_14 = true := by decide +kernel
theorem eX12_may_15 : decode mX12_may.2.1 15 = .ok (.ireturn, 1) := by decide +kernel
def bX12_may_16 : List OP := [oi (.iload_n 3), oi (.iconst 0), oi (.sipush 999)]
theorem oX12_may_16 : okB mX12_may 16 bX12_may_16 = true := by decide +kernel
theorem eX12_may_21 : decode mX12_may.2.1 21 = .ok (.invokestatic 102, 3) := by decide +kernel
theorem lX12_may_21 : okL 1091 (.methodLink mX12_may.1.cls 102 mX12_in.1) = true := by decide +kernel
theorem eX12_may_24 : decode mX12_may.2.1 24 = .ok (.ifCond .ne 8, 3) := by decide +kernel
def bX12_may_27 : List OP := [oi (.bipush (-2)), (.goto 18, 0, 0, 47, 0, 0)]
theorem oX12_may_27 : okB mX12_may 27 bX12_may_27 = true := by decide +kernel
def bX12_may_32 : List OP := [oi (.aload_n 0), oi (.iload_n 1), oi (.iload_n 2), oi (.iload_n 3)]
theorem oX12_may_32 : okB mX12_may 32 bX12_may_32 = true := by decide +kernel
theorem eX12_may_36 : decode mX12_may.2.1 36 = .ok (.invokevirtual 192, 3) := by decide +kernel
theorem lX12_may_36 : okL 1248 (.methodLink mX12_may.1.cls 192 mX12_mayIt.1) = true := by decide +kernel
theorem eX12_may_39 : decode mX12_may.2.1 39 = .ok (.ifCond .eq 7, 3) := by decide +kernel
def bX12_may_42 : List OP := [oi (.iconst 1), (.goto 4, 0, 0, 47, 0, 0)]
theorem oX12_may_42 : okB mX12_may 42 bX12_may_42 = true := by decide +kernel
def bX12_may_46 : List OP := [oi (.iconst 0)]
theorem oX12_may_46 : okB mX12_may 46 bX12_may_46 = true := by decide +kernel
theorem eX12_may_47 : decode mX12_may.2.1 47 = .ok (.ireturn, 1) := by decide +kernel
def bX12_see_0 : List OP := [oi (.iload_n 1)]
theorem oX12_see_0 : okB mX12_see 0 bX12_see_0 = true := by decide +kernel
theorem eX12_see_1 : decode mX12_see.2.1 1 = .ok (.invokestatic 189, 3) := by decide +kernel
theorem lX12_see_1 : okL 1241 (.methodLink mX12_see.1.cls 189 mX12_isSeer.1) = true := by decide +kernel
theorem eX12_see_4 : decode mX12_see.2.1 4 = .ok (.ifCond .eq 10, 3) := by decide +kernel
def bX12_see_7 : List OP := [oi (.iload_n 2)]
theorem oX12_see_7 : okB mX12_see 7 bX12_see_7 = true := by decide +kernel
theorem eX12_see_8 : decode mX12_see.2.1 8 = .ok (.invokestatic 183, 3) := by decide +kernel
theorem lX12_see_8 : okL 1222 (.methodLink mX12_see.1.cls 183 mX12_isFilm.1) = true := by decide +kernel
theorem eX12_see_11 : decode mX12_see.2.1 11 = .ok (.ifCond .ne 5, 3) := by decide +kernel
def bX12_see_14 : List OP := [oi (.iconst (-1))]
theorem oX12_see_14 : okB mX12_see 14 bX12_see_14 = true := by decide +kernel
theorem eX12_see_15 : decode mX12_see.2.1 15 = .ok (.ireturn, 1) := by decide +kernel
def bX12_see_16 : List OP := [oi (.iload_n 3), oi (.iconst 0), oi (.sipush 999)]
theorem oX12_see_16 : okB mX12_see 16 bX12_see_16 = true := by decide +kernel
theorem eX12_see_21 : decode mX12_see.2.1 21 = .ok (.invokestatic 102, 3) := by decide +kernel
theorem lX12_see_21 : okL 1091 (.methodLink mX12_see.1.cls 102 mX12_in.1) = true := by decide +kernel
theorem eX12_see_24 : decode mX12_see.2.1 24 = .ok (.ifCond .eq 32, 3) := by decide +kernel
def bX12_see_27 : List OP := [oi (.iload 4), oi (.iconst 0), oi (.bipush 59)]
theorem oX12_see_27 : okB mX12_see 27 bX12_see_27 = true := by decide +kernel
theorem eX12_see_32 : decode mX12_see.2.1 32 = .ok (.invokestatic 102, 3) := by decide +kernel
theorem lX12_see_32 : okL 1091 (.methodLink mX12_see.1.cls 102 mX12_in.1) = true := by decide +kernel
theorem eX12_see_35 : decode mX12_see.2.1 35 = .ok (.ifCond .eq 21, 3) := by decide +kernel
def bX12_see_38 : List OP := [oi (.iload 5), oi (.iconst 0), oi (.bipush 59)]
theorem oX12_see_38 : okB mX12_see 38 bX12_see_38 = true := by decide +kernel
theorem eX12_see_43 : decode mX12_see.2.1 43 = .ok (.invokestatic 102, 3) := by decide +kernel
theorem lX12_see_43 : okL 1091 (.methodLink mX12_see.1.cls 102 mX12_in.1) = true := by decide +kernel
theorem eX12_see_46 : decode mX12_see.2.1 46 = .ok (.ifCond .eq 10, 3) := by decide +kernel
def bX12_see_49 : List OP := [oi (.iload 4), oi (.iload 5)]
theorem oX12_see_49 : okB mX12_see 49 bX12_see_49 = true := by decide +kernel
theorem eX12_see_53 : decode mX12_see.2.1 53 = .ok (.if_icmp .le 6, 3) := by decide +kernel
def bX12_see_56 : List OP := [oi (.bipush (-2))]
theorem oX12_see_56 : okB mX12_see 56 bX12_see_56 = true := by decide +kernel
theorem eX12_see_58 : decode mX12_see.2.1 58 = .ok (.ireturn, 1) := by decide +kernel
def bX12_see_59 : List OP := [oi (.aload_n 0), oi (.iload_n 1), oi (.iload_n 2), oi (.iload_n 3)]
theorem oX12_see_59 : okB mX12_see 59 bX12_see_59 = true := by decide +kernel
theorem eX12_see_63 : decode mX12_see.2.1 63 = .ok (.invokevirtual 192, 3) := by decide +kernel
theorem lX12_see_63 : okL 1248 (.methodLink mX12_see.1.cls 192 mX12_mayIt.1) = true := by decide +kernel
theorem eX12_see_66 : decode mX12_see.2.1 66 = .ok (.ifCond .ne 6, 3) := by decide +kernel
def bX12_see_69 : List OP := [oi (.bipush (-5))]
theorem oX12_see_69 : okB mX12_see 69 bX12_see_69 = true := by decide +kernel
theorem eX12_see_71 : decode mX12_see.2.1 71 = .ok (.ireturn, 1) := by decide +kernel
def bX12_see_72 : List OP := [oi (.iconst 0), oi (.istore 6), oi (.iload 4), oi (.istore 7)]
theorem oX12_see_72 : okB mX12_see 72 bX12_see_72 = true := by decide +kernel
def bX12_see_79 : List OP := [oi (.iload 7), oi (.iload 5)]
theorem oX12_see_79 : okB mX12_see 79 bX12_see_79 = true := by decide +kernel
theorem eX12_see_83 : decode mX12_see.2.1 83 = .ok (.if_icmp .gt 51, 3) := by decide +kernel
def bX12_see_86 : List OP := [oi (.bipush 60), oi (.bipush 6), oi (.iload_n 1), oi .imul, oi (.iload_n 2), oi .iadd, oi .imul, oi (.iload 7), oi .iadd, oi (.istore 8), oi (.iload 6), oi (.aload_n 0), (.getfield 50, 19, 12, 19, 2, 986), oi (.iload 8), oi .baload]
theorem oX12_see_86 : okB mX12_see 86 bX12_see_86 = true := by decide +kernel
theorem eX12_see_109 : decode mX12_see.2.1 109 = .ok (.ifCond .eq 7, 3) := by decide +kernel
def bX12_see_112 : List OP := [oi (.iconst 0), (.goto 4, 0, 0, 117, 0, 0)]
theorem oX12_see_112 : okB mX12_see 112 bX12_see_112 = true := by decide +kernel
def bX12_see_116 : List OP := [oi (.iconst 1)]
theorem oX12_see_116 : okB mX12_see 116 bX12_see_116 = true := by decide +kernel
def bX12_see_117 : List OP := [oi .iadd, oi (.istore 6), oi (.aload_n 0), (.getfield 50, 19, 12, 19, 2, 986), oi (.iload 8), oi (.iconst 1), oi .bastore, oi (.iinc 7 1), (.goto (-52), 0, 0, 79, 0, 0)]
theorem oX12_see_117 : okB mX12_see 117 bX12_see_117 = true := by decide +kernel
def bX12_see_134 : List OP := [oi (.aload_n 0), (.getfield 53, 20, 12, 20, 2, 987), oi (.bipush 6), oi (.iload_n 1), oi .imul, oi (.iload_n 2), oi .iadd, oi .dup2, oi .iaload, oi (.iconst 1), oi .iadd, oi .iastore, oi (.iload 6)]
theorem oX12_see_134 : okB mX12_see 134 bX12_see_134 = true := by decide +kernel
theorem eX12_see_151 : decode mX12_see.2.1 151 = .ok (.ireturn, 1) := by decide +kernel
def bX12_seenOf_0 : List OP := [oi (.iconst 0), oi (.istore_n 3), oi (.iconst 0), oi (.istore 4)]
theorem oX12_seenOf_0 : okB mX12_seenOf 0 bX12_seenOf_0 = true := by decide +kernel
def bX12_seenOf_5 : List OP := [oi (.iload 4), oi (.bipush 60)]
theorem oX12_seenOf_5 : okB mX12_seenOf 5 bX12_seenOf_5 = true := by decide +kernel
theorem eX12_seenOf_9 : decode mX12_seenOf.2.1 9 = .ok (.if_icmp .ge 37, 3) := by decide +kernel
def bX12_seenOf_12 : List OP := [oi (.iload_n 3), oi (.aload_n 0), (.getfield 50, 19, 12, 19, 2, 986), oi (.bipush 60), oi (.bipush 6), oi (.iload_n 1), oi .imul, oi (.iload_n 2), oi .iadd, oi .imul, oi (.iload 4), oi .iadd, oi .baload]
theorem oX12_seenOf_12 : okB mX12_seenOf 12 bX12_seenOf_12 = true := by decide +kernel
theorem eX12_seenOf_30 : decode mX12_seenOf.2.1 30 = .ok (.ifCond .eq 7, 3) := by decide +kernel
def bX12_seenOf_33 : List OP := [oi (.iconst 1), (.goto 4, 0, 0, 38, 0, 0)]
theorem oX12_seenOf_33 : okB mX12_seenOf 33 bX12_seenOf_33 = true := by decide +kernel
def bX12_seenOf_37 : List OP := [oi (.iconst 0)]
theorem oX12_seenOf_37 : okB mX12_seenOf 37 bX12_seenOf_37 = true := by decide +kernel
def bX12_seenOf_38 : List OP := [oi .iadd, oi (.istore_n 3), oi (.iinc 4 1), (.goto (-38), 0, 0, 5, 0, 0)]
theorem oX12_seenOf_38 : okB mX12_seenOf 38 bX12_seenOf_38 = true := by decide +kernel
def bX12_seenOf_46 : List OP := [oi (.iload_n 3)]
theorem oX12_seenOf_46 : okB mX12_seenOf 46 bX12_seenOf_46 = true := by decide +kernel
theorem eX12_seenOf_47 : decode mX12_seenOf.2.1 47 = .ok (.ireturn, 1) := by decide +kernel
def bX12_seen_0 : List OP := [oi (.iload_n 1)]
theorem oX12_seen_0 : okB mX12_seen 0 bX12_seen_0 = true := by decide +kernel
theorem eX12_seen_1 : decode mX12_seen.2.1 1 = .ok (.invokestatic 189, 3) := by decide +kernel
theorem lX12_seen_1 : okL 1241 (.methodLink mX12_seen.1.cls 189 mX12_isSeer.1) = true := by decide +kernel
theorem eX12_seen_4 : decode mX12_seen.2.1 4 = .ok (.ifCond .eq 10, 3) := by decide +kernel
def bX12_seen_7 : List OP := [oi (.iload_n 2)]
theorem oX12_seen_7 : okB mX12_seen 7 bX12_seen_7 = true := by decide +kernel
theorem eX12_seen_8 : decode mX12_seen.2.1 8 = .ok (.invokestatic 183, 3) := by decide +kernel
theorem lX12_seen_8 : okL 1222 (.methodLink mX12_seen.1.cls 183 mX12_isFilm.1) = true := by decide +kernel
theorem eX12_seen_11 : decode mX12_seen.2.1 11 = .ok (.ifCond .ne 5, 3) := by decide +kernel
def bX12_seen_14 : List OP := [oi (.iconst (-1))]
theorem oX12_seen_14 : okB mX12_seen 14 bX12_seen_14 = true := by decide +kernel
theorem eX12_seen_15 : decode mX12_seen.2.1 15 = .ok (.ireturn, 1) := by decide +kernel
def bX12_seen_16 : List OP := [oi (.iload_n 3)]
theorem oX12_seen_16 : okB mX12_seen 16 bX12_seen_16 = true := by decide +kernel
theorem eX12_seen_17 : decode mX12_seen.2.1 17 = .ok (.ifCond .ne 12, 3) := by decide +kernel
def bX12_seen_20 : List OP := [oi (.aload_n 0), oi (.iload_n 1), oi (.iload_n 2)]
theorem oX12_seen_20 : okB mX12_seen 20 bX12_seen_20 = true := by decide +kernel
theorem eX12_seen_23 : decode mX12_seen.2.1 23 = .ok (.invokevirtual 195, 3) := by decide +kernel
theorem lX12_seen_23 : okL 1260 (.methodLink mX12_seen.1.cls 195 mX12_seenOf.1) = true := by decide +kernel
def bX12_seen_26 : List OP := [(.goto 24, 0, 0, 50, 0, 0)]
theorem oX12_seen_26 : okB mX12_seen 26 bX12_seen_26 = true := by decide +kernel
def bX12_seen_29 : List OP := [oi (.iload_n 3), oi (.iconst 1)]
theorem oX12_seen_29 : okB mX12_seen 29 bX12_seen_29 = true := by decide +kernel
theorem eX12_seen_31 : decode mX12_seen.2.1 31 = .ok (.if_icmp .ne 17, 3) := by decide +kernel
def bX12_seen_34 : List OP := [oi (.aload_n 0), (.getfield 53, 20, 12, 20, 2, 987), oi (.bipush 6), oi (.iload_n 1), oi .imul, oi (.iload_n 2), oi .iadd, oi .iaload, (.goto 5, 0, 0, 50, 0, 0)]
theorem oX12_seen_34 : okB mX12_seen 34 bX12_seen_34 = true := by decide +kernel
def bX12_seen_48 : List OP := [oi (.bipush (-2))]
theorem oX12_seen_48 : okB mX12_seen 48 bX12_seen_48 = true := by decide +kernel
theorem eX12_seen_50 : decode mX12_seen.2.1 50 = .ok (.ireturn, 1) := by decide +kernel
def bX12_owed_0 : List OP := [oi (.iload_n 1)]
theorem oX12_owed_0 : okB mX12_owed 0 bX12_owed_0 = true := by decide +kernel
theorem eX12_owed_1 : decode mX12_owed.2.1 1 = .ok (.invokestatic 183, 3) := by decide +kernel
theorem lX12_owed_1 : okL 1222 (.methodLink mX12_owed.1.cls 183 mX12_isFilm.1) = true := by decide +kernel
theorem eX12_owed_4 : decode mX12_owed.2.1 4 = .ok (.ifCond .ne 5, 3) := by decide +kernel
def bX12_owed_7 : List OP := [oi (.iconst (-1))]
theorem oX12_owed_7 : okB mX12_owed 7 bX12_owed_7 = true := by decide +kernel
theorem eX12_owed_8 : decode mX12_owed.2.1 8 = .ok (.ireturn, 1) := by decide +kernel
def bX12_owed_9 : List OP := [oi (.iconst 0), oi (.istore_n 2), oi (.iconst 0), oi (.istore_n 3)]
theorem oX12_owed_9 : okB mX12_owed 9 bX12_owed_9 = true := by decide +kernel
def bX12_owed_13 : List OP := [oi (.iload_n 3), oi (.bipush 8)]
theorem oX12_owed_13 : okB mX12_owed 13 bX12_owed_13 = true := by decide +kernel
theorem eX12_owed_16 : decode mX12_owed.2.1 16 = .ok (.if_icmp .ge 45, 3) := by decide +kernel
def bX12_owed_19 : List OP := [oi (.aload_n 0), oi (.iload_n 3), oi (.iload_n 1)]
theorem oX12_owed_19 : okB mX12_owed 19 bX12_owed_19 = true := by decide +kernel
theorem eX12_owed_22 : decode mX12_owed.2.1 22 = .ok (.invokevirtual 195, 3) := by decide +kernel
theorem lX12_owed_22 : okL 1260 (.methodLink mX12_owed.1.cls 195 mX12_seenOf.1) = true := by decide +kernel
def bX12_owed_25 : List OP := [oi (.aload_n 0), (.getfield 17, 3, 12, 3, 2, 970), oi (.iconst 4), oi .iaload, oi .isub, oi (.istore 4), oi (.iload_n 2), oi (.iload 4)]
theorem oX12_owed_25 : okB mX12_owed 25 bX12_owed_25 = true := by decide +kernel
theorem eX12_owed_37 : decode mX12_owed.2.1 37 = .ok (.ifCond .le 15, 3) := by decide +kernel
def bX12_owed_40 : List OP := [oi (.iload 4), oi (.aload_n 0), (.getfield 17, 3, 12, 3, 2, 970), oi (.iconst 3), oi .iaload, oi .imul, (.goto 4, 0, 0, 53, 0, 0)]
theorem oX12_owed_40 : okB mX12_owed 40 bX12_owed_40 = true := by decide +kernel
def bX12_owed_52 : List OP := [oi (.iconst 0)]
theorem oX12_owed_52 : okB mX12_owed 52 bX12_owed_52 = true := by decide +kernel
def bX12_owed_53 : List OP := [oi .iadd, oi (.istore_n 2), oi (.iinc 3 1), (.goto (-45), 0, 0, 13, 0, 0)]
theorem oX12_owed_53 : okB mX12_owed 53 bX12_owed_53 = true := by decide +kernel
def bX12_owed_61 : List OP := [oi (.iload_n 2)]
theorem oX12_owed_61 : okB mX12_owed 61 bX12_owed_61 = true := by decide +kernel
theorem eX12_owed_62 : decode mX12_owed.2.1 62 = .ok (.ireturn, 1) := by decide +kernel
def bX12_mark_0 : List OP := [oi (.iload_n 1)]
theorem oX12_mark_0 : okB mX12_mark 0 bX12_mark_0 = true := by decide +kernel
theorem eX12_mark_1 : decode mX12_mark.2.1 1 = .ok (.invokestatic 189, 3) := by decide +kernel
theorem lX12_mark_1 : okL 1241 (.methodLink mX12_mark.1.cls 189 mX12_isSeer.1) = true := by decide +kernel
theorem eX12_mark_4 : decode mX12_mark.2.1 4 = .ok (.ifCond .ne 5, 3) := by decide +kernel
def bX12_mark_7 : List OP := [oi (.iconst (-1))]
theorem oX12_mark_7 : okB mX12_mark 7 bX12_mark_7 = true := by decide +kernel
theorem eX12_mark_8 : decode mX12_mark.2.1 8 = .ok (.ireturn, 1) := by decide +kernel
def bX12_mark_9 : List OP := [oi (.iload_n 2), oi (.iconst 0), oi (.sipush 255)]
theorem oX12_mark_9 : okB mX12_mark 9 bX12_mark_9 = true := by decide +kernel
theorem eX12_mark_14 : decode mX12_mark.2.1 14 = .ok (.invokestatic 102, 3) := by decide +kernel
theorem lX12_mark_14 : okL 1091 (.methodLink mX12_mark.1.cls 102 mX12_in.1) = true := by decide +kernel
theorem eX12_mark_17 : decode mX12_mark.2.1 17 = .ok (.ifCond .ne 6, 3) := by decide +kernel
def bX12_mark_20 : List OP := [oi (.bipush (-2))]
theorem oX12_mark_20 : okB mX12_mark 20 bX12_mark_20 = true := by decide +kernel
theorem eX12_mark_22 : decode mX12_mark.2.1 22 = .ok (.ireturn, 1) := by decide +kernel
def bX12_mark_23 : List OP := [oi (.aload_n 0), (.getfield 56, 21, 12, 21, 2, 988), oi (.iload_n 1), oi .iaload, oi (.istore_n 3), oi (.aload_n 0), (.getfield 56, 21, 12, 21, 2, 988), oi (.iload_n 1), oi (.iload_n 2), oi .iastore, oi (.iload_n 3)]
theorem oX12_mark_23 : okB mX12_mark 23 bX12_mark_23 = true := by decide +kernel
theorem eX12_mark_38 : decode mX12_mark.2.1 38 = .ok (.ireturn, 1) := by decide +kernel
def bX12_blame_0 : List OP := [oi (.iload_n 1), oi (.iconst 0), oi (.sipush 255)]
theorem oX12_blame_0 : okB mX12_blame 0 bX12_blame_0 = true := by decide +kernel
theorem eX12_blame_5 : decode mX12_blame.2.1 5 = .ok (.invokestatic 102, 3) := by decide +kernel
theorem lX12_blame_5 : okL 1091 (.methodLink mX12_blame.1.cls 102 mX12_in.1) = true := by decide +kernel
theorem eX12_blame_8 : decode mX12_blame.2.1 8 = .ok (.ifCond .eq 23, 3) := by decide +kernel
def bX12_blame_11 : List OP := [oi (.iload_n 2), oi (.iconst 0), oi (.sipush 255)]
theorem oX12_blame_11 : okB mX12_blame 11 bX12_blame_11 = true := by decide +kernel
theorem eX12_blame_16 : decode mX12_blame.2.1 16 = .ok (.invokestatic 102, 3) := by decide +kernel
theorem lX12_blame_16 : okL 1091 (.methodLink mX12_blame.1.cls 102 mX12_in.1) = true := by decide +kernel
theorem eX12_blame_19 : decode mX12_blame.2.1 19 = .ok (.ifCond .eq 12, 3) := by decide +kernel
def bX12_blame_22 : List OP := [oi (.iload_n 3), oi (.iconst 0), oi (.iconst 3)]
theorem oX12_blame_22 : okB mX12_blame 22 bX12_blame_22 = true := by decide +kernel
theorem eX12_blame_25 : decode mX12_blame.2.1 25 = .ok (.invokestatic 102, 3) := by decide +kernel
theorem lX12_blame_25 : okL 1091 (.methodLink mX12_blame.1.cls 102 mX12_in.1) = true := by decide +kernel
theorem eX12_blame_28 : decode mX12_blame.2.1 28 = .ok (.ifCond .ne 6, 3) := by decide +kernel
def bX12_blame_31 : List OP := [oi (.bipush (-2))]
theorem oX12_blame_31 : okB mX12_blame 31 bX12_blame_31 = true := by decide +kernel
theorem eX12_blame_33 : decode mX12_blame.2.1 33 = .ok (.ireturn, 1) := by decide +kernel
def bX12_blame_34 : List OP := [oi (.iconst 0), oi (.istore 4), oi (.iconst 1), oi (.istore 5), oi (.iconst 0), oi (.istore 6)]
theorem oX12_blame_34 : okB mX12_blame 34 bX12_blame_34 = true := by decide +kernel
def bX12_blame_43 : List OP := [oi (.iload 6), oi (.bipush 8)]
theorem oX12_blame_43 : okB mX12_blame 43 bX12_blame_43 = true := by decide +kernel
theorem eX12_blame_47 : decode mX12_blame.2.1 47 = .ok (.if_icmp .ge 56, 3) := by decide +kernel
def bX12_blame_50 : List OP := [oi (.iload 4), oi (.aload_n 0), (.getfield 56, 21, 12, 21, 2, 988), oi (.iload 6), oi .iaload, oi (.iload_n 2), oi .ixor, oi (.iload_n 1), oi .iand]
theorem oX12_blame_50 : okB mX12_blame 50 bX12_blame_50 = true := by decide +kernel
theorem eX12_blame_63 : decode mX12_blame.2.1 63 = .ok (.ifCond .ne 10, 3) := by decide +kernel
def bX12_blame_66 : List OP := [oi (.iconst 1), oi (.iload 6), oi .ishl, (.goto 4, 0, 0, 74, 0, 0)]
theorem oX12_blame_66 : okB mX12_blame 66 bX12_blame_66 = true := by decide +kernel
def bX12_blame_73 : List OP := [oi (.iconst 0)]
theorem oX12_blame_73 : okB mX12_blame 73 bX12_blame_73 = true := by decide +kernel
def bX12_blame_74 : List OP := [oi .ior, oi (.istore 4), oi (.iload 5), oi (.iload_n 1), oi (.iload 6), oi .ishr, oi (.iconst 1), oi .iand, oi (.iconst 1)]
theorem oX12_blame_74 : okB mX12_blame 74 bX12_blame_74 = true := by decide +kernel
theorem eX12_blame_86 : decode mX12_blame.2.1 86 = .ok (.if_icmp .ne 7, 3) := by decide +kernel
def bX12_blame_89 : List OP := [oi (.iconst 2), (.goto 4, 0, 0, 94, 0, 0)]
theorem oX12_blame_89 : okB mX12_blame 89 bX12_blame_89 = true := by decide +kernel
def bX12_blame_93 : List OP := [oi (.iconst 1)]
theorem oX12_blame_93 : okB mX12_blame 93 bX12_blame_93 = true := by decide +kernel
def bX12_blame_94 : List OP := [oi .imul, oi (.istore 5), oi (.iinc 6 1), (.goto (-57), 0, 0, 43, 0, 0)]
theorem oX12_blame_94 : okB mX12_blame 94 bX12_blame_94 = true := by decide +kernel
def bX12_blame_103 : List OP := [oi (.iconst 0), oi (.istore 6), oi (.bipush (-6)), oi (.istore 7), oi (.iconst 0), oi (.istore 8)]
theorem oX12_blame_103 : okB mX12_blame 103 bX12_blame_103 = true := by decide +kernel
def bX12_blame_113 : List OP := [oi (.iload 8), oi (.bipush 8)]
theorem oX12_blame_113 : okB mX12_blame 113 bX12_blame_113 = true := by decide +kernel
theorem eX12_blame_117 : decode mX12_blame.2.1 117 = .ok (.if_icmp .ge 107, 3) := by decide +kernel
def bX12_blame_120 : List OP := [oi (.iload 8), oi (.iconst 1), oi .iadd, oi (.istore 9)]
theorem oX12_blame_120 : okB mX12_blame 120 bX12_blame_120 = true := by decide +kernel
def bX12_blame_126 : List OP := [oi (.iload 9), oi (.bipush 8)]
theorem oX12_blame_126 : okB mX12_blame 126 bX12_blame_126 = true := by decide +kernel
theorem eX12_blame_130 : decode mX12_blame.2.1 130 = .ok (.if_icmp .ge 88, 3) := by decide +kernel
def bX12_blame_133 : List OP := [oi (.iload 4), oi (.iload 8), oi .ishr, oi (.iconst 1), oi .iand]
theorem oX12_blame_133 : okB mX12_blame 133 bX12_blame_133 = true := by decide +kernel
theorem eX12_blame_140 : decode mX12_blame.2.1 140 = .ok (.ifCond .ne 17, 3) := by decide +kernel
def bX12_blame_143 : List OP := [oi (.iload 4), oi (.iload 9), oi .ishr, oi (.iconst 1), oi .iand]
theorem oX12_blame_143 : okB mX12_blame 143 bX12_blame_143 = true := by decide +kernel
theorem eX12_blame_150 : decode mX12_blame.2.1 150 = .ok (.ifCond .ne 7, 3) := by decide +kernel
def bX12_blame_153 : List OP := [oi (.iconst 1), (.goto 4, 0, 0, 158, 0, 0)]
theorem oX12_blame_153 : okB mX12_blame 153 bX12_blame_153 = true := by decide +kernel
def bX12_blame_157 : List OP := [oi (.iconst 0)]
theorem oX12_blame_157 : okB mX12_blame 157 bX12_blame_157 = true := by decide +kernel
def bX12_blame_158 : List OP := [oi (.istore 10), oi (.iload 10)]
theorem oX12_blame_158 : okB mX12_blame 158 bX12_blame_158 = true := by decide +kernel
theorem eX12_blame_162 : decode mX12_blame.2.1 162 = .ok (.ifCond .eq 50, 3) := by decide +kernel
def bX12_blame_165 : List OP := [oi (.aload_n 0), (.getfield 56, 21, 12, 21, 2, 988), oi (.iload 8), oi .iaload, oi (.iload_n 2), oi .ixor, oi (.aload_n 0), (.getfield 56, 21, 12, 21, 2, 988), oi (.iload 9), oi .iaload, oi (.iload_n 2), oi .ixor, oi .iand, oi (.iload_n 1), oi .iand]
theorem oX12_blame_165 : okB mX12_blame 165 bX12_blame_165 = true := by decide +kernel
theorem eX12_blame_186 : decode mX12_blame.2.1 186 = .ok (.ifCond .ne 26, 3) := by decide +kernel
def bX12_blame_189 : List OP := [oi (.iinc 6 1), oi (.iload 7)]
theorem oX12_blame_189 : okB mX12_blame 189 bX12_blame_189 = true := by decide +kernel
theorem eX12_blame_194 : decode mX12_blame.2.1 194 = .ok (.ifCond .ge 14, 3) := by decide +kernel
def bX12_blame_197 : List OP := [oi (.bipush 10), oi (.iload 8), oi .imul, oi (.iload 9), oi .iadd, (.goto 5, 0, 0, 210, 0, 0)]
theorem oX12_blame_197 : okB mX12_blame 197 bX12_blame_197 = true := by decide +kernel
def bX12_blame_208 : List OP := [oi (.iload 7)]
theorem oX12_blame_208 : okB mX12_blame 208 bX12_blame_208 = true := by decide +kernel
def bX12_blame_210 : List OP := [oi (.istore 7)]
theorem oX12_blame_210 : okB mX12_blame 210 bX12_blame_210 = true := by decide +kernel
def bX12_blame_212 : List OP := [oi (.iinc 9 1), (.goto (-89), 0, 0, 126, 0, 0)]
theorem oX12_blame_212 : okB mX12_blame 212 bX12_blame_212 = true := by decide +kernel
def bX12_blame_218 : List OP := [oi (.iinc 8 1), (.goto (-108), 0, 0, 113, 0, 0)]
theorem oX12_blame_218 : okB mX12_blame 218 bX12_blame_218 = true := by decide +kernel
def bX12_blame_224 : List OP := [oi (.iload_n 3)]
theorem oX12_blame_224 : okB mX12_blame 224 bX12_blame_224 = true := by decide +kernel
theorem eX12_blame_225 : decode mX12_blame.2.1 225 = .ok (.ifCond .ne 8, 3) := by decide +kernel
def bX12_blame_228 : List OP := [oi (.iload 4), (.goto 25, 0, 0, 255, 0, 0)]
theorem oX12_blame_228 : okB mX12_blame 228 bX12_blame_228 = true := by decide +kernel
def bX12_blame_233 : List OP := [oi (.iload_n 3), oi (.iconst 1)]
theorem oX12_blame_233 : okB mX12_blame 233 bX12_blame_233 = true := by decide +kernel
theorem eX12_blame_235 : decode mX12_blame.2.1 235 = .ok (.if_icmp .ne 8, 3) := by decide +kernel
def bX12_blame_238 : List OP := [oi (.iload 6), (.goto 15, 0, 0, 255, 0, 0)]
theorem oX12_blame_238 : okB mX12_blame 238 bX12_blame_238 = true := by decide +kernel
def bX12_blame_243 : List OP := [oi (.iload_n 3), oi (.iconst 2)]
theorem oX12_blame_243 : okB mX12_blame 243 bX12_blame_243 = true := by decide +kernel
theorem eX12_blame_245 : decode mX12_blame.2.1 245 = .ok (.if_icmp .ne 8, 3) := by decide +kernel
def bX12_blame_248 : List OP := [oi (.iload 7), (.goto 5, 0, 0, 255, 0, 0)]
theorem oX12_blame_248 : okB mX12_blame 248 bX12_blame_248 = true := by decide +kernel
def bX12_blame_253 : List OP := [oi (.iload 5)]
theorem oX12_blame_253 : okB mX12_blame 253 bX12_blame_253 = true := by decide +kernel
theorem eX12_blame_255 : decode mX12_blame.2.1 255 = .ok (.ireturn, 1) := by decide +kernel
def bX12_isGroup_0 : List OP := [oi (.iload_n 0), oi (.iconst 0), oi (.iconst 3)]
theorem oX12_isGroup_0 : okB mX12_isGroup 0 bX12_isGroup_0 = true := by decide +kernel
theorem eX12_isGroup_3 : decode mX12_isGroup.2.1 3 = .ok (.invokestatic 102, 3) := by decide +kernel
theorem lX12_isGroup_3 : okL 1091 (.methodLink mX12_isGroup.1.cls 102 mX12_in.1) = true := by decide +kernel
theorem eX12_isGroup_6 : decode mX12_isGroup.2.1 6 = .ok (.ireturn, 1) := by decide +kernel
def bX12_put_0 : List OP := [oi (.iload_n 1)]
theorem oX12_put_0 : okB mX12_put 0 bX12_put_0 = true := by decide +kernel
theorem eX12_put_1 : decode mX12_put.2.1 1 = .ok (.invokestatic 198, 3) := by decide +kernel
theorem lX12_put_1 : okL 1280 (.methodLink mX12_put.1.cls 198 mX12_isGroup.1) = true := by decide +kernel
theorem eX12_put_4 : decode mX12_put.2.1 4 = .ok (.ifCond .ne 5, 3) := by decide +kernel
def bX12_put_7 : List OP := [oi (.iconst (-1))]
theorem oX12_put_7 : okB mX12_put 7 bX12_put_7 = true := by decide +kernel
theorem eX12_put_8 : decode mX12_put.2.1 8 = .ok (.ireturn, 1) := by decide +kernel
def bX12_put_9 : List OP := [oi (.iload_n 2), oi (.iconst 0), oi (.iconst 5)]
theorem oX12_put_9 : okB mX12_put 9 bX12_put_9 = true := by decide +kernel
theorem eX12_put_12 : decode mX12_put.2.1 12 = .ok (.invokestatic 102, 3) := by decide +kernel
theorem lX12_put_12 : okL 1091 (.methodLink mX12_put.1.cls 102 mX12_in.1) = true := by decide +kernel
theorem eX12_put_15 : decode mX12_put.2.1 15 = .ok (.ifCond .eq 13, 3) := by decide +kernel
def bX12_put_18 : List OP := [oi (.iload_n 3), oi (.iconst 0), (.ldc 201, 65535, 0, 0, 0, 1283)]
theorem oX12_put_18 : okB mX12_put 18 bX12_put_18 = true := by decide +kernel
theorem eX12_put_22 : decode mX12_put.2.1 22 = .ok (.invokestatic 102, 3) := by decide +kernel
theorem lX12_put_22 : okL 1091 (.methodLink mX12_put.1.cls 102 mX12_in.1) = true := by decide +kernel
theorem eX12_put_25 : decode mX12_put.2.1 25 = .ok (.ifCond .ne 6, 3) := by decide +kernel
def bX12_put_28 : List OP := [oi (.bipush (-2))]
theorem oX12_put_28 : okB mX12_put 28 bX12_put_28 = true := by decide +kernel
theorem eX12_put_30 : decode mX12_put.2.1 30 = .ok (.ireturn, 1) := by decide +kernel
def bX12_put_31 : List OP := [oi (.aload_n 0), (.getfield 59, 22, 12, 22, 2, 989), oi (.bipush 6), oi (.iload_n 1), oi .imul, oi (.iload_n 2), oi .iadd, oi .iaload, oi (.istore 4), oi (.aload_n 0), (.getfield 59, 22, 12, 22, 2, 989), oi (.bipush 6), oi (.iload_n 1), oi .imul, oi (.iload_n 2), oi .iadd, oi (.iload_n 3), oi .iastore, oi (.iload 4)]
theorem oX12_put_31 : okB mX12_put 31 bX12_put_31 = true := by decide +kernel
theorem eX12_put_58 : decode mX12_put.2.1 58 = .ok (.ireturn, 1) := by decide +kernel
def bX12_sum_0 : List OP := [oi (.iload_n 1)]
theorem oX12_sum_0 : okB mX12_sum 0 bX12_sum_0 = true := by decide +kernel
theorem eX12_sum_1 : decode mX12_sum.2.1 1 = .ok (.invokestatic 198, 3) := by decide +kernel
theorem lX12_sum_1 : okL 1280 (.methodLink mX12_sum.1.cls 198 mX12_isGroup.1) = true := by decide +kernel
theorem eX12_sum_4 : decode mX12_sum.2.1 4 = .ok (.ifCond .ne 5, 3) := by decide +kernel
def bX12_sum_7 : List OP := [oi (.iconst (-1))]
theorem oX12_sum_7 : okB mX12_sum 7 bX12_sum_7 = true := by decide +kernel
theorem eX12_sum_8 : decode mX12_sum.2.1 8 = .ok (.ireturn, 1) := by decide +kernel
def bX12_sum_9 : List OP := [oi (.iload_n 2), oi (.iconst 0), oi (.iconst 1)]
theorem oX12_sum_9 : okB mX12_sum 9 bX12_sum_9 = true := by decide +kernel
theorem eX12_sum_12 : decode mX12_sum.2.1 12 = .ok (.invokestatic 102, 3) := by decide +kernel
theorem lX12_sum_12 : okL 1091 (.methodLink mX12_sum.1.cls 102 mX12_in.1) = true := by decide +kernel
theorem eX12_sum_15 : decode mX12_sum.2.1 15 = .ok (.ifCond .ne 6, 3) := by decide +kernel
def bX12_sum_18 : List OP := [oi (.bipush (-2))]
theorem oX12_sum_18 : okB mX12_sum 18 bX12_sum_18 = true := by decide +kernel
theorem eX12_sum_20 : decode mX12_sum.2.1 20 = .ok (.ireturn, 1) := by decide +kernel
def bX12_sum_21 : List OP := [oi (.iconst 0), oi (.istore_n 3), oi (.iconst 0), oi (.istore 4)]
theorem oX12_sum_21 : okB mX12_sum 21 bX12_sum_21 = true := by decide +kernel
def bX12_sum_26 : List OP := [oi (.iload 4), oi (.bipush 6)]
theorem oX12_sum_26 : okB mX12_sum 26 bX12_sum_26 = true := by decide +kernel
theorem eX12_sum_30 : decode mX12_sum.2.1 30 = .ok (.if_icmp .ge 37, 3) := by decide +kernel
def bX12_sum_33 : List OP := [oi (.iload_n 3), oi (.aload_n 0), (.getfield 59, 22, 12, 22, 2, 989), oi (.bipush 6), oi (.iload_n 1), oi .imul, oi (.iload 4), oi .iadd, oi .iaload, oi (.iload_n 2)]
theorem oX12_sum_33 : okB mX12_sum 33 bX12_sum_33 = true := by decide +kernel
theorem eX12_sum_47 : decode mX12_sum.2.1 47 = .ok (.ifCond .ne 7, 3) := by decide +kernel
def bX12_sum_50 : List OP := [oi (.iconst 1), (.goto 7, 0, 0, 58, 0, 0)]
theorem oX12_sum_50 : okB mX12_sum 50 bX12_sum_50 = true := by decide +kernel
def bX12_sum_54 : List OP := [oi (.iload 4), oi (.iconst 1), oi .iadd]
theorem oX12_sum_54 : okB mX12_sum 54 bX12_sum_54 = true := by decide +kernel
def bX12_sum_58 : List OP := [oi .imul, oi .iadd, oi (.istore_n 3), oi (.iinc 4 1), (.goto (-38), 0, 0, 26, 0, 0)]
theorem oX12_sum_58 : okB mX12_sum 58 bX12_sum_58 = true := by decide +kernel
def bX12_sum_67 : List OP := [oi (.iload_n 3)]
theorem oX12_sum_67 : okB mX12_sum 67 bX12_sum_67 = true := by decide +kernel
theorem eX12_sum_68 : decode mX12_sum.2.1 68 = .ok (.ireturn, 1) := by decide +kernel
def bX12_restore_0 : List OP := [oi (.iload_n 1)]
theorem oX12_restore_0 : okB mX12_restore 0 bX12_restore_0 = true := by decide +kernel
theorem eX12_restore_1 : decode mX12_restore.2.1 1 = .ok (.invokestatic 198, 3) := by decide +kernel
theorem lX12_restore_1 : okL 1280 (.methodLink mX12_restore.1.cls 198 mX12_isGroup.1) = true := by decide +kernel
theorem eX12_restore_4 : decode mX12_restore.2.1 4 = .ok (.ifCond .ne 5, 3) := by decide +kernel
def bX12_restore_7 : List OP := [oi (.iconst (-1))]
theorem oX12_restore_7 : okB mX12_restore 7 bX12_restore_7 = true := by decide +kernel
theorem eX12_restore_8 : decode mX12_restore.2.1 8 = .ok (.ireturn, 1) := by decide +kernel
def bX12_restore_9 : List OP := [oi (.iload_n 2), oi (.iconst 0), oi (.sipush 255)]
theorem oX12_restore_9 : okB mX12_restore 9 bX12_restore_9 = true := by decide +kernel
theorem eX12_restore_14 : decode mX12_restore.2.1 14 = .ok (.invokestatic 102, 3) := by decide +kernel
theorem lX12_restore_14 : okL 1091 (.methodLink mX12_restore.1.cls 102 mX12_in.1) = true := by decide +kernel
theorem eX12_restore_17 : decode mX12_restore.2.1 17 = .ok (.ifCond .eq 12, 3) := by decide +kernel
def bX12_restore_20 : List OP := [oi (.iload_n 3), oi (.iconst 0), oi (.iconst 5)]
theorem oX12_restore_20 : okB mX12_restore 20 bX12_restore_20 = true := by decide +kernel
theorem eX12_restore_23 : decode mX12_restore.2.1 23 = .ok (.invokestatic 102, 3) := by decide +kernel
theorem lX12_restore_23 : okL 1091 (.methodLink mX12_restore.1.cls 102 mX12_in.1) = true := by decide +kernel
theorem eX12_restore_26 : decode mX12_restore.2.1 26 = .ok (.ifCond .ne 6, 3) := by decide +kernel
def bX12_restore_29 : List OP := [oi (.bipush (-2))]
theorem oX12_restore_29 : okB mX12_restore 29 bX12_restore_29 = true := by decide +kernel
theorem eX12_restore_31 : decode mX12_restore.2.1 31 = .ok (.ireturn, 1) := by decide +kernel
def bX12_restore_32 : List OP := [oi (.iload_n 2), oi (.iload_n 3), oi .ishr, oi (.iconst 1), oi .iand]
theorem oX12_restore_32 : okB mX12_restore 32 bX12_restore_32 = true := by decide +kernel
theorem eX12_restore_37 : decode mX12_restore.2.1 37 = .ok (.ifCond .ne 6, 3) := by decide +kernel
def bX12_restore_40 : List OP := [oi (.bipush (-5))]
theorem oX12_restore_40 : okB mX12_restore 40 bX12_restore_40 = true := by decide +kernel
theorem eX12_restore_42 : decode mX12_restore.2.1 42 = .ok (.ireturn, 1) := by decide +kernel
def bX12_restore_43 : List OP := [oi (.iconst 0), oi (.istore 4), oi (.iconst 0), oi (.istore 5)]
theorem oX12_restore_43 : okB mX12_restore 43 bX12_restore_43 = true := by decide +kernel
def bX12_restore_49 : List OP := [oi (.iload 5), oi (.bipush 6)]
theorem oX12_restore_49 : okB mX12_restore 49 bX12_restore_49 = true := by decide +kernel
theorem eX12_restore_53 : decode mX12_restore.2.1 53 = .ok (.if_icmp .ge 20, 3) := by decide +kernel
def bX12_restore_56 : List OP := [oi (.iload 4), oi (.iload_n 2), oi (.iload 5), oi .ishr, oi (.iconst 1), oi .iand, oi .iadd, oi (.istore 4), oi (.iinc 5 1), (.goto (-21), 0, 0, 49, 0, 0)]
theorem oX12_restore_56 : okB mX12_restore 56 bX12_restore_56 = true := by decide +kernel
def bX12_restore_73 : List OP := [oi (.iconst 2), oi (.iload_n 2), oi (.bipush 6), oi .ishr, oi (.iconst 1), oi .iand, oi .isub, oi (.iload_n 2), oi (.bipush 7), oi .ishr, oi (.iconst 1), oi .iand, oi .isub, oi (.istore 5), oi (.iload 4), oi (.iload 5)]
theorem oX12_restore_73 : okB mX12_restore 73 bX12_restore_73 = true := by decide +kernel
theorem eX12_restore_94 : decode mX12_restore.2.1 94 = .ok (.if_icmp .gt 17, 3) := by decide +kernel
def bX12_restore_97 : List OP := [oi (.aload_n 0), (.getfield 59, 22, 12, 22, 2, 989), oi (.bipush 6), oi (.iload_n 1), oi .imul, oi (.iload_n 3), oi .iadd, oi .iaload, (.goto 5, 0, 0, 113, 0, 0)]
theorem oX12_restore_97 : okB mX12_restore 97 bX12_restore_97 = true := by decide +kernel
def bX12_restore_111 : List OP := [oi (.bipush (-6))]
theorem oX12_restore_111 : okB mX12_restore 111 bX12_restore_111 = true := by decide +kernel
theorem eX12_restore_113 : decode mX12_restore.2.1 113 = .ok (.ireturn, 1) := by decide +kernel
def bX12_isNode_0 : List OP := [oi (.iload_n 0), oi (.iconst 0), oi (.bipush 9)]
theorem oX12_isNode_0 : okB mX12_isNode 0 bX12_isNode_0 = true := by decide +kernel
theorem eX12_isNode_4 : decode mX12_isNode.2.1 4 = .ok (.invokestatic 102, 3) := by decide +kernel
theorem lX12_isNode_4 : okL 1091 (.methodLink mX12_isNode.1.cls 102 mX12_in.1) = true := by decide +kernel
theorem eX12_isNode_7 : decode mX12_isNode.2.1 7 = .ok (.ireturn, 1) := by decide +kernel
def bX12_hungOn_0 : List OP := [oi (.iconst 0), oi (.istore_n 3), oi (.iconst 1), oi (.istore 4)]
theorem oX12_hungOn_0 : okB mX12_hungOn 0 bX12_hungOn_0 = true := by decide +kernel
def bX12_hungOn_5 : List OP := [oi (.iload 4), oi (.bipush 10)]
theorem oX12_hungOn_5 : okB mX12_hungOn 5 bX12_hungOn_5 = true := by decide +kernel
theorem eX12_hungOn_9 : decode mX12_hungOn.2.1 9 = .ok (.if_icmp .ge 44, 3) := by decide +kernel
def bX12_hungOn_12 : List OP := [oi (.iload_n 3), oi (.iload 4), oi (.iload_n 2)]
theorem oX12_hungOn_12 : okB mX12_hungOn 12 bX12_hungOn_12 = true := by decide +kernel
theorem eX12_hungOn_16 : decode mX12_hungOn.2.1 16 = .ok (.if_icmp .eq 28, 3) := by decide +kernel
def bX12_hungOn_19 : List OP := [oi (.aload_n 0), (.getfield 68, 25, 12, 25, 2, 992), oi (.iload 4), oi .baload]
theorem oX12_hungOn_19 : okB mX12_hungOn 19 bX12_hungOn_19 = true := by decide +kernel
theorem eX12_hungOn_26 : decode mX12_hungOn.2.1 26 = .ok (.ifCond .ne 18, 3) := by decide +kernel
def bX12_hungOn_29 : List OP := [oi (.aload_n 0), (.getfield 62, 23, 12, 23, 2, 990), oi (.iload 4), oi .iaload, oi (.iload_n 1)]
theorem oX12_hungOn_29 : okB mX12_hungOn 29 bX12_hungOn_29 = true := by decide +kernel
theorem eX12_hungOn_37 : decode mX12_hungOn.2.1 37 = .ok (.if_icmp .ne 7, 3) := by decide +kernel
def bX12_hungOn_40 : List OP := [oi (.iconst 1), (.goto 4, 0, 0, 45, 0, 0)]
theorem oX12_hungOn_40 : okB mX12_hungOn 40 bX12_hungOn_40 = true := by decide +kernel
def bX12_hungOn_44 : List OP := [oi (.iconst 0)]
theorem oX12_hungOn_44 : okB mX12_hungOn 44 bX12_hungOn_44 = true := by decide +kernel
def bX12_hungOn_45 : List OP := [oi .iadd, oi (.istore_n 3), oi (.iinc 4 1), (.goto (-45), 0, 0, 5, 0, 0)]
theorem oX12_hungOn_45 : okB mX12_hungOn 45 bX12_hungOn_45 = true := by decide +kernel
def bX12_hungOn_53 : List OP := [oi (.iload_n 3)]
theorem oX12_hungOn_53 : okB mX12_hungOn 53 bX12_hungOn_53 = true := by decide +kernel
theorem eX12_hungOn_54 : decode mX12_hungOn.2.1 54 = .ok (.ireturn, 1) := by decide +kernel
def bX12_hang_0 : List OP := [oi (.iload_n 1)]
theorem oX12_hang_0 : okB mX12_hang 0 bX12_hang_0 = true := by decide +kernel
theorem eX12_hang_1 : decode mX12_hang.2.1 1 = .ok (.invokestatic 202, 3) := by decide +kernel
theorem lX12_hang_1 : okL 1296 (.methodLink mX12_hang.1.cls 202 mX12_isNode.1) = true := by decide +kernel
theorem eX12_hang_4 : decode mX12_hang.2.1 4 = .ok (.ifCond .eq 10, 3) := by decide +kernel
def bX12_hang_7 : List OP := [oi (.iload_n 2)]
theorem oX12_hang_7 : okB mX12_hang 7 bX12_hang_7 = true := by decide +kernel
theorem eX12_hang_8 : decode mX12_hang.2.1 8 = .ok (.invokestatic 202, 3) := by decide +kernel
theorem lX12_hang_8 : okL 1296 (.methodLink mX12_hang.1.cls 202 mX12_isNode.1) = true := by decide +kernel
theorem eX12_hang_11 : decode mX12_hang.2.1 11 = .ok (.ifCond .ne 5, 3) := by decide +kernel
def bX12_hang_14 : List OP := [oi (.iconst (-1))]
theorem oX12_hang_14 : okB mX12_hang 14 bX12_hang_14 = true := by decide +kernel
theorem eX12_hang_15 : decode mX12_hang.2.1 15 = .ok (.ireturn, 1) := by decide +kernel
def bX12_hang_16 : List OP := [oi (.iload_n 3), oi (.iconst 1), oi (.bipush 100)]
theorem oX12_hang_16 : okB mX12_hang 16 bX12_hang_16 = true := by decide +kernel
theorem eX12_hang_20 : decode mX12_hang.2.1 20 = .ok (.invokestatic 102, 3) := by decide +kernel
theorem lX12_hang_20 : okL 1091 (.methodLink mX12_hang.1.cls 102 mX12_in.1) = true := by decide +kernel
theorem eX12_hang_23 : decode mX12_hang.2.1 23 = .ok (.ifCond .ne 6, 3) := by decide +kernel
def bX12_hang_26 : List OP := [oi (.bipush (-2))]
theorem oX12_hang_26 : okB mX12_hang 26 bX12_hang_26 = true := by decide +kernel
theorem eX12_hang_28 : decode mX12_hang.2.1 28 = .ok (.ireturn, 1) := by decide +kernel
def bX12_hang_29 : List OP := [oi (.aload_n 0), (.getfield 68, 25, 12, 25, 2, 992), oi (.iload_n 1), oi .baload]
theorem oX12_hang_29 : okB mX12_hang 29 bX12_hang_29 = true := by decide +kernel
theorem eX12_hang_35 : decode mX12_hang.2.1 35 = .ok (.ifCond .ne 12, 3) := by decide +kernel
def bX12_hang_38 : List OP := [oi (.aload_n 0), (.getfield 68, 25, 12, 25, 2, 992), oi (.iload_n 2), oi .baload]
theorem oX12_hang_38 : okB mX12_hang 38 bX12_hang_38 = true := by decide +kernel
theorem eX12_hang_44 : decode mX12_hang.2.1 44 = .ok (.ifCond .eq 6, 3) := by decide +kernel
def bX12_hang_47 : List OP := [oi (.bipush (-3))]
theorem oX12_hang_47 : okB mX12_hang 47 bX12_hang_47 = true := by decide +kernel
theorem eX12_hang_49 : decode mX12_hang.2.1 49 = .ok (.ireturn, 1) := by decide +kernel
def bX12_hang_50 : List OP := [oi (.iload_n 2), oi (.iload_n 1)]
theorem oX12_hang_50 : okB mX12_hang 50 bX12_hang_50 = true := by decide +kernel
theorem eX12_hang_52 : decode mX12_hang.2.1 52 = .ok (.if_icmp .lt 6, 3) := by decide +kernel
def bX12_hang_55 : List OP := [oi (.bipush (-5))]
theorem oX12_hang_55 : okB mX12_hang 55 bX12_hang_55 = true := by decide +kernel
theorem eX12_hang_57 : decode mX12_hang.2.1 57 = .ok (.ireturn, 1) := by decide +kernel
def bX12_hang_58 : List OP := [oi (.aload_n 0), oi (.iload_n 2), oi (.iload_n 1)]
theorem oX12_hang_58 : okB mX12_hang 58 bX12_hang_58 = true := by decide +kernel
theorem eX12_hang_61 : decode mX12_hang.2.1 61 = .ok (.invokevirtual 205, 3) := by decide +kernel
theorem lX12_hang_61 : okL 1299 (.methodLink mX12_hang.1.cls 205 mX12_hungOn.1) = true := by decide +kernel
def bX12_hang_64 : List OP := [oi (.aload_n 0), (.getfield 17, 3, 12, 3, 2, 970), oi (.bipush 6), oi .iaload]
theorem oX12_hang_64 : okB mX12_hang 64 bX12_hang_64 = true := by decide +kernel
theorem eX12_hang_71 : decode mX12_hang.2.1 71 = .ok (.if_icmp .lt 6, 3) := by decide +kernel
def bX12_hang_74 : List OP := [oi (.bipush (-4))]
theorem oX12_hang_74 : okB mX12_hang 74 bX12_hang_74 = true := by decide +kernel
theorem eX12_hang_76 : decode mX12_hang.2.1 76 = .ok (.ireturn, 1) := by decide +kernel
def bX12_hang_77 : List OP := [oi (.aload_n 0), (.getfield 62, 23, 12, 23, 2, 990), oi (.iload_n 1), oi .iaload, oi (.istore 4), oi (.aload_n 0), (.getfield 62, 23, 12, 23, 2, 990), oi (.iload_n 1), oi (.iload_n 2), oi .iastore, oi (.aload_n 0), (.getfield 65, 24, 12, 24, 2, 991), oi (.iload_n 1), oi (.iload_n 3), oi .iastore, oi (.iload 4)]
theorem oX12_hang_77 : okB mX12_hang 77 bX12_hang_77 = true := by decide +kernel
theorem eX12_hang_101 : decode mX12_hang.2.1 101 = .ok (.ireturn, 1) := by decide +kernel
def bX12_behindOf_0 : List OP := [oi (.iconst 0), oi (.istore_n 2), oi (.iload_n 1), oi (.istore_n 3)]
theorem oX12_behindOf_0 : okB mX12_behindOf 0 bX12_behindOf_0 = true := by decide +kernel
def bX12_behindOf_4 : List OP := [oi (.iload_n 3)]
theorem oX12_behindOf_4 : okB mX12_behindOf 4 bX12_behindOf_4 = true := by decide +kernel
theorem eX12_behindOf_5 : decode mX12_behindOf.2.1 5 = .ok (.ifCond .le 22, 3) := by decide +kernel
def bX12_behindOf_8 : List OP := [oi (.iload_n 2), oi (.aload_n 0), (.getfield 65, 24, 12, 24, 2, 991), oi (.iload_n 3), oi .iaload, oi .iadd, oi (.istore_n 2), oi (.aload_n 0), (.getfield 62, 23, 12, 23, 2, 990), oi (.iload_n 3), oi .iaload, oi (.istore_n 3), (.goto (-20), 0, 0, 4, 0, 0)]
theorem oX12_behindOf_8 : okB mX12_behindOf 8 bX12_behindOf_8 = true := by decide +kernel
def bX12_behindOf_27 : List OP := [oi (.iload_n 2)]
theorem oX12_behindOf_27 : okB mX12_behindOf 27 bX12_behindOf_27 = true := by decide +kernel
theorem eX12_behindOf_28 : decode mX12_behindOf.2.1 28 = .ok (.ireturn, 1) := by decide +kernel
def bX12_behind_0 : List OP := [oi (.iload_n 1)]
theorem oX12_behind_0 : okB mX12_behind 0 bX12_behind_0 = true := by decide +kernel
theorem eX12_behind_1 : decode mX12_behind.2.1 1 = .ok (.invokestatic 202, 3) := by decide +kernel
theorem lX12_behind_1 : okL 1296 (.methodLink mX12_behind.1.cls 202 mX12_isNode.1) = true := by decide +kernel
theorem eX12_behind_4 : decode mX12_behind.2.1 4 = .ok (.ifCond .ne 7, 3) := by decide +kernel
def bX12_behind_7 : List OP := [oi (.iconst (-1)), (.goto 22, 0, 0, 30, 0, 0)]
theorem oX12_behind_7 : okB mX12_behind 7 bX12_behind_7 = true := by decide +kernel
def bX12_behind_11 : List OP := [oi (.aload_n 0), (.getfield 68, 25, 12, 25, 2, 992), oi (.iload_n 1), oi .baload]
theorem oX12_behind_11 : okB mX12_behind 11 bX12_behind_11 = true := by decide +kernel
theorem eX12_behind_17 : decode mX12_behind.2.1 17 = .ok (.ifCond .eq 8, 3) := by decide +kernel
def bX12_behind_20 : List OP := [oi (.bipush (-3)), (.goto 8, 0, 0, 30, 0, 0)]
theorem oX12_behind_20 : okB mX12_behind 20 bX12_behind_20 = true := by decide +kernel
def bX12_behind_25 : List OP := [oi (.aload_n 0), oi (.iload_n 1)]
theorem oX12_behind_25 : okB mX12_behind 25 bX12_behind_25 = true := by decide +kernel
theorem eX12_behind_27 : decode mX12_behind.2.1 27 = .ok (.invokevirtual 208, 3) := by decide +kernel
theorem lX12_behind_27 : okL 1307 (.methodLink mX12_behind.1.cls 208 mX12_behindOf.1) = true := by decide +kernel
theorem eX12_behind_30 : decode mX12_behind.2.1 30 = .ok (.ireturn, 1) := by decide +kernel
def bX12_isBelow_0 : List OP := [oi (.iload_n 1), oi (.istore_n 3)]
theorem oX12_isBelow_0 : okB mX12_isBelow 0 bX12_isBelow_0 = true := by decide +kernel
def bX12_isBelow_2 : List OP := [oi (.iload_n 3)]
theorem oX12_isBelow_2 : okB mX12_isBelow 2 bX12_isBelow_2 = true := by decide +kernel
theorem eX12_isBelow_3 : decode mX12_isBelow.2.1 3 = .ok (.ifCond .le 18, 3) := by decide +kernel
def bX12_isBelow_6 : List OP := [oi (.iload_n 3), oi (.iload_n 2)]
theorem oX12_isBelow_6 : okB mX12_isBelow 6 bX12_isBelow_6 = true := by decide +kernel
theorem eX12_isBelow_8 : decode mX12_isBelow.2.1 8 = .ok (.if_icmp .eq 13, 3) := by decide +kernel
def bX12_isBelow_11 : List OP := [oi (.aload_n 0), (.getfield 62, 23, 12, 23, 2, 990), oi (.iload_n 3), oi .iaload, oi (.istore_n 3), (.goto (-16), 0, 0, 2, 0, 0)]
theorem oX12_isBelow_11 : okB mX12_isBelow 11 bX12_isBelow_11 = true := by decide +kernel
def bX12_isBelow_21 : List OP := [oi (.iload_n 3), oi (.iload_n 2)]
theorem oX12_isBelow_21 : okB mX12_isBelow 21 bX12_isBelow_21 = true := by decide +kernel
theorem eX12_isBelow_23 : decode mX12_isBelow.2.1 23 = .ok (.if_icmp .ne 7, 3) := by decide +kernel
def bX12_isBelow_26 : List OP := [oi (.iconst 1), (.goto 4, 0, 0, 31, 0, 0)]
theorem oX12_isBelow_26 : okB mX12_isBelow 26 bX12_isBelow_26 = true := by decide +kernel
def bX12_isBelow_30 : List OP := [oi (.iconst 0)]
theorem oX12_isBelow_30 : okB mX12_isBelow 30 bX12_isBelow_30 = true := by decide +kernel
theorem eX12_isBelow_31 : decode mX12_isBelow.2.1 31 = .ok (.ireturn, 1) := by decide +kernel
def bX12_fall_0 : List OP := [oi (.iload_n 1)]
theorem oX12_fall_0 : okB mX12_fall 0 bX12_fall_0 = true := by decide +kernel
theorem eX12_fall_1 : decode mX12_fall.2.1 1 = .ok (.invokestatic 202, 3) := by decide +kernel
theorem lX12_fall_1 : okL 1296 (.methodLink mX12_fall.1.cls 202 mX12_isNode.1) = true := by decide +kernel
theorem eX12_fall_4 : decode mX12_fall.2.1 4 = .ok (.ifCond .ne 5, 3) := by decide +kernel
def bX12_fall_7 : List OP := [oi (.iconst (-1))]
theorem oX12_fall_7 : okB mX12_fall 7 bX12_fall_7 = true := by decide +kernel
theorem eX12_fall_8 : decode mX12_fall.2.1 8 = .ok (.ireturn, 1) := by decide +kernel
def bX12_fall_9 : List OP := [oi (.iload_n 1)]
theorem oX12_fall_9 : okB mX12_fall 9 bX12_fall_9 = true := by decide +kernel
theorem eX12_fall_10 : decode mX12_fall.2.1 10 = .ok (.ifCond .ne 6, 3) := by decide +kernel
def bX12_fall_13 : List OP := [oi (.bipush (-5))]
theorem oX12_fall_13 : okB mX12_fall 13 bX12_fall_13 = true := by decide +kernel
theorem eX12_fall_15 : decode mX12_fall.2.1 15 = .ok (.ireturn, 1) := by decide +kernel
def bX12_fall_16 : List OP := [oi (.aload_n 0), (.getfield 68, 25, 12, 25, 2, 992), oi (.iload_n 1), oi .baload]
theorem oX12_fall_16 : okB mX12_fall 16 bX12_fall_16 = true := by decide +kernel
theorem eX12_fall_22 : decode mX12_fall.2.1 22 = .ok (.ifCond .eq 6, 3) := by decide +kernel
def bX12_fall_25 : List OP := [oi (.bipush (-3))]
theorem oX12_fall_25 : okB mX12_fall 25 bX12_fall_25 = true := by decide +kernel
theorem eX12_fall_27 : decode mX12_fall.2.1 27 = .ok (.ireturn, 1) := by decide +kernel
def bX12_fall_28 : List OP := [oi (.aload_n 0), (.getfield 68, 25, 12, 25, 2, 992), oi (.iload_n 1), oi (.iconst 1), oi .bastore, oi (.iconst 0), oi (.istore_n 2), oi (.iconst 1), oi (.istore_n 3)]
theorem oX12_fall_28 : okB mX12_fall 28 bX12_fall_28 = true := by decide +kernel
def bX12_fall_39 : List OP := [oi (.iload_n 3), oi (.bipush 10)]
theorem oX12_fall_39 : okB mX12_fall 39 bX12_fall_39 = true := by decide +kernel
theorem eX12_fall_42 : decode mX12_fall.2.1 42 = .ok (.if_icmp .ge 145, 3) := by decide +kernel
def bX12_fall_45 : List OP := [oi (.aload_n 0), (.getfield 68, 25, 12, 25, 2, 992), oi (.iload_n 3), oi .baload]
theorem oX12_fall_45 : okB mX12_fall 45 bX12_fall_45 = true := by decide +kernel
theorem eX12_fall_51 : decode mX12_fall.2.1 51 = .ok (.ifCond .ne 130, 3) := by decide +kernel
def bX12_fall_54 : List OP := [oi (.aload_n 0), (.getfield 62, 23, 12, 23, 2, 990), oi (.iload_n 3), oi .iaload, oi (.iload_n 1)]
theorem oX12_fall_54 : okB mX12_fall 54 bX12_fall_54 = true := by decide +kernel
theorem eX12_fall_61 : decode mX12_fall.2.1 61 = .ok (.if_icmp .ne 120, 3) := by decide +kernel
def bX12_fall_64 : List OP := [oi (.bipush (-6)), oi (.istore 4), oi (.iconst 0), oi (.istore 5)]
theorem oX12_fall_64 : okB mX12_fall 64 bX12_fall_64 = true := by decide +kernel
def bX12_fall_71 : List OP := [oi (.iload 5), oi (.iload_n 3)]
theorem oX12_fall_71 : okB mX12_fall 71 bX12_fall_71 = true := by decide +kernel
theorem eX12_fall_74 : decode mX12_fall.2.1 74 = .ok (.if_icmp .ge 87, 3) := by decide +kernel
def bX12_fall_77 : List OP := [oi (.aload_n 0), (.getfield 68, 25, 12, 25, 2, 992), oi (.iload 5), oi .baload]
theorem oX12_fall_77 : okB mX12_fall 77 bX12_fall_77 = true := by decide +kernel
theorem eX12_fall_84 : decode mX12_fall.2.1 84 = .ok (.ifCond .ne 34, 3) := by decide +kernel
def bX12_fall_87 : List OP := [oi (.aload_n 0), oi (.iload 5), oi (.iload_n 1)]
theorem oX12_fall_87 : okB mX12_fall 87 bX12_fall_87 = true := by decide +kernel
theorem eX12_fall_91 : decode mX12_fall.2.1 91 = .ok (.invokevirtual 211, 3) := by decide +kernel
theorem lX12_fall_91 : okL 1315 (.methodLink mX12_fall.1.cls 211 mX12_isBelow.1) = true := by decide +kernel
theorem eX12_fall_94 : decode mX12_fall.2.1 94 = .ok (.ifCond .ne 24, 3) := by decide +kernel
def bX12_fall_97 : List OP := [oi (.aload_n 0), oi (.iload 5), oi (.iload_n 3)]
theorem oX12_fall_97 : okB mX12_fall 97 bX12_fall_97 = true := by decide +kernel
theorem eX12_fall_101 : decode mX12_fall.2.1 101 = .ok (.invokevirtual 205, 3) := by decide +kernel
theorem lX12_fall_101 : okL 1299 (.methodLink mX12_fall.1.cls 205 mX12_hungOn.1) = true := by decide +kernel
def bX12_fall_104 : List OP := [oi (.aload_n 0), (.getfield 17, 3, 12, 3, 2, 970), oi (.bipush 6), oi .iaload]
theorem oX12_fall_104 : okB mX12_fall 104 bX12_fall_104 = true := by decide +kernel
theorem eX12_fall_111 : decode mX12_fall.2.1 111 = .ok (.if_icmp .ge 7, 3) := by decide +kernel
def bX12_fall_114 : List OP := [oi (.iconst 1), (.goto 4, 0, 0, 119, 0, 0)]
theorem oX12_fall_114 : okB mX12_fall 114 bX12_fall_114 = true := by decide +kernel
def bX12_fall_118 : List OP := [oi (.iconst 0)]
theorem oX12_fall_118 : okB mX12_fall 118 bX12_fall_118 = true := by decide +kernel
def bX12_fall_119 : List OP := [oi (.istore 6), oi (.iload 6)]
theorem oX12_fall_119 : okB mX12_fall 119 bX12_fall_119 = true := by decide +kernel
theorem eX12_fall_123 : decode mX12_fall.2.1 123 = .ok (.ifCond .eq 28, 3) := by decide +kernel
def bX12_fall_126 : List OP := [oi (.iload 4)]
theorem oX12_fall_126 : okB mX12_fall 126 bX12_fall_126 = true := by decide +kernel
theorem eX12_fall_128 : decode mX12_fall.2.1 128 = .ok (.ifCond .lt 18, 3) := by decide +kernel
def bX12_fall_131 : List OP := [oi (.aload_n 0), oi (.iload 5)]
theorem oX12_fall_131 : okB mX12_fall 131 bX12_fall_131 = true := by decide +kernel
theorem eX12_fall_134 : decode mX12_fall.2.1 134 = .ok (.invokevirtual 208, 3) := by decide +kernel
theorem lX12_fall_134 : okL 1307 (.methodLink mX12_fall.1.cls 208 mX12_behindOf.1) = true := by decide +kernel
def bX12_fall_137 : List OP := [oi (.aload_n 0), oi (.iload 4)]
theorem oX12_fall_137 : okB mX12_fall 137 bX12_fall_137 = true := by decide +kernel
theorem eX12_fall_140 : decode mX12_fall.2.1 140 = .ok (.invokevirtual 208, 3) := by decide +kernel
theorem lX12_fall_140 : okL 1307 (.methodLink mX12_fall.1.cls 208 mX12_behindOf.1) = true := by decide +kernel
theorem eX12_fall_143 : decode mX12_fall.2.1 143 = .ok (.if_icmp .ge 8, 3) := by decide +kernel
def bX12_fall_146 : List OP := [oi (.iload 5), (.goto 5, 0, 0, 153, 0, 0)]
theorem oX12_fall_146 : okB mX12_fall 146 bX12_fall_146 = true := by decide +kernel
def bX12_fall_151 : List OP := [oi (.iload 4)]
theorem oX12_fall_151 : okB mX12_fall 151 bX12_fall_151 = true := by decide +kernel
def bX12_fall_153 : List OP := [oi (.istore 4), oi (.iinc 5 1), (.goto (-87), 0, 0, 71, 0, 0)]
theorem oX12_fall_153 : okB mX12_fall 153 bX12_fall_153 = true := by decide +kernel
def bX12_fall_161 : List OP := [oi (.aload_n 0), (.getfield 62, 23, 12, 23, 2, 990), oi (.iload_n 3), oi (.iload 4)]
theorem oX12_fall_161 : okB mX12_fall 161 bX12_fall_161 = true := by decide +kernel
theorem eX12_fall_168 : decode mX12_fall.2.1 168 = .ok (.ifCond .ge 7, 3) := by decide +kernel
def bX12_fall_171 : List OP := [oi (.iconst 0), (.goto 5, 0, 0, 177, 0, 0)]
theorem oX12_fall_171 : okB mX12_fall 171 bX12_fall_171 = true := by decide +kernel
def bX12_fall_175 : List OP := [oi (.iload 4)]
theorem oX12_fall_175 : okB mX12_fall 175 bX12_fall_175 = true := by decide +kernel
def bX12_fall_177 : List OP := [oi .iastore, oi (.iinc 2 1)]
theorem oX12_fall_177 : okB mX12_fall 177 bX12_fall_177 = true := by decide +kernel
def bX12_fall_181 : List OP := [oi (.iinc 3 1), (.goto (-145), 0, 0, 39, 0, 0)]
theorem oX12_fall_181 : okB mX12_fall 181 bX12_fall_181 = true := by decide +kernel
def bX12_fall_187 : List OP := [oi (.iload_n 2)]
theorem oX12_fall_187 : okB mX12_fall 187 bX12_fall_187 = true := by decide +kernel
theorem eX12_fall_188 : decode mX12_fall.2.1 188 = .ok (.ireturn, 1) := by decide +kernel
def bX12_tree_0 : List OP := [oi (.iconst 0), oi (.istore_n 2), oi (.iload_n 1)]
theorem oX12_tree_0 : okB mX12_tree 0 bX12_tree_0 = true := by decide +kernel
theorem eX12_tree_3 : decode mX12_tree.2.1 3 = .ok (.ifCond .eq 8, 3) := by decide +kernel
def bX12_tree_6 : List OP := [oi (.iload_n 1), oi (.iconst 1)]
theorem oX12_tree_6 : okB mX12_tree 6 bX12_tree_6 = true := by decide +kernel
theorem eX12_tree_8 : decode mX12_tree.2.1 8 = .ok (.if_icmp .ne 56, 3) := by decide +kernel
def bX12_tree_11 : List OP := [oi (.iconst 0), oi (.istore_n 3)]
theorem oX12_tree_11 : okB mX12_tree 11 bX12_tree_11 = true := by decide +kernel
def bX12_tree_13 : List OP := [oi (.iload_n 3), oi (.bipush 10)]
theorem oX12_tree_13 : okB mX12_tree 13 bX12_tree_13 = true := by decide +kernel
theorem eX12_tree_16 : decode mX12_tree.2.1 16 = .ok (.if_icmp .ge 46, 3) := by decide +kernel
def bX12_tree_19 : List OP := [oi (.iload_n 2), oi (.aload_n 0), (.getfield 68, 25, 12, 25, 2, 992), oi (.iload_n 3), oi .baload]
theorem oX12_tree_19 : okB mX12_tree 19 bX12_tree_19 = true := by decide +kernel
theorem eX12_tree_26 : decode mX12_tree.2.1 26 = .ok (.ifCond .ne 27, 3) := by decide +kernel
def bX12_tree_29 : List OP := [oi (.iload_n 1)]
theorem oX12_tree_29 : okB mX12_tree 29 bX12_tree_29 = true := by decide +kernel
theorem eX12_tree_30 : decode mX12_tree.2.1 30 = .ok (.ifCond .eq 17, 3) := by decide +kernel
def bX12_tree_33 : List OP := [oi (.aload_n 0), oi (.iload_n 3)]
theorem oX12_tree_33 : okB mX12_tree 33 bX12_tree_33 = true := by decide +kernel
theorem eX12_tree_35 : decode mX12_tree.2.1 35 = .ok (.invokevirtual 208, 3) := by decide +kernel
theorem lX12_tree_35 : okL 1307 (.methodLink mX12_tree.1.cls 208 mX12_behindOf.1) = true := by decide +kernel
def bX12_tree_38 : List OP := [oi (.aload_n 0), (.getfield 17, 3, 12, 3, 2, 970), oi (.iconst 5), oi .iaload]
theorem oX12_tree_38 : okB mX12_tree 38 bX12_tree_38 = true := by decide +kernel
theorem eX12_tree_44 : decode mX12_tree.2.1 44 = .ok (.if_icmp .gt 9, 3) := by decide +kernel
def bX12_tree_47 : List OP := [oi (.iconst 1), oi (.iload_n 3), oi .ishl, (.goto 4, 0, 0, 54, 0, 0)]
theorem oX12_tree_47 : okB mX12_tree 47 bX12_tree_47 = true := by decide +kernel
def bX12_tree_53 : List OP := [oi (.iconst 0)]
theorem oX12_tree_53 : okB mX12_tree 53 bX12_tree_53 = true := by decide +kernel
def bX12_tree_54 : List OP := [oi .ior, oi (.istore_n 2), oi (.iinc 3 1), (.goto (-46), 0, 0, 13, 0, 0)]
theorem oX12_tree_54 : okB mX12_tree 54 bX12_tree_54 = true := by decide +kernel
def bX12_tree_62 : List OP := [oi (.iload_n 2)]
theorem oX12_tree_62 : okB mX12_tree 62 bX12_tree_62 = true := by decide +kernel
theorem eX12_tree_63 : decode mX12_tree.2.1 63 = .ok (.ireturn, 1) := by decide +kernel
def bX12_tree_64 : List OP := [oi (.iload_n 1), oi (.bipush 10), oi (.bipush 19)]
theorem oX12_tree_64 : okB mX12_tree 64 bX12_tree_64 = true := by decide +kernel
theorem eX12_tree_69 : decode mX12_tree.2.1 69 = .ok (.invokestatic 102, 3) := by decide +kernel
theorem lX12_tree_69 : okL 1091 (.methodLink mX12_tree.1.cls 102 mX12_in.1) = true := by decide +kernel
theorem eX12_tree_72 : decode mX12_tree.2.1 72 = .ok (.ifCond .ne 6, 3) := by decide +kernel
def bX12_tree_75 : List OP := [oi (.bipush (-2))]
theorem oX12_tree_75 : okB mX12_tree 75 bX12_tree_75 = true := by decide +kernel
theorem eX12_tree_77 : decode mX12_tree.2.1 77 = .ok (.ireturn, 1) := by decide +kernel
def bX12_tree_78 : List OP := [oi (.iload_n 1), oi (.bipush 10)]
theorem oX12_tree_78 : okB mX12_tree 78 bX12_tree_78 = true := by decide +kernel
theorem eX12_tree_81 : decode mX12_tree.2.1 81 = .ok (.if_icmp .eq 15, 3) := by decide +kernel
def bX12_tree_84 : List OP := [oi (.aload_n 0), (.getfield 68, 25, 12, 25, 2, 992), oi (.iload_n 1), oi (.bipush 10), oi .isub, oi .baload]
theorem oX12_tree_84 : okB mX12_tree 84 bX12_tree_84 = true := by decide +kernel
theorem eX12_tree_93 : decode mX12_tree.2.1 93 = .ok (.ifCond .eq 8, 3) := by decide +kernel
def bX12_tree_96 : List OP := [oi (.bipush (-6)), (.goto 12, 0, 0, 110, 0, 0)]
theorem oX12_tree_96 : okB mX12_tree 96 bX12_tree_96 = true := by decide +kernel
def bX12_tree_101 : List OP := [oi (.aload_n 0), (.getfield 62, 23, 12, 23, 2, 990), oi (.iload_n 1), oi (.bipush 10), oi .isub, oi .iaload]
theorem oX12_tree_101 : okB mX12_tree 101 bX12_tree_101 = true := by decide +kernel
theorem eX12_tree_110 : decode mX12_tree.2.1 110 = .ok (.ireturn, 1) := by decide +kernel
def bX12_told_0 : List OP := [oi (.iconst 0), oi (.istore_n 2), oi (.iconst 0), oi (.istore_n 3)]
theorem oX12_told_0 : okB mX12_told 0 bX12_told_0 = true := by decide +kernel
def bX12_told_4 : List OP := [oi (.iload_n 3), oi (.aload_n 0), (.getfield 99, 0, 12, 0, 0, 967)]
theorem oX12_told_4 : okB mX12_told 4 bX12_told_4 = true := by decide +kernel
theorem eX12_told_9 : decode mX12_told.2.1 9 = .ok (.if_icmp .ge 48, 3) := by decide +kernel
def bX12_told_12 : List OP := [oi (.iload_n 2), oi (.iload_n 1), oi (.iconst 1)]
theorem oX12_told_12 : okB mX12_told 12 bX12_told_12 = true := by decide +kernel
theorem eX12_told_15 : decode mX12_told.2.1 15 = .ok (.if_icmp .ne 14, 3) := by decide +kernel
def bX12_told_18 : List OP := [oi (.aload_n 0), oi (.iload_n 3)]
theorem oX12_told_18 : okB mX12_told 18 bX12_told_18 = true := by decide +kernel
theorem eX12_told_20 : decode mX12_told.2.1 20 = .ok (.invokevirtual 136, 3) := by decide +kernel
theorem lX12_told_20 : okL 1140 (.methodLink mX12_told.1.cls 136 mX12_isScene.1) = true := by decide +kernel
theorem eX12_told_23 : decode mX12_told.2.1 23 = .ok (.ifCond .eq 25, 3) := by decide +kernel
def bX12_told_26 : List OP := [(.goto 16, 0, 0, 42, 0, 0)]
theorem oX12_told_26 : okB mX12_told 26 bX12_told_26 = true := by decide +kernel
def bX12_told_29 : List OP := [oi (.iload_n 1), oi (.iconst 2)]
theorem oX12_told_29 : okB mX12_told 29 bX12_told_29 = true := by decide +kernel
theorem eX12_told_31 : decode mX12_told.2.1 31 = .ok (.if_icmp .ne 17, 3) := by decide +kernel
def bX12_told_34 : List OP := [oi (.aload_n 0), oi (.iload_n 3)]
theorem oX12_told_34 : okB mX12_told 34 bX12_told_34 = true := by decide +kernel
theorem eX12_told_36 : decode mX12_told.2.1 36 = .ok (.invokevirtual 139, 3) := by decide +kernel
theorem lX12_told_36 : okL 1144 (.methodLink mX12_told.1.cls 139 mX12_isStill.1) = true := by decide +kernel
theorem eX12_told_39 : decode mX12_told.2.1 39 = .ok (.ifCond .eq 9, 3) := by decide +kernel
def bX12_told_42 : List OP := [oi (.iconst 1), oi (.iload_n 3), oi .ishl, (.goto 4, 0, 0, 49, 0, 0)]
theorem oX12_told_42 : okB mX12_told 42 bX12_told_42 = true := by decide +kernel
def bX12_told_48 : List OP := [oi (.iconst 0)]
theorem oX12_told_48 : okB mX12_told 48 bX12_told_48 = true := by decide +kernel
def bX12_told_49 : List OP := [oi .ior, oi (.istore_n 2), oi (.iinc 3 1), (.goto (-50), 0, 0, 4, 0, 0)]
theorem oX12_told_49 : okB mX12_told 49 bX12_told_49 = true := by decide +kernel
def bX12_told_57 : List OP := [oi (.iload_n 1)]
theorem oX12_told_57 : okB mX12_told 57 bX12_told_57 = true := by decide +kernel
theorem eX12_told_58 : decode mX12_told.2.1 58 = .ok (.ifCond .ne 10, 3) := by decide +kernel
def bX12_told_61 : List OP := [oi (.aload_n 0), (.getfield 99, 0, 12, 0, 0, 967), (.goto 68, 0, 0, 133, 0, 0)]
theorem oX12_told_61 : okB mX12_told 61 bX12_told_61 = true := by decide +kernel
def bX12_told_68 : List OP := [oi (.iload_n 1), oi (.iconst 1)]
theorem oX12_told_68 : okB mX12_told 68 bX12_told_68 = true := by decide +kernel
theorem eX12_told_70 : decode mX12_told.2.1 70 = .ok (.if_icmp .eq 8, 3) := by decide +kernel
def bX12_told_73 : List OP := [oi (.iload_n 1), oi (.iconst 2)]
theorem oX12_told_73 : okB mX12_told 73 bX12_told_73 = true := by decide +kernel
theorem eX12_told_75 : decode mX12_told.2.1 75 = .ok (.if_icmp .ne 7, 3) := by decide +kernel
def bX12_told_78 : List OP := [oi (.iload_n 2), (.goto 54, 0, 0, 133, 0, 0)]
theorem oX12_told_78 : okB mX12_told 78 bX12_told_78 = true := by decide +kernel
def bX12_told_82 : List OP := [oi (.iload_n 1), oi (.iconst 3)]
theorem oX12_told_82 : okB mX12_told 82 bX12_told_82 = true := by decide +kernel
theorem eX12_told_84 : decode mX12_told.2.1 84 = .ok (.if_icmp .ne 10, 3) := by decide +kernel
def bX12_told_87 : List OP := [oi (.aload_n 0), (.getfield 142, 8, 12, 8, 0, 975), (.goto 42, 0, 0, 133, 0, 0)]
theorem oX12_told_87 : okB mX12_told 87 bX12_told_87 = true := by decide +kernel
def bX12_told_94 : List OP := [oi (.iload_n 1), oi (.iconst 4)]
theorem oX12_told_94 : okB mX12_told 94 bX12_told_94 = true := by decide +kernel
theorem eX12_told_96 : decode mX12_told.2.1 96 = .ok (.if_icmp .ne 10, 3) := by decide +kernel
def bX12_told_99 : List OP := [oi (.aload_n 0), (.getfield 186, 16, 12, 16, 0, 983), (.goto 30, 0, 0, 133, 0, 0)]
theorem oX12_told_99 : okB mX12_told 99 bX12_told_99 = true := by decide +kernel
def bX12_told_106 : List OP := [oi (.iload_n 1), oi (.iconst 5)]
theorem oX12_told_106 : okB mX12_told 106 bX12_told_106 = true := by decide +kernel
theorem eX12_told_108 : decode mX12_told.2.1 108 = .ok (.if_icmp .ne 10, 3) := by decide +kernel
def bX12_told_111 : List OP := [oi (.aload_n 0), (.getfield 92, 4, 12, 4, 0, 971), (.goto 18, 0, 0, 133, 0, 0)]
theorem oX12_told_111 : okB mX12_told 111 bX12_told_111 = true := by decide +kernel
def bX12_told_118 : List OP := [oi (.iload_n 1), oi (.bipush 6)]
theorem oX12_told_118 : okB mX12_told 118 bX12_told_118 = true := by decide +kernel
theorem eX12_told_121 : decode mX12_told.2.1 121 = .ok (.if_icmp .ne 10, 3) := by decide +kernel
def bX12_told_124 : List OP := [oi (.aload_n 0), (.getfield 96, 6, 12, 6, 0, 973), (.goto 5, 0, 0, 133, 0, 0)]
theorem oX12_told_124 : okB mX12_told 124 bX12_told_124 = true := by decide +kernel
def bX12_told_131 : List OP := [oi (.bipush (-2))]
theorem oX12_told_131 : okB mX12_told 131 bX12_told_131 = true := by decide +kernel
theorem eX12_told_133 : decode mX12_told.2.1 133 = .ok (.ireturn, 1) := by decide +kernel

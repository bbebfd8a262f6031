/-! ===== code as blocks ===== -/
def bX11_frame_0 : List OP := [oi (.aload_n 0), (.getfield 16, 1, 11, 1, 2, 370), (.getfield 83, 7, 3, 7, 0, 122), oi (.bipush 10)]
theorem oX11_frame_0 : okB mX11_frame 0 bX11_frame_0 = true := by decide +kernel
theorem eX11_frame_9 : decode mX11_frame.2.1 9 = .ok (.if_icmp .ne 6, 3) := by decide +kernel
def bX11_frame_12 : List OP := [oi (.bipush (-4))]
theorem oX11_frame_12 : okB mX11_frame 12 bX11_frame_12 = true := by decide +kernel
theorem eX11_frame_14 : decode mX11_frame.2.1 14 = .ok (.ireturn, 1) := by decide +kernel
def bX11_frame_15 : List OP := [oi (.aload_n 0), (.getfield 16, 1, 11, 1, 2, 370)]
theorem oX11_frame_15 : okB mX11_frame 15 bX11_frame_15 = true := by decide +kernel
theorem eX11_frame_19 : decode mX11_frame.2.1 19 = .ok (.invokevirtual 87, 3) := by decide +kernel
theorem lX11_frame_19 : okL 413 (.methodLink mX11_frame.1.cls 87 mX3_add.1) = true := by decide +kernel
theorem eX11_frame_22 : decode mX11_frame.2.1 22 = .ok (.ireturn, 1) := by decide +kernel
def bX11_dot_0 : List OP := [oi (.aload_n 0), (.getfield 16, 1, 11, 1, 2, 370), oi (.iload_n 1)]
theorem oX11_dot_0 : okB mX11_dot 0 bX11_dot_0 = true := by decide +kernel
theorem eX11_dot_5 : decode mX11_dot.2.1 5 = .ok (.invokevirtual 91, 3) := by decide +kernel
theorem lX11_dot_5 : okL 421 (.methodLink mX11_dot.1.cls 91 mX3_has.1) = true := by decide +kernel
theorem eX11_dot_8 : decode mX11_dot.2.1 8 = .ok (.ifCond .ne 5, 3) := by decide +kernel
def bX11_dot_11 : List OP := [oi (.iconst (-1))]
theorem oX11_dot_11 : okB mX11_dot 11 bX11_dot_11 = true := by decide +kernel
theorem eX11_dot_12 : decode mX11_dot.2.1 12 = .ok (.ireturn, 1) := by decide +kernel
def bX11_dot_13 : List OP := [oi (.iload_n 2), oi (.iconst 0), oi (.bipush 15)]
theorem oX11_dot_13 : okB mX11_dot 13 bX11_dot_13 = true := by decide +kernel
theorem eX11_dot_17 : decode mX11_dot.2.1 17 = .ok (.invokestatic 95, 3) := by decide +kernel
theorem lX11_dot_17 : okL 425 (.methodLink mX11_dot.1.cls 95 mX11_between.1) = true := by decide +kernel
theorem eX11_dot_20 : decode mX11_dot.2.1 20 = .ok (.ifCond .eq 13, 3) := by decide +kernel
def bX11_dot_23 : List OP := [oi (.iload_n 3), oi (.iconst 0), oi (.bipush 15)]
theorem oX11_dot_23 : okB mX11_dot 23 bX11_dot_23 = true := by decide +kernel
theorem eX11_dot_27 : decode mX11_dot.2.1 27 = .ok (.invokestatic 95, 3) := by decide +kernel
theorem lX11_dot_27 : okL 425 (.methodLink mX11_dot.1.cls 95 mX11_between.1) = true := by decide +kernel
theorem eX11_dot_30 : decode mX11_dot.2.1 30 = .ok (.ifCond .ne 6, 3) := by decide +kernel
def bX11_dot_33 : List OP := [oi (.bipush (-2))]
theorem oX11_dot_33 : okB mX11_dot 33 bX11_dot_33 = true := by decide +kernel
theorem eX11_dot_35 : decode mX11_dot.2.1 35 = .ok (.ireturn, 1) := by decide +kernel
def bX11_dot_36 : List OP := [oi (.aload_n 0), (.getfield 16, 1, 11, 1, 2, 370), oi (.iload_n 1), oi (.iload_n 2), oi (.iload_n 3)]
theorem oX11_dot_36 : okB mX11_dot 36 bX11_dot_36 = true := by decide +kernel
theorem eX11_dot_43 : decode mX11_dot.2.1 43 = .ok (.invokevirtual 99, 3) := by decide +kernel
theorem lX11_dot_43 : okL 428 (.methodLink mX11_dot.1.cls 99 mX3_changeDot.1) = true := by decide +kernel
theorem eX11_dot_46 : decode mX11_dot.2.1 46 = .ok (.ireturn, 1) := by decide +kernel
def bX11_key_0 : List OP := [oi (.aload_n 0), (.getfield 16, 1, 11, 1, 2, 370), oi (.iload_n 1)]
theorem oX11_key_0 : okB mX11_key 0 bX11_key_0 = true := by decide +kernel
theorem eX11_key_5 : decode mX11_key.2.1 5 = .ok (.invokevirtual 91, 3) := by decide +kernel
theorem lX11_key_5 : okL 421 (.methodLink mX11_key.1.cls 91 mX3_has.1) = true := by decide +kernel
theorem eX11_key_8 : decode mX11_key.2.1 8 = .ok (.ifCond .ne 5, 3) := by decide +kernel
def bX11_key_11 : List OP := [oi (.iconst (-1))]
theorem oX11_key_11 : okB mX11_key 11 bX11_key_11 = true := by decide +kernel
theorem eX11_key_12 : decode mX11_key.2.1 12 = .ok (.ireturn, 1) := by decide +kernel
def bX11_key_13 : List OP := [oi (.iload_n 1)]
theorem oX11_key_13 : okB mX11_key 13 bX11_key_13 = true := by decide +kernel
theorem eX11_key_14 : decode mX11_key.2.1 14 = .ok (.ifCond .ne 6, 3) := by decide +kernel
def bX11_key_17 : List OP := [oi (.bipush (-5))]
theorem oX11_key_17 : okB mX11_key 17 bX11_key_17 = true := by decide +kernel
theorem eX11_key_19 : decode mX11_key.2.1 19 = .ok (.ireturn, 1) := by decide +kernel
def bX11_key_20 : List OP := [oi (.aload_n 0), (.getfield 16, 1, 11, 1, 2, 370), oi (.iload_n 1), oi (.iload_n 2)]
theorem oX11_key_20 : okB mX11_key 20 bX11_key_20 = true := by decide +kernel
theorem eX11_key_26 : decode mX11_key.2.1 26 = .ok (.invokevirtual 103, 3) := by decide +kernel
theorem lX11_key_26 : okL 443 (.methodLink mX11_key.1.cls 103 mX3_changeKey.1) = true := by decide +kernel
theorem eX11_key_29 : decode mX11_key.2.1 29 = .ok (.ifCond .eq 7, 3) := by decide +kernel
def bX11_key_32 : List OP := [oi (.iconst 1), (.goto 4, 0, 0, 37, 0, 0)]
theorem oX11_key_32 : okB mX11_key 32 bX11_key_32 = true := by decide +kernel
def bX11_key_36 : List OP := [oi (.iconst 0)]
theorem oX11_key_36 : okB mX11_key 36 bX11_key_36 = true := by decide +kernel
theorem eX11_key_37 : decode mX11_key.2.1 37 = .ok (.ireturn, 1) := by decide +kernel
def bX11_set_0 : List OP := [oi (.iload_n 1), oi (.iconst 0), oi (.bipush 6)]
theorem oX11_set_0 : okB mX11_set 0 bX11_set_0 = true := by decide +kernel
theorem eX11_set_4 : decode mX11_set.2.1 4 = .ok (.invokestatic 95, 3) := by decide +kernel
theorem lX11_set_4 : okL 425 (.methodLink mX11_set.1.cls 95 mX11_between.1) = true := by decide +kernel
theorem eX11_set_7 : decode mX11_set.2.1 7 = .ok (.ifCond .eq 20, 3) := by decide +kernel
def bX11_set_10 : List OP := [oi (.iload_n 2), (.getstatic 107, 0, 0, 0, 0, 451), oi (.iload_n 1), oi .iaload, (.getstatic 110, 0, 1, 0, 0, 453), oi (.iload_n 1), oi .iaload]
theorem oX11_set_10 : okB mX11_set 10 bX11_set_10 = true := by decide +kernel
theorem eX11_set_21 : decode mX11_set.2.1 21 = .ok (.invokestatic 95, 3) := by decide +kernel
theorem lX11_set_21 : okL 425 (.methodLink mX11_set.1.cls 95 mX11_between.1) = true := by decide +kernel
theorem eX11_set_24 : decode mX11_set.2.1 24 = .ok (.ifCond .ne 6, 3) := by decide +kernel
def bX11_set_27 : List OP := [oi (.bipush (-2))]
theorem oX11_set_27 : okB mX11_set 27 bX11_set_27 = true := by decide +kernel
theorem eX11_set_29 : decode mX11_set.2.1 29 = .ok (.ireturn, 1) := by decide +kernel
def bX11_set_30 : List OP := [oi (.aload_n 0), (.getfield 7, 0, 11, 0, 2, 369), oi (.iload_n 1), oi .iaload, oi (.istore_n 3), oi (.aload_n 0), (.getfield 7, 0, 11, 0, 2, 369), oi (.iload_n 1), oi (.iload_n 2), oi .iastore, oi (.iload_n 1)]
theorem oX11_set_30 : okB mX11_set 30 bX11_set_30 = true := by decide +kernel
theorem eX11_set_45 : decode mX11_set.2.1 45 = .ok (.ifCond .ne 11, 3) := by decide +kernel
def bX11_set_48 : List OP := [oi (.aload_n 0), (.getfield 16, 1, 11, 1, 2, 370), oi (.iconst 0)]
theorem oX11_set_48 : okB mX11_set 48 bX11_set_48 = true := by decide +kernel
theorem eX11_set_53 : decode mX11_set.2.1 53 = .ok (.invokevirtual 113, 3) := by decide +kernel
theorem lX11_set_53 : okL 455 (.methodLink mX11_set.1.cls 113 mX3_forgetCutsFrom.1) = true := by decide +kernel
def bX11_set_56 : List OP := [oi (.iload_n 1), oi (.iconst 2)]
theorem oX11_set_56 : okB mX11_set 56 bX11_set_56 = true := by decide +kernel
theorem eX11_set_58 : decode mX11_set.2.1 58 = .ok (.if_icmp .ne 7, 3) := by decide +kernel
def bX11_set_61 : List OP := [oi (.aload_n 0)]
theorem oX11_set_61 : okB mX11_set 61 bX11_set_61 = true := by decide +kernel
theorem eX11_set_62 : decode mX11_set.2.1 62 = .ok (.invokevirtual 117, 3) := by decide +kernel
theorem lX11_set_62 : okL 456 (.methodLink mX11_set.1.cls 117 mX11_forgetShows.1) = true := by decide +kernel
def bX11_set_65 : List OP := [oi (.iload_n 3)]
theorem oX11_set_65 : okB mX11_set 65 bX11_set_65 = true := by decide +kernel
theorem eX11_set_66 : decode mX11_set.2.1 66 = .ok (.ireturn, 1) := by decide +kernel
def bX11_way_0 : List OP := [oi (.aload_n 0), (.getfield 16, 1, 11, 1, 2, 370), oi (.iload_n 1)]
theorem oX11_way_0 : okB mX11_way 0 bX11_way_0 = true := by decide +kernel
theorem eX11_way_5 : decode mX11_way.2.1 5 = .ok (.invokevirtual 91, 3) := by decide +kernel
theorem lX11_way_5 : okL 421 (.methodLink mX11_way.1.cls 91 mX3_has.1) = true := by decide +kernel
theorem eX11_way_8 : decode mX11_way.2.1 8 = .ok (.ifCond .eq 12, 3) := by decide +kernel
def bX11_way_11 : List OP := [oi (.iload_n 2), oi (.iconst 0), oi (.iconst 3)]
theorem oX11_way_11 : okB mX11_way 11 bX11_way_11 = true := by decide +kernel
theorem eX11_way_14 : decode mX11_way.2.1 14 = .ok (.invokestatic 95, 3) := by decide +kernel
theorem lX11_way_14 : okL 425 (.methodLink mX11_way.1.cls 95 mX11_between.1) = true := by decide +kernel
theorem eX11_way_17 : decode mX11_way.2.1 17 = .ok (.ifCond .ne 5, 3) := by decide +kernel
def bX11_way_20 : List OP := [oi (.iconst (-1))]
theorem oX11_way_20 : okB mX11_way 20 bX11_way_20 = true := by decide +kernel
theorem eX11_way_21 : decode mX11_way.2.1 21 = .ok (.ireturn, 1) := by decide +kernel
def bX11_way_22 : List OP := [oi (.aload_n 0), (.getfield 16, 1, 11, 1, 2, 370), oi (.iload_n 1), oi (.aload_n 0), (.getfield 7, 0, 11, 0, 2, 369), oi (.iconst 0), oi .iaload]
theorem oX11_way_22 : okB mX11_way 22 bX11_way_22 = true := by decide +kernel
theorem eX11_way_33 : decode mX11_way.2.1 33 = .ok (.invokevirtual 120, 3) := by decide +kernel
theorem lX11_way_33 : okL 464 (.methodLink mX11_way.1.cls 120 mX3_cutUpTo.1) = true := by decide +kernel
def bX11_way_36 : List OP := [oi (.aload_n 0), (.getfield 16, 1, 11, 1, 2, 370), (.getfield 124, 3, 3, 3, 2, 113), oi (.iload_n 1), oi (.iconst 4), oi .imul, oi (.iload_n 2), oi .iadd, oi .iaload]
theorem oX11_way_36 : okB mX11_way 36 bX11_way_36 = true := by decide +kernel
theorem eX11_way_49 : decode mX11_way.2.1 49 = .ok (.ireturn, 1) := by decide +kernel
def bX11_opened_0 : List OP := [oi (.aload_n 0), (.getfield 16, 1, 11, 1, 2, 370), oi (.iload_n 1)]
theorem oX11_opened_0 : okB mX11_opened 0 bX11_opened_0 = true := by decide +kernel
theorem eX11_opened_5 : decode mX11_opened.2.1 5 = .ok (.invokevirtual 91, 3) := by decide +kernel
theorem lX11_opened_5 : okL 421 (.methodLink mX11_opened.1.cls 91 mX3_has.1) = true := by decide +kernel
theorem eX11_opened_8 : decode mX11_opened.2.1 8 = .ok (.ifCond .ne 5, 3) := by decide +kernel
def bX11_opened_11 : List OP := [oi (.iconst (-1))]
theorem oX11_opened_11 : okB mX11_opened 11 bX11_opened_11 = true := by decide +kernel
theorem eX11_opened_12 : decode mX11_opened.2.1 12 = .ok (.ireturn, 1) := by decide +kernel
def bX11_opened_13 : List OP := [oi (.iload_n 2), oi (.iconst 0), oi (.bipush 15)]
theorem oX11_opened_13 : okB mX11_opened 13 bX11_opened_13 = true := by decide +kernel
theorem eX11_opened_17 : decode mX11_opened.2.1 17 = .ok (.invokestatic 95, 3) := by decide +kernel
theorem lX11_opened_17 : okL 425 (.methodLink mX11_opened.1.cls 95 mX11_between.1) = true := by decide +kernel
theorem eX11_opened_20 : decode mX11_opened.2.1 20 = .ok (.ifCond .ne 6, 3) := by decide +kernel
def bX11_opened_23 : List OP := [oi (.bipush (-2))]
theorem oX11_opened_23 : okB mX11_opened 23 bX11_opened_23 = true := by decide +kernel
theorem eX11_opened_25 : decode mX11_opened.2.1 25 = .ok (.ireturn, 1) := by decide +kernel
def bX11_opened_26 : List OP := [oi (.aload_n 0), (.getfield 16, 1, 11, 1, 2, 370), oi (.iload_n 1), oi (.aload_n 0), (.getfield 7, 0, 11, 0, 2, 369), oi (.iconst 0), oi .iaload]
theorem oX11_opened_26 : okB mX11_opened 26 bX11_opened_26 = true := by decide +kernel
theorem eX11_opened_37 : decode mX11_opened.2.1 37 = .ok (.invokevirtual 120, 3) := by decide +kernel
theorem lX11_opened_37 : okL 464 (.methodLink mX11_opened.1.cls 120 mX3_cutUpTo.1) = true := by decide +kernel
def bX11_opened_40 : List OP := [oi (.aload_n 0), (.getfield 16, 1, 11, 1, 2, 370), (.getfield 127, 1, 3, 1, 2, 109), oi (.iload_n 1), oi (.bipush 16), oi .imul, oi (.iload_n 2), oi .iadd, oi .iaload]
theorem oX11_opened_40 : okB mX11_opened 40 bX11_opened_40 = true := by decide +kernel
theorem eX11_opened_54 : decode mX11_opened.2.1 54 = .ok (.ireturn, 1) := by decide +kernel
def bX11_of_0 : List OP := [oi (.aload_n 0), (.getfield 16, 1, 11, 1, 2, 370), oi (.iload_n 1)]
theorem oX11_of_0 : okB mX11_of 0 bX11_of_0 = true := by decide +kernel
theorem eX11_of_5 : decode mX11_of.2.1 5 = .ok (.invokevirtual 91, 3) := by decide +kernel
theorem lX11_of_5 : okL 421 (.methodLink mX11_of.1.cls 91 mX3_has.1) = true := by decide +kernel
theorem eX11_of_8 : decode mX11_of.2.1 8 = .ok (.ifCond .ne 5, 3) := by decide +kernel
def bX11_of_11 : List OP := [oi (.iconst (-1))]
theorem oX11_of_11 : okB mX11_of 11 bX11_of_11 = true := by decide +kernel
theorem eX11_of_12 : decode mX11_of.2.1 12 = .ok (.ireturn, 1) := by decide +kernel
def bX11_of_13 : List OP := [oi (.iload_n 2)]
theorem oX11_of_13 : okB mX11_of 13 bX11_of_13 = true := by decide +kernel
theorem eX11_of_14 : decode mX11_of.2.1 14 = .ok (.tableswitch 131 0 4 #[34, 58, 82, 91, 114], 34) := by decide +kernel
def bX11_of_48 : List OP := [oi (.aload_n 0), (.getfield 16, 1, 11, 1, 2, 370), oi (.iload_n 1), oi (.aload_n 0), (.getfield 7, 0, 11, 0, 2, 369), oi (.iconst 0), oi .iaload]
theorem oX11_of_48 : okB mX11_of 48 bX11_of_48 = true := by decide +kernel
theorem eX11_of_59 : decode mX11_of.2.1 59 = .ok (.invokevirtual 120, 3) := by decide +kernel
theorem lX11_of_59 : okL 464 (.methodLink mX11_of.1.cls 120 mX3_cutUpTo.1) = true := by decide +kernel
def bX11_of_62 : List OP := [oi (.aload_n 0), (.getfield 16, 1, 11, 1, 2, 370), (.getfield 130, 4, 3, 4, 2, 116), oi (.iload_n 1), oi .iaload]
theorem oX11_of_62 : okB mX11_of 62 bX11_of_62 = true := by decide +kernel
theorem eX11_of_71 : decode mX11_of.2.1 71 = .ok (.ireturn, 1) := by decide +kernel
def bX11_of_72 : List OP := [oi (.aload_n 0), (.getfield 16, 1, 11, 1, 2, 370), oi (.iload_n 1), oi (.aload_n 0), (.getfield 7, 0, 11, 0, 2, 369), oi (.iconst 0), oi .iaload]
theorem oX11_of_72 : okB mX11_of 72 bX11_of_72 = true := by decide +kernel
theorem eX11_of_83 : decode mX11_of.2.1 83 = .ok (.invokevirtual 120, 3) := by decide +kernel
theorem lX11_of_83 : okL 464 (.methodLink mX11_of.1.cls 120 mX3_cutUpTo.1) = true := by decide +kernel
def bX11_of_86 : List OP := [oi (.aload_n 0), (.getfield 16, 1, 11, 1, 2, 370), (.getfield 133, 5, 3, 5, 2, 119), oi (.iload_n 1), oi .iaload]
theorem oX11_of_86 : okB mX11_of 86 bX11_of_86 = true := by decide +kernel
theorem eX11_of_95 : decode mX11_of.2.1 95 = .ok (.ireturn, 1) := by decide +kernel
def bX11_of_96 : List OP := [oi (.aload_n 0), (.getfield 16, 1, 11, 1, 2, 370), oi (.iload_n 1)]
theorem oX11_of_96 : okB mX11_of 96 bX11_of_96 = true := by decide +kernel
theorem eX11_of_101 : decode mX11_of.2.1 101 = .ok (.invokevirtual 136, 3) := by decide +kernel
theorem lX11_of_101 : okL 531 (.methodLink mX11_of.1.cls 136 mX3_unlike.1) = true := by decide +kernel
theorem eX11_of_104 : decode mX11_of.2.1 104 = .ok (.ireturn, 1) := by decide +kernel
def bX11_of_105 : List OP := [oi (.aload_n 0), (.getfield 16, 1, 11, 1, 2, 370), oi (.iload_n 1), oi (.aload_n 0), (.getfield 7, 0, 11, 0, 2, 369), oi (.iconst 1), oi .iaload]
theorem oX11_of_105 : okB mX11_of 105 bX11_of_105 = true := by decide +kernel
theorem eX11_of_116 : decode mX11_of.2.1 116 = .ok (.invokevirtual 140, 3) := by decide +kernel
theorem lX11_of_116 : okL 538 (.methodLink mX11_of.1.cls 140 mX3_isScene.1) = true := by decide +kernel
theorem eX11_of_119 : decode mX11_of.2.1 119 = .ok (.ifCond .eq 7, 3) := by decide +kernel
def bX11_of_122 : List OP := [oi (.iconst 1), (.goto 4, 0, 0, 127, 0, 0)]
theorem oX11_of_122 : okB mX11_of 122 bX11_of_122 = true := by decide +kernel
def bX11_of_126 : List OP := [oi (.iconst 0)]
theorem oX11_of_126 : okB mX11_of 126 bX11_of_126 = true := by decide +kernel
theorem eX11_of_127 : decode mX11_of.2.1 127 = .ok (.ireturn, 1) := by decide +kernel
def bX11_of_128 : List OP := [oi (.aload_n 0), (.getfield 16, 1, 11, 1, 2, 370), oi (.iload_n 1)]
theorem oX11_of_128 : okB mX11_of 128 bX11_of_128 = true := by decide +kernel
theorem eX11_of_133 : decode mX11_of.2.1 133 = .ok (.invokevirtual 144, 3) := by decide +kernel
theorem lX11_of_133 : okL 543 (.methodLink mX11_of.1.cls 144 mX3_isStill.1) = true := by decide +kernel
theorem eX11_of_136 : decode mX11_of.2.1 136 = .ok (.ifCond .eq 7, 3) := by decide +kernel
def bX11_of_139 : List OP := [oi (.iconst 1), (.goto 4, 0, 0, 144, 0, 0)]
theorem oX11_of_139 : okB mX11_of 139 bX11_of_139 = true := by decide +kernel
def bX11_of_143 : List OP := [oi (.iconst 0)]
theorem oX11_of_143 : okB mX11_of 143 bX11_of_143 = true := by decide +kernel
theorem eX11_of_144 : decode mX11_of.2.1 144 = .ok (.ireturn, 1) := by decide +kernel
def bX11_of_145 : List OP := [oi (.bipush (-2))]
theorem oX11_of_145 : okB mX11_of 145 bX11_of_145 = true := by decide +kernel
theorem eX11_of_147 : decode mX11_of.2.1 147 = .ok (.ireturn, 1) := by decide +kernel
def bX11_pieces_0 : List OP := [oi (.iload_n 1), oi (.iconst 1), oi (.bipush 8)]
theorem oX11_pieces_0 : okB mX11_pieces 0 bX11_pieces_0 = true := by decide +kernel
theorem eX11_pieces_4 : decode mX11_pieces.2.1 4 = .ok (.invokestatic 95, 3) := by decide +kernel
theorem lX11_pieces_4 : okL 425 (.methodLink mX11_pieces.1.cls 95 mX11_between.1) = true := by decide +kernel
theorem eX11_pieces_7 : decode mX11_pieces.2.1 7 = .ok (.ifCond .ne 6, 3) := by decide +kernel
def bX11_pieces_10 : List OP := [oi (.bipush (-2))]
theorem oX11_pieces_10 : okB mX11_pieces 10 bX11_pieces_10 = true := by decide +kernel
theorem eX11_pieces_12 : decode mX11_pieces.2.1 12 = .ok (.ireturn, 1) := by decide +kernel
def bX11_pieces_13 : List OP := [oi (.aload_n 0), (.getfield 23, 2, 11, 2, 2, 371), (.getfield 147, 2, 2, 2, 0, 157), oi (.istore_n 2), oi (.aload_n 0), (.getfield 23, 2, 11, 2, 2, 371), oi (.iload_n 1), (.putfield 147, 2, 2, 2, 0, 157), oi (.aload_n 0)]
theorem oX11_pieces_13 : okB mX11_pieces 13 bX11_pieces_13 = true := by decide +kernel
theorem eX11_pieces_30 : decode mX11_pieces.2.1 30 = .ok (.invokevirtual 117, 3) := by decide +kernel
theorem lX11_pieces_30 : okL 456 (.methodLink mX11_pieces.1.cls 117 mX11_forgetShows.1) = true := by decide +kernel
def bX11_pieces_33 : List OP := [oi (.iload_n 2)]
theorem oX11_pieces_33 : okB mX11_pieces 33 bX11_pieces_33 = true := by decide +kernel
theorem eX11_pieces_34 : decode mX11_pieces.2.1 34 = .ok (.ireturn, 1) := by decide +kernel
def bX11_bits_0 : List OP := [oi (.iload_n 1), oi (.iconst 0), oi (.bipush 7)]
theorem oX11_bits_0 : okB mX11_bits 0 bX11_bits_0 = true := by decide +kernel
theorem eX11_bits_4 : decode mX11_bits.2.1 4 = .ok (.invokestatic 95, 3) := by decide +kernel
theorem lX11_bits_4 : okL 425 (.methodLink mX11_bits.1.cls 95 mX11_between.1) = true := by decide +kernel
theorem eX11_bits_7 : decode mX11_bits.2.1 7 = .ok (.ifCond .ne 5, 3) := by decide +kernel
def bX11_bits_10 : List OP := [oi (.iconst (-1))]
theorem oX11_bits_10 : okB mX11_bits 10 bX11_bits_10 = true := by decide +kernel
theorem eX11_bits_11 : decode mX11_bits.2.1 11 = .ok (.ireturn, 1) := by decide +kernel
def bX11_bits_12 : List OP := [oi (.iload_n 2), oi (.iconst 0), oi (.iconst 2)]
theorem oX11_bits_12 : okB mX11_bits 12 bX11_bits_12 = true := by decide +kernel
theorem eX11_bits_15 : decode mX11_bits.2.1 15 = .ok (.invokestatic 95, 3) := by decide +kernel
theorem lX11_bits_15 : okL 425 (.methodLink mX11_bits.1.cls 95 mX11_between.1) = true := by decide +kernel
theorem eX11_bits_18 : decode mX11_bits.2.1 18 = .ok (.ifCond .eq 14, 3) := by decide +kernel
def bX11_bits_21 : List OP := [oi (.iload_n 3), oi (.iconst 1), oi (.sipush 1000)]
theorem oX11_bits_21 : okB mX11_bits 21 bX11_bits_21 = true := by decide +kernel
theorem eX11_bits_26 : decode mX11_bits.2.1 26 = .ok (.invokestatic 95, 3) := by decide +kernel
theorem lX11_bits_26 : okL 425 (.methodLink mX11_bits.1.cls 95 mX11_between.1) = true := by decide +kernel
theorem eX11_bits_29 : decode mX11_bits.2.1 29 = .ok (.ifCond .ne 6, 3) := by decide +kernel
def bX11_bits_32 : List OP := [oi (.bipush (-2))]
theorem oX11_bits_32 : okB mX11_bits 32 bX11_bits_32 = true := by decide +kernel
theorem eX11_bits_34 : decode mX11_bits.2.1 34 = .ok (.ireturn, 1) := by decide +kernel
def bX11_bits_35 : List OP := [oi (.aload_n 0)]
theorem oX11_bits_35 : okB mX11_bits 35 bX11_bits_35 = true := by decide +kernel
theorem eX11_bits_36 : decode mX11_bits.2.1 36 = .ok (.invokevirtual 117, 3) := by decide +kernel
theorem lX11_bits_36 : okL 456 (.methodLink mX11_bits.1.cls 117 mX11_forgetShows.1) = true := by decide +kernel
def bX11_bits_39 : List OP := [oi (.aload_n 0), (.getfield 23, 2, 11, 2, 2, 371), oi (.iload_n 1), oi (.iload_n 2), oi (.iload_n 3)]
theorem oX11_bits_39 : okB mX11_bits 39 bX11_bits_39 = true := by decide +kernel
theorem eX11_bits_46 : decode mX11_bits.2.1 46 = .ok (.invokevirtual 148, 3) := by decide +kernel
theorem lX11_bits_46 : okL 555 (.methodLink mX11_bits.1.cls 148 mX2_changeBits.1) = true := by decide +kernel
theorem eX11_bits_49 : decode mX11_bits.2.1 49 = .ok (.ireturn, 1) := by decide +kernel
def bX11_doors_0 : List OP := [oi (.iload_n 1), oi (.iconst 0), oi (.sipush 255)]
theorem oX11_doors_0 : okB mX11_doors 0 bX11_doors_0 = true := by decide +kernel
theorem eX11_doors_5 : decode mX11_doors.2.1 5 = .ok (.invokestatic 95, 3) := by decide +kernel
theorem lX11_doors_5 : okL 425 (.methodLink mX11_doors.1.cls 95 mX11_between.1) = true := by decide +kernel
theorem eX11_doors_8 : decode mX11_doors.2.1 8 = .ok (.ifCond .ne 6, 3) := by decide +kernel
def bX11_doors_11 : List OP := [oi (.bipush (-2))]
theorem oX11_doors_11 : okB mX11_doors 11 bX11_doors_11 = true := by decide +kernel
theorem eX11_doors_13 : decode mX11_doors.2.1 13 = .ok (.ireturn, 1) := by decide +kernel
def bX11_doors_14 : List OP := [oi (.aload_n 0), (.getfield 23, 2, 11, 2, 2, 371), (.getfield 151, 3, 2, 3, 0, 159), oi (.istore_n 2), oi (.aload_n 0), (.getfield 23, 2, 11, 2, 2, 371), oi (.iload_n 1), (.putfield 151, 3, 2, 3, 0, 159), oi (.aload_n 0)]
theorem oX11_doors_14 : okB mX11_doors 14 bX11_doors_14 = true := by decide +kernel
theorem eX11_doors_31 : decode mX11_doors.2.1 31 = .ok (.invokevirtual 117, 3) := by decide +kernel
theorem lX11_doors_31 : okL 456 (.methodLink mX11_doors.1.cls 117 mX11_forgetShows.1) = true := by decide +kernel
def bX11_doors_34 : List OP := [oi (.iload_n 2)]
theorem oX11_doors_34 : okB mX11_doors 34 bX11_doors_34 = true := by decide +kernel
theorem eX11_doors_35 : decode mX11_doors.2.1 35 = .ok (.ireturn, 1) := by decide +kernel
def bX11_line_0 : List OP := [oi (.iload_n 1), oi (.iconst 0), oi (.bipush 59)]
theorem oX11_line_0 : okB mX11_line 0 bX11_line_0 = true := by decide +kernel
theorem eX11_line_4 : decode mX11_line.2.1 4 = .ok (.invokestatic 95, 3) := by decide +kernel
theorem lX11_line_4 : okL 425 (.methodLink mX11_line.1.cls 95 mX11_between.1) = true := by decide +kernel
theorem eX11_line_7 : decode mX11_line.2.1 7 = .ok (.ifCond .eq 24, 3) := by decide +kernel
def bX11_line_10 : List OP := [oi (.iload_n 2), oi (.iload_n 1), oi (.bipush 59)]
theorem oX11_line_10 : okB mX11_line 10 bX11_line_10 = true := by decide +kernel
theorem eX11_line_14 : decode mX11_line.2.1 14 = .ok (.invokestatic 95, 3) := by decide +kernel
theorem lX11_line_14 : okL 425 (.methodLink mX11_line.1.cls 95 mX11_between.1) = true := by decide +kernel
theorem eX11_line_17 : decode mX11_line.2.1 17 = .ok (.ifCond .eq 14, 3) := by decide +kernel
def bX11_line_20 : List OP := [oi (.iload_n 3), oi (.iconst 0), oi (.sipush 1000)]
theorem oX11_line_20 : okB mX11_line 20 bX11_line_20 = true := by decide +kernel
theorem eX11_line_25 : decode mX11_line.2.1 25 = .ok (.invokestatic 95, 3) := by decide +kernel
theorem lX11_line_25 : okL 425 (.methodLink mX11_line.1.cls 95 mX11_between.1) = true := by decide +kernel
theorem eX11_line_28 : decode mX11_line.2.1 28 = .ok (.ifCond .ne 6, 3) := by decide +kernel
def bX11_line_31 : List OP := [oi (.bipush (-2))]
theorem oX11_line_31 : okB mX11_line 31 bX11_line_31 = true := by decide +kernel
theorem eX11_line_33 : decode mX11_line.2.1 33 = .ok (.ireturn, 1) := by decide +kernel
def bX11_line_34 : List OP := [oi (.aload_n 0), (.getfield 23, 2, 11, 2, 2, 371), oi (.iload_n 1), oi (.iload_n 2), oi (.iload_n 3)]
theorem oX11_line_34 : okB mX11_line 34 bX11_line_34 = true := by decide +kernel
theorem eX11_line_41 : decode mX11_line.2.1 41 = .ok (.invokevirtual 154, 3) := by decide +kernel
theorem lX11_line_41 : okL 567 (.methodLink mX11_line.1.cls 154 mX2_changeLine.1) = true := by decide +kernel
def bX11_line_44 : List OP := [oi (.aload_n 0)]
theorem oX11_line_44 : okB mX11_line 44 bX11_line_44 = true := by decide +kernel
theorem eX11_line_45 : decode mX11_line.2.1 45 = .ok (.invokevirtual 117, 3) := by decide +kernel
theorem lX11_line_45 : okL 456 (.methodLink mX11_line.1.cls 117 mX11_forgetShows.1) = true := by decide +kernel
def bX11_line_48 : List OP := [oi (.iconst 1)]
theorem oX11_line_48 : okB mX11_line 48 bX11_line_48 = true := by decide +kernel
theorem eX11_line_49 : decode mX11_line.2.1 49 = .ok (.ireturn, 1) := by decide +kernel
def bX11_say_0 : List OP := [oi (.iload_n 1), oi (.bipush 33), oi (.bipush 126)]
theorem oX11_say_0 : okB mX11_say 0 bX11_say_0 = true := by decide +kernel
theorem eX11_say_5 : decode mX11_say.2.1 5 = .ok (.invokestatic 95, 3) := by decide +kernel
theorem lX11_say_5 : okL 425 (.methodLink mX11_say.1.cls 95 mX11_between.1) = true := by decide +kernel
theorem eX11_say_8 : decode mX11_say.2.1 8 = .ok (.ifCond .ne 6, 3) := by decide +kernel
def bX11_say_11 : List OP := [oi (.bipush (-2))]
theorem oX11_say_11 : okB mX11_say 11 bX11_say_11 = true := by decide +kernel
theorem eX11_say_13 : decode mX11_say.2.1 13 = .ok (.ireturn, 1) := by decide +kernel
def bX11_say_14 : List OP := [oi (.aload_n 0), (.getfield 30, 3, 11, 3, 2, 372), (.getfield 158, 1, 8, 1, 0, 177), oi (.bipush 40)]
theorem oX11_say_14 : okB mX11_say 14 bX11_say_14 = true := by decide +kernel
theorem eX11_say_23 : decode mX11_say.2.1 23 = .ok (.if_icmp .ne 6, 3) := by decide +kernel
def bX11_say_26 : List OP := [oi (.bipush (-4))]
theorem oX11_say_26 : okB mX11_say 26 bX11_say_26 = true := by decide +kernel
theorem eX11_say_28 : decode mX11_say.2.1 28 = .ok (.ireturn, 1) := by decide +kernel
def bX11_say_29 : List OP := [oi (.aload_n 0), (.getfield 30, 3, 11, 3, 2, 372), oi (.iload_n 1)]
theorem oX11_say_29 : okB mX11_say 29 bX11_say_29 = true := by decide +kernel
theorem eX11_say_34 : decode mX11_say.2.1 34 = .ok (.invokevirtual 159, 3) := by decide +kernel
theorem lX11_say_34 : okL 575 (.methodLink mX11_say.1.cls 159 mX8_addSign.1) = true := by decide +kernel
theorem eX11_say_37 : decode mX11_say.2.1 37 = .ok (.ireturn, 1) := by decide +kernel
def bX11_wipe_0 : List OP := [oi (.aload_n 0), (.getfield 30, 3, 11, 3, 2, 372)]
theorem oX11_wipe_0 : okB mX11_wipe 0 bX11_wipe_0 = true := by decide +kernel
theorem eX11_wipe_4 : decode mX11_wipe.2.1 4 = .ok (.invokevirtual 162, 3) := by decide +kernel
theorem lX11_wipe_4 : okL 583 (.methodLink mX11_wipe.1.cls 162 mX8_dropSigns.1) = true := by decide +kernel
theorem eX11_wipe_7 : decode mX11_wipe.2.1 7 = .ok (.ireturn, 1) := by decide +kernel
def bX11_fault_0 : List OP := [oi (.aload_n 0), (.getfield 30, 3, 11, 3, 2, 372)]
theorem oX11_fault_0 : okB mX11_fault 0 bX11_fault_0 = true := by decide +kernel
theorem eX11_fault_4 : decode mX11_fault.2.1 4 = .ok (.invokevirtual 165, 3) := by decide +kernel
theorem lX11_fault_4 : okL 591 (.methodLink mX11_fault.1.cls 165 mX8_firstFault.1) = true := by decide +kernel
theorem eX11_fault_7 : decode mX11_fault.2.1 7 = .ok (.ireturn, 1) := by decide +kernel
def bX11_rule_0 : List OP := [oi (.aload_n 0), (.getfield 30, 3, 11, 3, 2, 372)]
theorem oX11_rule_0 : okB mX11_rule 0 bX11_rule_0 = true := by decide +kernel
theorem eX11_rule_4 : decode mX11_rule.2.1 4 = .ok (.invokevirtual 165, 3) := by decide +kernel
theorem lX11_rule_4 : okL 591 (.methodLink mX11_rule.1.cls 165 mX8_firstFault.1) = true := by decide +kernel
def bX11_rule_7 : List OP := [oi (.bipush (-6))]
theorem oX11_rule_7 : okB mX11_rule 7 bX11_rule_7 = true := by decide +kernel
theorem eX11_rule_9 : decode mX11_rule.2.1 9 = .ok (.if_icmp .eq 6, 3) := by decide +kernel
def bX11_rule_12 : List OP := [oi (.bipush (-5))]
theorem oX11_rule_12 : okB mX11_rule 12 bX11_rule_12 = true := by decide +kernel
theorem eX11_rule_14 : decode mX11_rule.2.1 14 = .ok (.ireturn, 1) := by decide +kernel
def bX11_rule_15 : List OP := [oi (.aload_n 0), (.getfield 30, 3, 11, 3, 2, 372)]
theorem oX11_rule_15 : okB mX11_rule 15 bX11_rule_15 = true := by decide +kernel
theorem eX11_rule_19 : decode mX11_rule.2.1 19 = .ok (.invokevirtual 168, 3) := by decide +kernel
theorem lX11_rule_19 : okL 611 (.methodLink mX11_rule.1.cls 168 mX8_adopt.1) = true := by decide +kernel
def bX11_rule_22 : List OP := [oi (.aload_n 0), oi (.iconst 0), (.putfield 171, 11, 11, 11, 1, 380), oi (.iconst 1)]
theorem oX11_rule_22 : okB mX11_rule 22 bX11_rule_22 = true := by decide +kernel
theorem eX11_rule_28 : decode mX11_rule.2.1 28 = .ok (.ireturn, 1) := by decide +kernel
def bX11_show_0 : List OP := [oi (.iload_n 1)]
theorem oX11_show_0 : okB mX11_show 0 bX11_show_0 = true := by decide +kernel
theorem eX11_show_1 : decode mX11_show.2.1 1 = .ok (.invokestatic 175, 3) := by decide +kernel
theorem lX11_show_1 : okL 623 (.methodLink mX11_show.1.cls 175 mX9_tells.1) = true := by decide +kernel
theorem eX11_show_4 : decode mX11_show.2.1 4 = .ok (.ifCond .ne 6, 3) := by decide +kernel
def bX11_show_7 : List OP := [oi (.bipush (-2))]
theorem oX11_show_7 : okB mX11_show 7 bX11_show_7 = true := by decide +kernel
theorem eX11_show_9 : decode mX11_show.2.1 9 = .ok (.ireturn, 1) := by decide +kernel
def bX11_show_10 : List OP := [oi (.aload_n 0), (.getfield 171, 11, 11, 11, 1, 380)]
theorem oX11_show_10 : okB mX11_show 10 bX11_show_10 = true := by decide +kernel
theorem eX11_show_14 : decode mX11_show.2.1 14 = .ok (.ifCond .ne 29, 3) := by decide +kernel
def bX11_show_17 : List OP := [oi (.aload_n 0), (.getfield 37, 4, 11, 4, 2, 373), oi (.aload_n 0), (.getfield 23, 2, 11, 2, 2, 371), oi (.aload_n 0), (.getfield 30, 3, 11, 3, 2, 372), oi (.aload_n 0), (.getfield 7, 0, 11, 0, 2, 369), oi (.iconst 2), oi .iaload]
theorem oX11_show_17 : okB mX11_show 17 bX11_show_17 = true := by decide +kernel
theorem eX11_show_35 : decode mX11_show.2.1 35 = .ok (.invokevirtual 178, 3) := by decide +kernel
theorem lX11_show_35 : okL 626 (.methodLink mX11_show.1.cls 178 mX9_run.1) = true := by decide +kernel
def bX11_show_38 : List OP := [oi (.aload_n 0), oi (.iconst 1), (.putfield 171, 11, 11, 11, 1, 380)]
theorem oX11_show_38 : okB mX11_show 38 bX11_show_38 = true := by decide +kernel
def bX11_show_43 : List OP := [oi (.aload_n 0), (.getfield 37, 4, 11, 4, 2, 373), oi (.iload_n 1)]
theorem oX11_show_43 : okB mX11_show 43 bX11_show_43 = true := by decide +kernel
theorem eX11_show_48 : decode mX11_show.2.1 48 = .ok (.invokevirtual 182, 3) := by decide +kernel
theorem lX11_show_48 : okL 659 (.methodLink mX11_show.1.cls 182 mX9_answer.1) = true := by decide +kernel
theorem eX11_show_51 : decode mX11_show.2.1 51 = .ok (.ireturn, 1) := by decide +kernel
def bX11_best_0 : List OP := [oi (.iload_n 1)]
theorem oX11_best_0 : okB mX11_best 0 bX11_best_0 = true := by decide +kernel
theorem eX11_best_1 : decode mX11_best.2.1 1 = .ok (.invokestatic 175, 3) := by decide +kernel
theorem lX11_best_1 : okL 623 (.methodLink mX11_best.1.cls 175 mX9_tells.1) = true := by decide +kernel
theorem eX11_best_4 : decode mX11_best.2.1 4 = .ok (.ifCond .ne 6, 3) := by decide +kernel
def bX11_best_7 : List OP := [oi (.bipush (-2))]
theorem oX11_best_7 : okB mX11_best 7 bX11_best_7 = true := by decide +kernel
theorem eX11_best_9 : decode mX11_best.2.1 9 = .ok (.ireturn, 1) := by decide +kernel
def bX11_best_10 : List OP := [oi (.aload_n 0), (.getfield 185, 12, 11, 12, 1, 381)]
theorem oX11_best_10 : okB mX11_best 10 bX11_best_10 = true := by decide +kernel
theorem eX11_best_14 : decode mX11_best.2.1 14 = .ok (.ifCond .ne 25, 3) := by decide +kernel
def bX11_best_17 : List OP := [oi (.aload_n 0), (.getfield 44, 5, 11, 5, 2, 374), oi (.aload_n 0), (.getfield 23, 2, 11, 2, 2, 371), oi (.aload_n 0), (.getfield 7, 0, 11, 0, 2, 369), oi (.iconst 2), oi .iaload]
theorem oX11_best_17 : okB mX11_best 17 bX11_best_17 = true := by decide +kernel
theorem eX11_best_31 : decode mX11_best.2.1 31 = .ok (.invokevirtual 188, 3) := by decide +kernel
theorem lX11_best_31 : okL 668 (.methodLink mX11_best.1.cls 188 mX0_seek.1) = true := by decide +kernel
def bX11_best_34 : List OP := [oi (.aload_n 0), oi (.iconst 1), (.putfield 185, 12, 11, 12, 1, 381)]
theorem oX11_best_34 : okB mX11_best 34 bX11_best_34 = true := by decide +kernel
def bX11_best_39 : List OP := [oi (.aload_n 0), (.getfield 44, 5, 11, 5, 2, 374), (.getfield 192, 0, 0, 0, 2, 243), oi (.iload_n 1)]
theorem oX11_best_39 : okB mX11_best 39 bX11_best_39 = true := by decide +kernel
theorem eX11_best_47 : decode mX11_best.2.1 47 = .ok (.invokevirtual 182, 3) := by decide +kernel
theorem lX11_best_47 : okL 659 (.methodLink mX11_best.1.cls 182 mX9_answer.1) = true := by decide +kernel
theorem eX11_best_50 : decode mX11_best.2.1 50 = .ok (.ireturn, 1) := by decide +kernel
def bX11_town_0 : List OP := [oi (.iload_n 1), oi (.iconst 0), oi (.iconst 3)]
theorem oX11_town_0 : okB mX11_town 0 bX11_town_0 = true := by decide +kernel
theorem eX11_town_3 : decode mX11_town.2.1 3 = .ok (.invokestatic 95, 3) := by decide +kernel
theorem lX11_town_3 : okL 425 (.methodLink mX11_town.1.cls 95 mX11_between.1) = true := by decide +kernel
theorem eX11_town_6 : decode mX11_town.2.1 6 = .ok (.ifCond .ne 5, 3) := by decide +kernel
def bX11_town_9 : List OP := [oi (.iconst (-1))]
theorem oX11_town_9 : okB mX11_town 9 bX11_town_9 = true := by decide +kernel
theorem eX11_town_10 : decode mX11_town.2.1 10 = .ok (.ireturn, 1) := by decide +kernel
def bX11_town_11 : List OP := [oi (.iload_n 2), oi (.iconst 0), oi (.iconst 1)]
theorem oX11_town_11 : okB mX11_town 11 bX11_town_11 = true := by decide +kernel
theorem eX11_town_14 : decode mX11_town.2.1 14 = .ok (.invokestatic 95, 3) := by decide +kernel
theorem lX11_town_14 : okL 425 (.methodLink mX11_town.1.cls 95 mX11_between.1) = true := by decide +kernel
theorem eX11_town_17 : decode mX11_town.2.1 17 = .ok (.ifCond .eq 13, 3) := by decide +kernel
def bX11_town_20 : List OP := [oi (.iload_n 3), oi (.iconst 0), oi (.bipush 100)]
theorem oX11_town_20 : okB mX11_town 20 bX11_town_20 = true := by decide +kernel
theorem eX11_town_24 : decode mX11_town.2.1 24 = .ok (.invokestatic 95, 3) := by decide +kernel
theorem lX11_town_24 : okL 425 (.methodLink mX11_town.1.cls 95 mX11_between.1) = true := by decide +kernel
theorem eX11_town_27 : decode mX11_town.2.1 27 = .ok (.ifCond .ne 6, 3) := by decide +kernel
def bX11_town_30 : List OP := [oi (.bipush (-2))]
theorem oX11_town_30 : okB mX11_town 30 bX11_town_30 = true := by decide +kernel
theorem eX11_town_32 : decode mX11_town.2.1 32 = .ok (.ireturn, 1) := by decide +kernel
def bX11_town_33 : List OP := [oi (.iload_n 2)]
theorem oX11_town_33 : okB mX11_town 33 bX11_town_33 = true := by decide +kernel
theorem eX11_town_34 : decode mX11_town.2.1 34 = .ok (.ifCond .ne 15, 3) := by decide +kernel
def bX11_town_37 : List OP := [oi (.aload_n 0), (.getfield 51, 6, 11, 6, 2, 375), oi (.iload_n 1), oi (.iload_n 3)]
theorem oX11_town_37 : okB mX11_town 37 bX11_town_37 = true := by decide +kernel
theorem eX11_town_43 : decode mX11_town.2.1 43 = .ok (.invokevirtual 195, 3) := by decide +kernel
theorem lX11_town_43 : okL 713 (.methodLink mX11_town.1.cls 195 mX10_changeRoom.1) = true := by decide +kernel
def bX11_town_46 : List OP := [(.goto 12, 0, 0, 58, 0, 0)]
theorem oX11_town_46 : okB mX11_town 46 bX11_town_46 = true := by decide +kernel
def bX11_town_49 : List OP := [oi (.aload_n 0), (.getfield 51, 6, 11, 6, 2, 375), oi (.iload_n 1), oi (.iload_n 3)]
theorem oX11_town_49 : okB mX11_town 49 bX11_town_49 = true := by decide +kernel
theorem eX11_town_55 : decode mX11_town.2.1 55 = .ok (.invokevirtual 199, 3) := by decide +kernel
theorem lX11_town_55 : okL 717 (.methodLink mX11_town.1.cls 199 mX10_changeFar.1) = true := by decide +kernel
theorem eX11_town_58 : decode mX11_town.2.1 58 = .ok (.ireturn, 1) := by decide +kernel
def bX11_weight_0 : List OP := [oi (.iload_n 1)]
theorem oX11_weight_0 : okB mX11_weight 0 bX11_weight_0 = true := by decide +kernel
theorem eX11_weight_1 : decode mX11_weight.2.1 1 = .ok (.invokestatic 202, 3) := by decide +kernel
theorem lX11_weight_1 : okL 725 (.methodLink mX11_weight.1.cls 202 mX11_isFilm.1) = true := by decide +kernel
theorem eX11_weight_4 : decode mX11_weight.2.1 4 = .ok (.ifCond .ne 5, 3) := by decide +kernel
def bX11_weight_7 : List OP := [oi (.iconst (-1))]
theorem oX11_weight_7 : okB mX11_weight 7 bX11_weight_7 = true := by decide +kernel
theorem eX11_weight_8 : decode mX11_weight.2.1 8 = .ok (.ireturn, 1) := by decide +kernel
def bX11_weight_9 : List OP := [oi (.iload_n 2), oi (.iconst 1), oi (.bipush 50)]
theorem oX11_weight_9 : okB mX11_weight 9 bX11_weight_9 = true := by decide +kernel
theorem eX11_weight_13 : decode mX11_weight.2.1 13 = .ok (.invokestatic 95, 3) := by decide +kernel
theorem lX11_weight_13 : okL 425 (.methodLink mX11_weight.1.cls 95 mX11_between.1) = true := by decide +kernel
theorem eX11_weight_16 : decode mX11_weight.2.1 16 = .ok (.ifCond .ne 6, 3) := by decide +kernel
def bX11_weight_19 : List OP := [oi (.bipush (-2))]
theorem oX11_weight_19 : okB mX11_weight 19 bX11_weight_19 = true := by decide +kernel
theorem eX11_weight_21 : decode mX11_weight.2.1 21 = .ok (.ireturn, 1) := by decide +kernel
def bX11_weight_22 : List OP := [oi (.aload_n 0), (.getfield 51, 6, 11, 6, 2, 375), oi (.iload_n 1), oi (.iload_n 2)]
theorem oX11_weight_22 : okB mX11_weight 22 bX11_weight_22 = true := by decide +kernel
theorem eX11_weight_28 : decode mX11_weight.2.1 28 = .ok (.invokevirtual 205, 3) := by decide +kernel
theorem lX11_weight_28 : okL 728 (.methodLink mX11_weight.1.cls 205 mX10_changeWeight.1) = true := by decide +kernel
theorem eX11_weight_31 : decode mX11_weight.2.1 31 = .ok (.ireturn, 1) := by decide +kernel
def bX11_ask_0 : List OP := [oi (.iload_n 1), oi (.iconst 0), oi (.iconst 3)]
theorem oX11_ask_0 : okB mX11_ask 0 bX11_ask_0 = true := by decide +kernel
theorem eX11_ask_3 : decode mX11_ask.2.1 3 = .ok (.invokestatic 95, 3) := by decide +kernel
theorem lX11_ask_3 : okL 425 (.methodLink mX11_ask.1.cls 95 mX11_between.1) = true := by decide +kernel
theorem eX11_ask_6 : decode mX11_ask.2.1 6 = .ok (.ifCond .eq 10, 3) := by decide +kernel
def bX11_ask_9 : List OP := [oi (.iload_n 2)]
theorem oX11_ask_9 : okB mX11_ask 9 bX11_ask_9 = true := by decide +kernel
theorem eX11_ask_10 : decode mX11_ask.2.1 10 = .ok (.invokestatic 202, 3) := by decide +kernel
theorem lX11_ask_10 : okL 725 (.methodLink mX11_ask.1.cls 202 mX11_isFilm.1) = true := by decide +kernel
theorem eX11_ask_13 : decode mX11_ask.2.1 13 = .ok (.ifCond .ne 5, 3) := by decide +kernel
def bX11_ask_16 : List OP := [oi (.iconst (-1))]
theorem oX11_ask_16 : okB mX11_ask 16 bX11_ask_16 = true := by decide +kernel
theorem eX11_ask_17 : decode mX11_ask.2.1 17 = .ok (.ireturn, 1) := by decide +kernel
def bX11_ask_18 : List OP := [oi (.iload_n 3), oi (.iconst 0), oi (.sipush 1000)]
theorem oX11_ask_18 : okB mX11_ask 18 bX11_ask_18 = true := by decide +kernel
theorem eX11_ask_23 : decode mX11_ask.2.1 23 = .ok (.invokestatic 95, 3) := by decide +kernel
theorem lX11_ask_23 : okL 425 (.methodLink mX11_ask.1.cls 95 mX11_between.1) = true := by decide +kernel
theorem eX11_ask_26 : decode mX11_ask.2.1 26 = .ok (.ifCond .ne 6, 3) := by decide +kernel
def bX11_ask_29 : List OP := [oi (.bipush (-2))]
theorem oX11_ask_29 : okB mX11_ask 29 bX11_ask_29 = true := by decide +kernel
theorem eX11_ask_31 : decode mX11_ask.2.1 31 = .ok (.ireturn, 1) := by decide +kernel
def bX11_ask_32 : List OP := [oi (.aload_n 0), (.getfield 51, 6, 11, 6, 2, 375), oi (.iload_n 1), oi (.iload_n 2), oi (.iload_n 3)]
theorem oX11_ask_32 : okB mX11_ask 32 bX11_ask_32 = true := by decide +kernel
theorem eX11_ask_39 : decode mX11_ask.2.1 39 = .ok (.invokevirtual 208, 3) := by decide +kernel
theorem lX11_ask_39 : okL 736 (.methodLink mX11_ask.1.cls 208 mX10_changeAsks.1) = true := by decide +kernel
theorem eX11_ask_42 : decode mX11_ask.2.1 42 = .ok (.ireturn, 1) := by decide +kernel
def bX11_kept_0 : List OP := [oi (.iload_n 1), oi (.iconst 0), oi (.iconst 3)]
theorem oX11_kept_0 : okB mX11_kept 0 bX11_kept_0 = true := by decide +kernel
theorem eX11_kept_3 : decode mX11_kept.2.1 3 = .ok (.invokestatic 95, 3) := by decide +kernel
theorem lX11_kept_3 : okL 425 (.methodLink mX11_kept.1.cls 95 mX11_between.1) = true := by decide +kernel
theorem eX11_kept_6 : decode mX11_kept.2.1 6 = .ok (.ifCond .ne 5, 3) := by decide +kernel
def bX11_kept_9 : List OP := [oi (.iconst (-1))]
theorem oX11_kept_9 : okB mX11_kept 9 bX11_kept_9 = true := by decide +kernel
theorem eX11_kept_10 : decode mX11_kept.2.1 10 = .ok (.ireturn, 1) := by decide +kernel
def bX11_kept_11 : List OP := [oi (.iload_n 2), oi (.iconst 0), oi (.iconst 1)]
theorem oX11_kept_11 : okB mX11_kept 11 bX11_kept_11 = true := by decide +kernel
theorem eX11_kept_14 : decode mX11_kept.2.1 14 = .ok (.invokestatic 95, 3) := by decide +kernel
theorem lX11_kept_14 : okL 425 (.methodLink mX11_kept.1.cls 95 mX11_between.1) = true := by decide +kernel
theorem eX11_kept_17 : decode mX11_kept.2.1 17 = .ok (.ifCond .ne 6, 3) := by decide +kernel
def bX11_kept_20 : List OP := [oi (.bipush (-2))]
theorem oX11_kept_20 : okB mX11_kept 20 bX11_kept_20 = true := by decide +kernel
theorem eX11_kept_22 : decode mX11_kept.2.1 22 = .ok (.ireturn, 1) := by decide +kernel
def bX11_kept_23 : List OP := [oi (.aload_n 0), (.getfield 51, 6, 11, 6, 2, 375), oi (.iload_n 1)]
theorem oX11_kept_23 : okB mX11_kept 23 bX11_kept_23 = true := by decide +kernel
theorem eX11_kept_28 : decode mX11_kept.2.1 28 = .ok (.invokevirtual 211, 3) := by decide +kernel
theorem lX11_kept_28 : okL 744 (.methodLink mX11_kept.1.cls 211 mX10_bestFilms.1) = true := by decide +kernel
def bX11_kept_31 : List OP := [oi (.istore_n 3), oi (.iload_n 2)]
theorem oX11_kept_31 : okB mX11_kept 31 bX11_kept_31 = true := by decide +kernel
theorem eX11_kept_33 : decode mX11_kept.2.1 33 = .ok (.ifCond .ne 7, 3) := by decide +kernel
def bX11_kept_36 : List OP := [oi (.iload_n 3), (.goto 12, 0, 0, 49, 0, 0)]
theorem oX11_kept_36 : okB mX11_kept 36 bX11_kept_36 = true := by decide +kernel
def bX11_kept_40 : List OP := [oi (.aload_n 0), (.getfield 51, 6, 11, 6, 2, 375), oi (.iload_n 1), oi (.iload_n 3)]
theorem oX11_kept_40 : okB mX11_kept 40 bX11_kept_40 = true := by decide +kernel
theorem eX11_kept_46 : decode mX11_kept.2.1 46 = .ok (.invokevirtual 214, 3) := by decide +kernel
theorem lX11_kept_46 : okL 756 (.methodLink mX11_kept.1.cls 214 mX10_costOf.1) = true := by decide +kernel
theorem eX11_kept_49 : decode mX11_kept.2.1 49 = .ok (.ireturn, 1) := by decide +kernel
def bX11_right_0 : List OP := [oi (.iload_n 1)]
theorem oX11_right_0 : okB mX11_right 0 bX11_right_0 = true := by decide +kernel
theorem eX11_right_1 : decode mX11_right.2.1 1 = .ok (.invokestatic 202, 3) := by decide +kernel
theorem lX11_right_1 : okL 725 (.methodLink mX11_right.1.cls 202 mX11_isFilm.1) = true := by decide +kernel
theorem eX11_right_4 : decode mX11_right.2.1 4 = .ok (.ifCond .eq 12, 3) := by decide +kernel
def bX11_right_7 : List OP := [oi (.iload_n 2), oi (.iconst 0), oi (.iconst 3)]
theorem oX11_right_7 : okB mX11_right 7 bX11_right_7 = true := by decide +kernel
theorem eX11_right_10 : decode mX11_right.2.1 10 = .ok (.invokestatic 95, 3) := by decide +kernel
theorem lX11_right_10 : okL 425 (.methodLink mX11_right.1.cls 95 mX11_between.1) = true := by decide +kernel
theorem eX11_right_13 : decode mX11_right.2.1 13 = .ok (.ifCond .ne 5, 3) := by decide +kernel
def bX11_right_16 : List OP := [oi (.iconst (-1))]
theorem oX11_right_16 : okB mX11_right 16 bX11_right_16 = true := by decide +kernel
theorem eX11_right_17 : decode mX11_right.2.1 17 = .ok (.ireturn, 1) := by decide +kernel
def bX11_right_18 : List OP := [oi (.iload_n 3), oi (.iconst 0), oi (.sipush 999)]
theorem oX11_right_18 : okB mX11_right 18 bX11_right_18 = true := by decide +kernel
theorem eX11_right_23 : decode mX11_right.2.1 23 = .ok (.invokestatic 95, 3) := by decide +kernel
theorem lX11_right_23 : okL 425 (.methodLink mX11_right.1.cls 95 mX11_between.1) = true := by decide +kernel
theorem eX11_right_26 : decode mX11_right.2.1 26 = .ok (.ifCond .eq 26, 3) := by decide +kernel
def bX11_right_29 : List OP := [oi (.iload 4), oi (.iload_n 3), oi (.sipush 999)]
theorem oX11_right_29 : okB mX11_right 29 bX11_right_29 = true := by decide +kernel
theorem eX11_right_35 : decode mX11_right.2.1 35 = .ok (.invokestatic 95, 3) := by decide +kernel
theorem lX11_right_35 : okL 425 (.methodLink mX11_right.1.cls 95 mX11_between.1) = true := by decide +kernel
theorem eX11_right_38 : decode mX11_right.2.1 38 = .ok (.ifCond .eq 14, 3) := by decide +kernel
def bX11_right_41 : List OP := [oi (.iload 5), oi (.iconst 1), oi (.bipush 20)]
theorem oX11_right_41 : okB mX11_right 41 bX11_right_41 = true := by decide +kernel
theorem eX11_right_46 : decode mX11_right.2.1 46 = .ok (.invokestatic 95, 3) := by decide +kernel
theorem lX11_right_46 : okL 425 (.methodLink mX11_right.1.cls 95 mX11_between.1) = true := by decide +kernel
theorem eX11_right_49 : decode mX11_right.2.1 49 = .ok (.ifCond .ne 6, 3) := by decide +kernel
def bX11_right_52 : List OP := [oi (.bipush (-2))]
theorem oX11_right_52 : okB mX11_right 52 bX11_right_52 = true := by decide +kernel
theorem eX11_right_54 : decode mX11_right.2.1 54 = .ok (.ireturn, 1) := by decide +kernel
def bX11_right_55 : List OP := [oi (.aload_n 0), (.getfield 58, 7, 11, 7, 2, 376), (.getfield 217, 5, 7, 5, 0, 308), oi (.bipush 12)]
theorem oX11_right_55 : okB mX11_right 55 bX11_right_55 = true := by decide +kernel
theorem eX11_right_64 : decode mX11_right.2.1 64 = .ok (.if_icmp .ne 6, 3) := by decide +kernel
def bX11_right_67 : List OP := [oi (.bipush (-4))]
theorem oX11_right_67 : okB mX11_right 67 bX11_right_67 = true := by decide +kernel
theorem eX11_right_69 : decode mX11_right.2.1 69 = .ok (.ireturn, 1) := by decide +kernel
def bX11_right_70 : List OP := [oi (.aload_n 0), (.getfield 58, 7, 11, 7, 2, 376), oi (.iload_n 1), oi (.iload_n 2), oi (.iload_n 3), oi (.iload 4), oi (.iload 5)]
theorem oX11_right_70 : okB mX11_right 70 bX11_right_70 = true := by decide +kernel
theorem eX11_right_81 : decode mX11_right.2.1 81 = .ok (.invokevirtual 218, 3) := by decide +kernel
theorem lX11_right_81 : okL 761 (.methodLink mX11_right.1.cls 218 mX7_add.1) = true := by decide +kernel
theorem eX11_right_84 : decode mX11_right.2.1 84 = .ok (.ireturn, 1) := by decide +kernel
def bX11_land_0 : List OP := [oi (.iload_n 1)]
theorem oX11_land_0 : okB mX11_land 0 bX11_land_0 = true := by decide +kernel
theorem eX11_land_1 : decode mX11_land.2.1 1 = .ok (.invokestatic 221, 3) := by decide +kernel
theorem lX11_land_1 : okL 769 (.methodLink mX11_land.1.cls 221 mX11_isSeer.1) = true := by decide +kernel
theorem eX11_land_4 : decode mX11_land.2.1 4 = .ok (.ifCond .eq 12, 3) := by decide +kernel
def bX11_land_7 : List OP := [oi (.iload_n 2), oi (.iconst 0), oi (.iconst 3)]
theorem oX11_land_7 : okB mX11_land 7 bX11_land_7 = true := by decide +kernel
theorem eX11_land_10 : decode mX11_land.2.1 10 = .ok (.invokestatic 95, 3) := by decide +kernel
theorem lX11_land_10 : okL 425 (.methodLink mX11_land.1.cls 95 mX11_between.1) = true := by decide +kernel
theorem eX11_land_13 : decode mX11_land.2.1 13 = .ok (.ifCond .ne 5, 3) := by decide +kernel
def bX11_land_16 : List OP := [oi (.iconst (-1))]
theorem oX11_land_16 : okB mX11_land 16 bX11_land_16 = true := by decide +kernel
theorem eX11_land_17 : decode mX11_land.2.1 17 = .ok (.ireturn, 1) := by decide +kernel
def bX11_land_18 : List OP := [oi (.aload_n 0), (.getfield 58, 7, 11, 7, 2, 376), oi (.iload_n 1), oi (.iload_n 2)]
theorem oX11_land_18 : okB mX11_land 18 bX11_land_18 = true := by decide +kernel
theorem eX11_land_24 : decode mX11_land.2.1 24 = .ok (.invokevirtual 224, 3) := by decide +kernel
theorem lX11_land_24 : okL 772 (.methodLink mX11_land.1.cls 224 mX7_changeLand.1) = true := by decide +kernel
theorem eX11_land_27 : decode mX11_land.2.1 27 = .ok (.ireturn, 1) := by decide +kernel
def bX11_may_0 : List OP := [oi (.iload_n 1)]
theorem oX11_may_0 : okB mX11_may 0 bX11_may_0 = true := by decide +kernel
theorem eX11_may_1 : decode mX11_may.2.1 1 = .ok (.invokestatic 221, 3) := by decide +kernel
theorem lX11_may_1 : okL 769 (.methodLink mX11_may.1.cls 221 mX11_isSeer.1) = true := by decide +kernel
theorem eX11_may_4 : decode mX11_may.2.1 4 = .ok (.ifCond .eq 10, 3) := by decide +kernel
def bX11_may_7 : List OP := [oi (.iload_n 2)]
theorem oX11_may_7 : okB mX11_may 7 bX11_may_7 = true := by decide +kernel
theorem eX11_may_8 : decode mX11_may.2.1 8 = .ok (.invokestatic 202, 3) := by decide +kernel
theorem lX11_may_8 : okL 725 (.methodLink mX11_may.1.cls 202 mX11_isFilm.1) = true := by decide +kernel
theorem eX11_may_11 : decode mX11_may.2.1 11 = .ok (.ifCond .ne 5, 3) := by decide +kernel
def bX11_may_14 : List OP := [oi (.iconst (-1))]
theorem oX11_may_14 : okB mX11_may 14 bX11_may_14 = true := by decide +kernel
theorem eX11_may_15 : decode mX11_may.2.1 15 = .ok (.ireturn, 1) := by decide +kernel
def bX11_may_16 : List OP := [oi (.iload_n 3), oi (.iconst 0), oi (.sipush 999)]
theorem oX11_may_16 : okB mX11_may 16 bX11_may_16 = true := by decide +kernel
theorem eX11_may_21 : decode mX11_may.2.1 21 = .ok (.invokestatic 95, 3) := by decide +kernel
theorem lX11_may_21 : okL 425 (.methodLink mX11_may.1.cls 95 mX11_between.1) = true := by decide +kernel
theorem eX11_may_24 : decode mX11_may.2.1 24 = .ok (.ifCond .ne 6, 3) := by decide +kernel
def bX11_may_27 : List OP := [oi (.bipush (-2))]
theorem oX11_may_27 : okB mX11_may 27 bX11_may_27 = true := by decide +kernel
theorem eX11_may_29 : decode mX11_may.2.1 29 = .ok (.ireturn, 1) := by decide +kernel
def bX11_may_30 : List OP := [oi (.aload_n 0), (.getfield 58, 7, 11, 7, 2, 376), oi (.iload_n 1), oi (.iload_n 2), oi (.iload_n 3)]
theorem oX11_may_30 : okB mX11_may 30 bX11_may_30 = true := by decide +kernel
theorem eX11_may_37 : decode mX11_may.2.1 37 = .ok (.invokevirtual 227, 3) := by decide +kernel
theorem lX11_may_37 : okL 780 (.methodLink mX11_may.1.cls 227 mX7_allow.1) = true := by decide +kernel
theorem eX11_may_40 : decode mX11_may.2.1 40 = .ok (.ifCond .eq 7, 3) := by decide +kernel
def bX11_may_43 : List OP := [oi (.iconst 1), (.goto 4, 0, 0, 48, 0, 0)]
theorem oX11_may_43 : okB mX11_may 43 bX11_may_43 = true := by decide +kernel
def bX11_may_47 : List OP := [oi (.iconst 0)]
theorem oX11_may_47 : okB mX11_may 47 bX11_may_47 = true := by decide +kernel
theorem eX11_may_48 : decode mX11_may.2.1 48 = .ok (.ireturn, 1) := by decide +kernel
def bX11_see_0 : List OP := [oi (.iload_n 1)]
theorem oX11_see_0 : okB mX11_see 0 bX11_see_0 = true := by decide +kernel
theorem eX11_see_1 : decode mX11_see.2.1 1 = .ok (.invokestatic 221, 3) := by decide +kernel
theorem lX11_see_1 : okL 769 (.methodLink mX11_see.1.cls 221 mX11_isSeer.1) = true := by decide +kernel
theorem eX11_see_4 : decode mX11_see.2.1 4 = .ok (.ifCond .eq 10, 3) := by decide +kernel
def bX11_see_7 : List OP := [oi (.iload_n 2)]
theorem oX11_see_7 : okB mX11_see 7 bX11_see_7 = true := by decide +kernel
theorem eX11_see_8 : decode mX11_see.2.1 8 = .ok (.invokestatic 202, 3) := by decide +kernel
theorem lX11_see_8 : okL 725 (.methodLink mX11_see.1.cls 202 mX11_isFilm.1) = true := by decide +kernel
theorem eX11_see_11 : decode mX11_see.2.1 11 = .ok (.ifCond .ne 5, 3) := by decide +kernel
def bX11_see_14 : List OP := [oi (.iconst (-1))]
theorem oX11_see_14 : okB mX11_see 14 bX11_see_14 = true := by decide +kernel
theorem eX11_see_15 : decode mX11_see.2.1 15 = .ok (.ireturn, 1) := by decide +kernel
def bX11_see_16 : List OP := [oi (.iload_n 3), oi (.iconst 0), oi (.sipush 999)]
theorem oX11_see_16 : okB mX11_see 16 bX11_see_16 = true := by decide +kernel
theorem eX11_see_21 : decode mX11_see.2.1 21 = .ok (.invokestatic 95, 3) := by decide +kernel
theorem lX11_see_21 : okL 425 (.methodLink mX11_see.1.cls 95 mX11_between.1) = true := by decide +kernel
theorem eX11_see_24 : decode mX11_see.2.1 24 = .ok (.ifCond .eq 26, 3) := by decide +kernel
def bX11_see_27 : List OP := [oi (.iload 4), oi (.iconst 0), oi (.bipush 59)]
theorem oX11_see_27 : okB mX11_see 27 bX11_see_27 = true := by decide +kernel
theorem eX11_see_32 : decode mX11_see.2.1 32 = .ok (.invokestatic 95, 3) := by decide +kernel
theorem lX11_see_32 : okL 425 (.methodLink mX11_see.1.cls 95 mX11_between.1) = true := by decide +kernel
theorem eX11_see_35 : decode mX11_see.2.1 35 = .ok (.ifCond .eq 15, 3) := by decide +kernel
def bX11_see_38 : List OP := [oi (.iload 5), oi (.iload 4), oi (.bipush 59)]
theorem oX11_see_38 : okB mX11_see 38 bX11_see_38 = true := by decide +kernel
theorem eX11_see_44 : decode mX11_see.2.1 44 = .ok (.invokestatic 95, 3) := by decide +kernel
theorem lX11_see_44 : okL 425 (.methodLink mX11_see.1.cls 95 mX11_between.1) = true := by decide +kernel
theorem eX11_see_47 : decode mX11_see.2.1 47 = .ok (.ifCond .ne 6, 3) := by decide +kernel
def bX11_see_50 : List OP := [oi (.bipush (-2))]
theorem oX11_see_50 : okB mX11_see 50 bX11_see_50 = true := by decide +kernel
theorem eX11_see_52 : decode mX11_see.2.1 52 = .ok (.ireturn, 1) := by decide +kernel
def bX11_see_53 : List OP := [oi (.aload_n 0), (.getfield 58, 7, 11, 7, 2, 376), oi (.iload_n 1), oi (.iload_n 2), oi (.iload_n 3)]
theorem oX11_see_53 : okB mX11_see 53 bX11_see_53 = true := by decide +kernel
theorem eX11_see_60 : decode mX11_see.2.1 60 = .ok (.invokevirtual 227, 3) := by decide +kernel
theorem lX11_see_60 : okL 780 (.methodLink mX11_see.1.cls 227 mX7_allow.1) = true := by decide +kernel
theorem eX11_see_63 : decode mX11_see.2.1 63 = .ok (.ifCond .ne 6, 3) := by decide +kernel
def bX11_see_66 : List OP := [oi (.bipush (-5))]
theorem oX11_see_66 : okB mX11_see 66 bX11_see_66 = true := by decide +kernel
theorem eX11_see_68 : decode mX11_see.2.1 68 = .ok (.ireturn, 1) := by decide +kernel
def bX11_see_69 : List OP := [oi (.aload_n 0), (.getfield 58, 7, 11, 7, 2, 376), oi (.iload_n 1), oi (.iload_n 2), oi (.iload 4), oi (.iload 5)]
theorem oX11_see_69 : okB mX11_see 69 bX11_see_69 = true := by decide +kernel
theorem eX11_see_79 : decode mX11_see.2.1 79 = .ok (.invokevirtual 230, 3) := by decide +kernel
theorem lX11_see_79 : okL 792 (.methodLink mX11_see.1.cls 230 mX7_addSeeing.1) = true := by decide +kernel
theorem eX11_see_82 : decode mX11_see.2.1 82 = .ok (.ireturn, 1) := by decide +kernel
def bX11_seen_0 : List OP := [oi (.iload_n 1)]
theorem oX11_seen_0 : okB mX11_seen 0 bX11_seen_0 = true := by decide +kernel
theorem eX11_seen_1 : decode mX11_seen.2.1 1 = .ok (.invokestatic 221, 3) := by decide +kernel
theorem lX11_seen_1 : okL 769 (.methodLink mX11_seen.1.cls 221 mX11_isSeer.1) = true := by decide +kernel
theorem eX11_seen_4 : decode mX11_seen.2.1 4 = .ok (.ifCond .eq 10, 3) := by decide +kernel
def bX11_seen_7 : List OP := [oi (.iload_n 2)]
theorem oX11_seen_7 : okB mX11_seen 7 bX11_seen_7 = true := by decide +kernel
theorem eX11_seen_8 : decode mX11_seen.2.1 8 = .ok (.invokestatic 202, 3) := by decide +kernel
theorem lX11_seen_8 : okL 725 (.methodLink mX11_seen.1.cls 202 mX11_isFilm.1) = true := by decide +kernel
theorem eX11_seen_11 : decode mX11_seen.2.1 11 = .ok (.ifCond .ne 5, 3) := by decide +kernel
def bX11_seen_14 : List OP := [oi (.iconst (-1))]
theorem oX11_seen_14 : okB mX11_seen 14 bX11_seen_14 = true := by decide +kernel
theorem eX11_seen_15 : decode mX11_seen.2.1 15 = .ok (.ireturn, 1) := by decide +kernel
def bX11_seen_16 : List OP := [oi (.iload_n 3), oi (.iconst 0), oi (.iconst 1)]
theorem oX11_seen_16 : okB mX11_seen 16 bX11_seen_16 = true := by decide +kernel
theorem eX11_seen_19 : decode mX11_seen.2.1 19 = .ok (.invokestatic 95, 3) := by decide +kernel
theorem lX11_seen_19 : okL 425 (.methodLink mX11_seen.1.cls 95 mX11_between.1) = true := by decide +kernel
theorem eX11_seen_22 : decode mX11_seen.2.1 22 = .ok (.ifCond .ne 6, 3) := by decide +kernel
def bX11_seen_25 : List OP := [oi (.bipush (-2))]
theorem oX11_seen_25 : okB mX11_seen 25 bX11_seen_25 = true := by decide +kernel
theorem eX11_seen_27 : decode mX11_seen.2.1 27 = .ok (.ireturn, 1) := by decide +kernel
def bX11_seen_28 : List OP := [oi (.iload_n 3)]
theorem oX11_seen_28 : okB mX11_seen 28 bX11_seen_28 = true := by decide +kernel
theorem eX11_seen_29 : decode mX11_seen.2.1 29 = .ok (.ifCond .ne 15, 3) := by decide +kernel
def bX11_seen_32 : List OP := [oi (.aload_n 0), (.getfield 58, 7, 11, 7, 2, 376), oi (.iload_n 1), oi (.iload_n 2)]
theorem oX11_seen_32 : okB mX11_seen 32 bX11_seen_32 = true := by decide +kernel
theorem eX11_seen_38 : decode mX11_seen.2.1 38 = .ok (.invokevirtual 234, 3) := by decide +kernel
theorem lX11_seen_38 : okL 807 (.methodLink mX11_seen.1.cls 234 mX7_secondsSeen.1) = true := by decide +kernel
def bX11_seen_41 : List OP := [(.goto 12, 0, 0, 53, 0, 0)]
theorem oX11_seen_41 : okB mX11_seen 41 bX11_seen_41 = true := by decide +kernel
def bX11_seen_44 : List OP := [oi (.aload_n 0), (.getfield 58, 7, 11, 7, 2, 376), oi (.iload_n 1), oi (.iload_n 2)]
theorem oX11_seen_44 : okB mX11_seen 44 bX11_seen_44 = true := by decide +kernel
theorem eX11_seen_50 : decode mX11_seen.2.1 50 = .ok (.invokevirtual 237, 3) := by decide +kernel
theorem lX11_seen_50 : okL 811 (.methodLink mX11_seen.1.cls 237 mX7_timesSeen.1) = true := by decide +kernel
theorem eX11_seen_53 : decode mX11_seen.2.1 53 = .ok (.ireturn, 1) := by decide +kernel
def bX11_owed_0 : List OP := [oi (.iload_n 1)]
theorem oX11_owed_0 : okB mX11_owed 0 bX11_owed_0 = true := by decide +kernel
theorem eX11_owed_1 : decode mX11_owed.2.1 1 = .ok (.invokestatic 202, 3) := by decide +kernel
theorem lX11_owed_1 : okL 725 (.methodLink mX11_owed.1.cls 202 mX11_isFilm.1) = true := by decide +kernel
theorem eX11_owed_4 : decode mX11_owed.2.1 4 = .ok (.ifCond .ne 5, 3) := by decide +kernel
def bX11_owed_7 : List OP := [oi (.iconst (-1))]
theorem oX11_owed_7 : okB mX11_owed 7 bX11_owed_7 = true := by decide +kernel
theorem eX11_owed_8 : decode mX11_owed.2.1 8 = .ok (.ireturn, 1) := by decide +kernel
def bX11_owed_9 : List OP := [oi (.aload_n 0), (.getfield 58, 7, 11, 7, 2, 376), oi (.iload_n 1), oi (.aload_n 0), (.getfield 7, 0, 11, 0, 2, 369), oi (.iconst 3), oi .iaload, oi (.aload_n 0), (.getfield 7, 0, 11, 0, 2, 369), oi (.iconst 4), oi .iaload]
theorem oX11_owed_9 : okB mX11_owed 9 bX11_owed_9 = true := by decide +kernel
theorem eX11_owed_26 : decode mX11_owed.2.1 26 = .ok (.invokevirtual 240, 3) := by decide +kernel
theorem lX11_owed_26 : okL 816 (.methodLink mX11_owed.1.cls 240 mX7_owedFor.1) = true := by decide +kernel
theorem eX11_owed_29 : decode mX11_owed.2.1 29 = .ok (.ireturn, 1) := by decide +kernel
def bX11_mark_0 : List OP := [oi (.iload_n 1)]
theorem oX11_mark_0 : okB mX11_mark 0 bX11_mark_0 = true := by decide +kernel
theorem eX11_mark_1 : decode mX11_mark.2.1 1 = .ok (.invokestatic 221, 3) := by decide +kernel
theorem lX11_mark_1 : okL 769 (.methodLink mX11_mark.1.cls 221 mX11_isSeer.1) = true := by decide +kernel
theorem eX11_mark_4 : decode mX11_mark.2.1 4 = .ok (.ifCond .ne 5, 3) := by decide +kernel
def bX11_mark_7 : List OP := [oi (.iconst (-1))]
theorem oX11_mark_7 : okB mX11_mark 7 bX11_mark_7 = true := by decide +kernel
theorem eX11_mark_8 : decode mX11_mark.2.1 8 = .ok (.ireturn, 1) := by decide +kernel
def bX11_mark_9 : List OP := [oi (.iload_n 2), oi (.iconst 0), oi (.sipush 255)]
theorem oX11_mark_9 : okB mX11_mark 9 bX11_mark_9 = true := by decide +kernel
theorem eX11_mark_14 : decode mX11_mark.2.1 14 = .ok (.invokestatic 95, 3) := by decide +kernel
theorem lX11_mark_14 : okL 425 (.methodLink mX11_mark.1.cls 95 mX11_between.1) = true := by decide +kernel
theorem eX11_mark_17 : decode mX11_mark.2.1 17 = .ok (.ifCond .ne 6, 3) := by decide +kernel
def bX11_mark_20 : List OP := [oi (.bipush (-2))]
theorem oX11_mark_20 : okB mX11_mark 20 bX11_mark_20 = true := by decide +kernel
theorem eX11_mark_22 : decode mX11_mark.2.1 22 = .ok (.ireturn, 1) := by decide +kernel
def bX11_mark_23 : List OP := [oi (.aload_n 0), (.getfield 65, 8, 11, 8, 2, 377), oi (.iload_n 1), oi (.iload_n 2)]
theorem oX11_mark_23 : okB mX11_mark 23 bX11_mark_23 = true := by decide +kernel
theorem eX11_mark_29 : decode mX11_mark.2.1 29 = .ok (.invokevirtual 243, 3) := by decide +kernel
theorem lX11_mark_29 : okL 826 (.methodLink mX11_mark.1.cls 243 mX5_change.1) = true := by decide +kernel
theorem eX11_mark_32 : decode mX11_mark.2.1 32 = .ok (.ireturn, 1) := by decide +kernel
def bX11_blame_0 : List OP := [oi (.iload_n 1), oi (.iconst 0), oi (.sipush 255)]
theorem oX11_blame_0 : okB mX11_blame 0 bX11_blame_0 = true := by decide +kernel
theorem eX11_blame_5 : decode mX11_blame.2.1 5 = .ok (.invokestatic 95, 3) := by decide +kernel
theorem lX11_blame_5 : okL 425 (.methodLink mX11_blame.1.cls 95 mX11_between.1) = true := by decide +kernel
theorem eX11_blame_8 : decode mX11_blame.2.1 8 = .ok (.ifCond .eq 14, 3) := by decide +kernel
def bX11_blame_11 : List OP := [oi (.iload_n 2), oi (.iconst 0), oi (.sipush 255)]
theorem oX11_blame_11 : okB mX11_blame 11 bX11_blame_11 = true := by decide +kernel
theorem eX11_blame_16 : decode mX11_blame.2.1 16 = .ok (.invokestatic 95, 3) := by decide +kernel
theorem lX11_blame_16 : okL 425 (.methodLink mX11_blame.1.cls 95 mX11_between.1) = true := by decide +kernel
theorem eX11_blame_19 : decode mX11_blame.2.1 19 = .ok (.ifCond .ne 6, 3) := by decide +kernel
def bX11_blame_22 : List OP := [oi (.bipush (-2))]
theorem oX11_blame_22 : okB mX11_blame 22 bX11_blame_22 = true := by decide +kernel
theorem eX11_blame_24 : decode mX11_blame.2.1 24 = .ok (.ireturn, 1) := by decide +kernel
def bX11_blame_25 : List OP := [oi (.iload_n 3)]
theorem oX11_blame_25 : okB mX11_blame 25 bX11_blame_25 = true := by decide +kernel
theorem eX11_blame_26 : decode mX11_blame.2.1 26 = .ok (.tableswitch 67 0 3 #[30, 40, 50, 60], 30) := by decide +kernel
def bX11_blame_56 : List OP := [oi (.aload_n 0), (.getfield 65, 8, 11, 8, 2, 377), oi (.iload_n 1), oi (.iload_n 2)]
theorem oX11_blame_56 : okB mX11_blame 56 bX11_blame_56 = true := by decide +kernel
theorem eX11_blame_62 : decode mX11_blame.2.1 62 = .ok (.invokevirtual 246, 3) := by decide +kernel
theorem lX11_blame_62 : okL 834 (.methodLink mX11_blame.1.cls 246 mX5_blamed.1) = true := by decide +kernel
theorem eX11_blame_65 : decode mX11_blame.2.1 65 = .ok (.ireturn, 1) := by decide +kernel
def bX11_blame_66 : List OP := [oi (.aload_n 0), (.getfield 65, 8, 11, 8, 2, 377), oi (.iload_n 1), oi (.iload_n 2)]
theorem oX11_blame_66 : okB mX11_blame 66 bX11_blame_66 = true := by decide +kernel
theorem eX11_blame_72 : decode mX11_blame.2.1 72 = .ok (.invokevirtual 249, 3) := by decide +kernel
theorem lX11_blame_72 : okL 842 (.methodLink mX11_blame.1.cls 249 mX5_pairs.1) = true := by decide +kernel
theorem eX11_blame_75 : decode mX11_blame.2.1 75 = .ok (.ireturn, 1) := by decide +kernel
def bX11_blame_76 : List OP := [oi (.aload_n 0), (.getfield 65, 8, 11, 8, 2, 377), oi (.iload_n 1), oi (.iload_n 2)]
theorem oX11_blame_76 : okB mX11_blame 76 bX11_blame_76 = true := by decide +kernel
theorem eX11_blame_82 : decode mX11_blame.2.1 82 = .ok (.invokevirtual 252, 3) := by decide +kernel
theorem lX11_blame_82 : okL 850 (.methodLink mX11_blame.1.cls 252 mX5_firstPair.1) = true := by decide +kernel
theorem eX11_blame_85 : decode mX11_blame.2.1 85 = .ok (.ireturn, 1) := by decide +kernel
def bX11_blame_86 : List OP := [oi (.iconst 1), oi (.iload_n 1)]
theorem oX11_blame_86 : okB mX11_blame 86 bX11_blame_86 = true := by decide +kernel
theorem eX11_blame_88 : decode mX11_blame.2.1 88 = .ok (.invokestatic 255, 3) := by decide +kernel
theorem lX11_blame_88 : okL 854 (.methodLink mX11_blame.1.cls 255 mJ6_bitCount.1) = true := by decide +kernel
def bX11_blame_91 : List OP := [oi .ishl]
theorem oX11_blame_91 : okB mX11_blame 91 bX11_blame_91 = true := by decide +kernel
theorem eX11_blame_92 : decode mX11_blame.2.1 92 = .ok (.ireturn, 1) := by decide +kernel
def bX11_blame_93 : List OP := [oi (.bipush (-2))]
theorem oX11_blame_93 : okB mX11_blame 93 bX11_blame_93 = true := by decide +kernel
theorem eX11_blame_95 : decode mX11_blame.2.1 95 = .ok (.ireturn, 1) := by decide +kernel
def bX11_put_0 : List OP := [oi (.iload_n 1), oi (.iconst 0), oi (.iconst 3)]
theorem oX11_put_0 : okB mX11_put 0 bX11_put_0 = true := by decide +kernel
theorem eX11_put_3 : decode mX11_put.2.1 3 = .ok (.invokestatic 95, 3) := by decide +kernel
theorem lX11_put_3 : okL 425 (.methodLink mX11_put.1.cls 95 mX11_between.1) = true := by decide +kernel
theorem eX11_put_6 : decode mX11_put.2.1 6 = .ok (.ifCond .ne 5, 3) := by decide +kernel
def bX11_put_9 : List OP := [oi (.iconst (-1))]
theorem oX11_put_9 : okB mX11_put 9 bX11_put_9 = true := by decide +kernel
theorem eX11_put_10 : decode mX11_put.2.1 10 = .ok (.ireturn, 1) := by decide +kernel
def bX11_put_11 : List OP := [oi (.iload_n 2), oi (.iconst 0), oi (.iconst 5)]
theorem oX11_put_11 : okB mX11_put 11 bX11_put_11 = true := by decide +kernel
theorem eX11_put_14 : decode mX11_put.2.1 14 = .ok (.invokestatic 95, 3) := by decide +kernel
theorem lX11_put_14 : okL 425 (.methodLink mX11_put.1.cls 95 mX11_between.1) = true := by decide +kernel
theorem eX11_put_17 : decode mX11_put.2.1 17 = .ok (.ifCond .eq 14, 3) := by decide +kernel
def bX11_put_20 : List OP := [oi (.iload_n 3), oi (.iconst 0), (.ldc_w 260, 65535, 0, 0, 0, 864)]
theorem oX11_put_20 : okB mX11_put 20 bX11_put_20 = true := by decide +kernel
theorem eX11_put_25 : decode mX11_put.2.1 25 = .ok (.invokestatic 95, 3) := by decide +kernel
theorem lX11_put_25 : okL 425 (.methodLink mX11_put.1.cls 95 mX11_between.1) = true := by decide +kernel
theorem eX11_put_28 : decode mX11_put.2.1 28 = .ok (.ifCond .ne 6, 3) := by decide +kernel
def bX11_put_31 : List OP := [oi (.bipush (-2))]
theorem oX11_put_31 : okB mX11_put 31 bX11_put_31 = true := by decide +kernel
theorem eX11_put_33 : decode mX11_put.2.1 33 = .ok (.ireturn, 1) := by decide +kernel
def bX11_put_34 : List OP := [oi (.aload_n 0), (.getfield 72, 9, 11, 9, 2, 378), oi (.iload_n 1), oi (.iload_n 2), oi (.iload_n 3)]
theorem oX11_put_34 : okB mX11_put 34 bX11_put_34 = true := by decide +kernel
theorem eX11_put_41 : decode mX11_put.2.1 41 = .ok (.invokevirtual 261, 3) := by decide +kernel
theorem lX11_put_41 : okL 865 (.methodLink mX11_put.1.cls 261 mX4_change.1) = true := by decide +kernel
theorem eX11_put_44 : decode mX11_put.2.1 44 = .ok (.ireturn, 1) := by decide +kernel
def bX11_sum_0 : List OP := [oi (.iload_n 1), oi (.iconst 0), oi (.iconst 3)]
theorem oX11_sum_0 : okB mX11_sum 0 bX11_sum_0 = true := by decide +kernel
theorem eX11_sum_3 : decode mX11_sum.2.1 3 = .ok (.invokestatic 95, 3) := by decide +kernel
theorem lX11_sum_3 : okL 425 (.methodLink mX11_sum.1.cls 95 mX11_between.1) = true := by decide +kernel
theorem eX11_sum_6 : decode mX11_sum.2.1 6 = .ok (.ifCond .ne 5, 3) := by decide +kernel
def bX11_sum_9 : List OP := [oi (.iconst (-1))]
theorem oX11_sum_9 : okB mX11_sum 9 bX11_sum_9 = true := by decide +kernel
theorem eX11_sum_10 : decode mX11_sum.2.1 10 = .ok (.ireturn, 1) := by decide +kernel
def bX11_sum_11 : List OP := [oi (.iload_n 2), oi (.iconst 0), oi (.iconst 1)]
theorem oX11_sum_11 : okB mX11_sum 11 bX11_sum_11 = true := by decide +kernel
theorem eX11_sum_14 : decode mX11_sum.2.1 14 = .ok (.invokestatic 95, 3) := by decide +kernel
theorem lX11_sum_14 : okL 425 (.methodLink mX11_sum.1.cls 95 mX11_between.1) = true := by decide +kernel
theorem eX11_sum_17 : decode mX11_sum.2.1 17 = .ok (.ifCond .ne 6, 3) := by decide +kernel
def bX11_sum_20 : List OP := [oi (.bipush (-2))]
theorem oX11_sum_20 : okB mX11_sum 20 bX11_sum_20 = true := by decide +kernel
theorem eX11_sum_22 : decode mX11_sum.2.1 22 = .ok (.ireturn, 1) := by decide +kernel
def bX11_sum_23 : List OP := [oi (.iload_n 2)]
theorem oX11_sum_23 : okB mX11_sum 23 bX11_sum_23 = true := by decide +kernel
theorem eX11_sum_24 : decode mX11_sum.2.1 24 = .ok (.ifCond .ne 14, 3) := by decide +kernel
def bX11_sum_27 : List OP := [oi (.aload_n 0), (.getfield 72, 9, 11, 9, 2, 378), oi (.iload_n 1)]
theorem oX11_sum_27 : okB mX11_sum 27 bX11_sum_27 = true := by decide +kernel
theorem eX11_sum_32 : decode mX11_sum.2.1 32 = .ok (.invokevirtual 263, 3) := by decide +kernel
theorem lX11_sum_32 : okL 873 (.methodLink mX11_sum.1.cls 263 mX4_plainSum.1) = true := by decide +kernel
def bX11_sum_35 : List OP := [(.goto 11, 0, 0, 46, 0, 0)]
theorem oX11_sum_35 : okB mX11_sum 35 bX11_sum_35 = true := by decide +kernel
def bX11_sum_38 : List OP := [oi (.aload_n 0), (.getfield 72, 9, 11, 9, 2, 378), oi (.iload_n 1)]
theorem oX11_sum_38 : okB mX11_sum 38 bX11_sum_38 = true := by decide +kernel
theorem eX11_sum_43 : decode mX11_sum.2.1 43 = .ok (.invokevirtual 266, 3) := by decide +kernel
theorem lX11_sum_43 : okL 881 (.methodLink mX11_sum.1.cls 266 mX4_placeSum.1) = true := by decide +kernel
theorem eX11_sum_46 : decode mX11_sum.2.1 46 = .ok (.ireturn, 1) := by decide +kernel
def bX11_restore_0 : List OP := [oi (.iload_n 1), oi (.iconst 0), oi (.iconst 3)]
theorem oX11_restore_0 : okB mX11_restore 0 bX11_restore_0 = true := by decide +kernel
theorem eX11_restore_3 : decode mX11_restore.2.1 3 = .ok (.invokestatic 95, 3) := by decide +kernel
theorem lX11_restore_3 : okL 425 (.methodLink mX11_restore.1.cls 95 mX11_between.1) = true := by decide +kernel
theorem eX11_restore_6 : decode mX11_restore.2.1 6 = .ok (.ifCond .ne 5, 3) := by decide +kernel
def bX11_restore_9 : List OP := [oi (.iconst (-1))]
theorem oX11_restore_9 : okB mX11_restore 9 bX11_restore_9 = true := by decide +kernel
theorem eX11_restore_10 : decode mX11_restore.2.1 10 = .ok (.ireturn, 1) := by decide +kernel
def bX11_restore_11 : List OP := [oi (.iload_n 2), oi (.iconst 0), oi (.sipush 255)]
theorem oX11_restore_11 : okB mX11_restore 11 bX11_restore_11 = true := by decide +kernel
theorem eX11_restore_16 : decode mX11_restore.2.1 16 = .ok (.invokestatic 95, 3) := by decide +kernel
theorem lX11_restore_16 : okL 425 (.methodLink mX11_restore.1.cls 95 mX11_between.1) = true := by decide +kernel
theorem eX11_restore_19 : decode mX11_restore.2.1 19 = .ok (.ifCond .eq 12, 3) := by decide +kernel
def bX11_restore_22 : List OP := [oi (.iload_n 3), oi (.iconst 0), oi (.iconst 5)]
theorem oX11_restore_22 : okB mX11_restore 22 bX11_restore_22 = true := by decide +kernel
theorem eX11_restore_25 : decode mX11_restore.2.1 25 = .ok (.invokestatic 95, 3) := by decide +kernel
theorem lX11_restore_25 : okL 425 (.methodLink mX11_restore.1.cls 95 mX11_between.1) = true := by decide +kernel
theorem eX11_restore_28 : decode mX11_restore.2.1 28 = .ok (.ifCond .ne 6, 3) := by decide +kernel
def bX11_restore_31 : List OP := [oi (.bipush (-2))]
theorem oX11_restore_31 : okB mX11_restore 31 bX11_restore_31 = true := by decide +kernel
theorem eX11_restore_33 : decode mX11_restore.2.1 33 = .ok (.ireturn, 1) := by decide +kernel
def bX11_restore_34 : List OP := [oi (.iload_n 2), oi (.iload_n 3), oi .ishr, oi (.iconst 1), oi .iand]
theorem oX11_restore_34 : okB mX11_restore 34 bX11_restore_34 = true := by decide +kernel
theorem eX11_restore_39 : decode mX11_restore.2.1 39 = .ok (.ifCond .ne 6, 3) := by decide +kernel
def bX11_restore_42 : List OP := [oi (.bipush (-5))]
theorem oX11_restore_42 : okB mX11_restore 42 bX11_restore_42 = true := by decide +kernel
theorem eX11_restore_44 : decode mX11_restore.2.1 44 = .ok (.ireturn, 1) := by decide +kernel
def bX11_restore_45 : List OP := [oi (.iload_n 2)]
theorem oX11_restore_45 : okB mX11_restore 45 bX11_restore_45 = true := by decide +kernel
theorem eX11_restore_46 : decode mX11_restore.2.1 46 = .ok (.invokestatic 269, 3) := by decide +kernel
theorem lX11_restore_46 : okL 889 (.methodLink mX11_restore.1.cls 269 mX4_restorable.1) = true := by decide +kernel
theorem eX11_restore_49 : decode mX11_restore.2.1 49 = .ok (.ifCond .eq 15, 3) := by decide +kernel
def bX11_restore_52 : List OP := [oi (.aload_n 0), (.getfield 72, 9, 11, 9, 2, 378), oi (.iload_n 1), oi (.iload_n 3)]
theorem oX11_restore_52 : okB mX11_restore 52 bX11_restore_52 = true := by decide +kernel
theorem eX11_restore_58 : decode mX11_restore.2.1 58 = .ok (.invokevirtual 272, 3) := by decide +kernel
theorem lX11_restore_58 : okL 893 (.methodLink mX11_restore.1.cls 272 mX4_numberAt.1) = true := by decide +kernel
def bX11_restore_61 : List OP := [(.goto 5, 0, 0, 66, 0, 0)]
theorem oX11_restore_61 : okB mX11_restore 61 bX11_restore_61 = true := by decide +kernel
def bX11_restore_64 : List OP := [oi (.bipush (-6))]
theorem oX11_restore_64 : okB mX11_restore 64 bX11_restore_64 = true := by decide +kernel
theorem eX11_restore_66 : decode mX11_restore.2.1 66 = .ok (.ireturn, 1) := by decide +kernel
def bX11_hang_0 : List OP := [oi (.iload_n 1)]
theorem oX11_hang_0 : okB mX11_hang 0 bX11_hang_0 = true := by decide +kernel
theorem eX11_hang_1 : decode mX11_hang.2.1 1 = .ok (.invokestatic 275, 3) := by decide +kernel
theorem lX11_hang_1 : okL 898 (.methodLink mX11_hang.1.cls 275 mX11_isNode.1) = true := by decide +kernel
theorem eX11_hang_4 : decode mX11_hang.2.1 4 = .ok (.ifCond .eq 10, 3) := by decide +kernel
def bX11_hang_7 : List OP := [oi (.iload_n 2)]
theorem oX11_hang_7 : okB mX11_hang 7 bX11_hang_7 = true := by decide +kernel
theorem eX11_hang_8 : decode mX11_hang.2.1 8 = .ok (.invokestatic 275, 3) := by decide +kernel
theorem lX11_hang_8 : okL 898 (.methodLink mX11_hang.1.cls 275 mX11_isNode.1) = true := by decide +kernel
theorem eX11_hang_11 : decode mX11_hang.2.1 11 = .ok (.ifCond .ne 5, 3) := by decide +kernel
def bX11_hang_14 : List OP := [oi (.iconst (-1))]
theorem oX11_hang_14 : okB mX11_hang 14 bX11_hang_14 = true := by decide +kernel
theorem eX11_hang_15 : decode mX11_hang.2.1 15 = .ok (.ireturn, 1) := by decide +kernel
def bX11_hang_16 : List OP := [oi (.iload_n 3), oi (.iconst 1), oi (.bipush 100)]
theorem oX11_hang_16 : okB mX11_hang 16 bX11_hang_16 = true := by decide +kernel
theorem eX11_hang_20 : decode mX11_hang.2.1 20 = .ok (.invokestatic 95, 3) := by decide +kernel
theorem lX11_hang_20 : okL 425 (.methodLink mX11_hang.1.cls 95 mX11_between.1) = true := by decide +kernel
theorem eX11_hang_23 : decode mX11_hang.2.1 23 = .ok (.ifCond .ne 6, 3) := by decide +kernel
def bX11_hang_26 : List OP := [oi (.bipush (-2))]
theorem oX11_hang_26 : okB mX11_hang 26 bX11_hang_26 = true := by decide +kernel
theorem eX11_hang_28 : decode mX11_hang.2.1 28 = .ok (.ireturn, 1) := by decide +kernel
def bX11_hang_29 : List OP := [oi (.aload_n 0), (.getfield 79, 10, 11, 10, 2, 379), (.getfield 278, 2, 6, 2, 2, 361), oi (.iload_n 1), oi .baload]
theorem oX11_hang_29 : okB mX11_hang 29 bX11_hang_29 = true := by decide +kernel
theorem eX11_hang_38 : decode mX11_hang.2.1 38 = .ok (.ifCond .ne 15, 3) := by decide +kernel
def bX11_hang_41 : List OP := [oi (.aload_n 0), (.getfield 79, 10, 11, 10, 2, 379), (.getfield 278, 2, 6, 2, 2, 361), oi (.iload_n 2), oi .baload]
theorem oX11_hang_41 : okB mX11_hang 41 bX11_hang_41 = true := by decide +kernel
theorem eX11_hang_50 : decode mX11_hang.2.1 50 = .ok (.ifCond .eq 6, 3) := by decide +kernel
def bX11_hang_53 : List OP := [oi (.bipush (-3))]
theorem oX11_hang_53 : okB mX11_hang 53 bX11_hang_53 = true := by decide +kernel
theorem eX11_hang_55 : decode mX11_hang.2.1 55 = .ok (.ireturn, 1) := by decide +kernel
def bX11_hang_56 : List OP := [oi (.iload_n 2), oi (.iload_n 1)]
theorem oX11_hang_56 : okB mX11_hang 56 bX11_hang_56 = true := by decide +kernel
theorem eX11_hang_58 : decode mX11_hang.2.1 58 = .ok (.if_icmp .lt 6, 3) := by decide +kernel
def bX11_hang_61 : List OP := [oi (.bipush (-5))]
theorem oX11_hang_61 : okB mX11_hang 61 bX11_hang_61 = true := by decide +kernel
theorem eX11_hang_63 : decode mX11_hang.2.1 63 = .ok (.ireturn, 1) := by decide +kernel
def bX11_hang_64 : List OP := [oi (.aload_n 0), (.getfield 79, 10, 11, 10, 2, 379), oi (.iload_n 2), oi (.iload_n 1)]
theorem oX11_hang_64 : okB mX11_hang 64 bX11_hang_64 = true := by decide +kernel
theorem eX11_hang_70 : decode mX11_hang.2.1 70 = .ok (.invokevirtual 282, 3) := by decide +kernel
theorem lX11_hang_70 : okL 901 (.methodLink mX11_hang.1.cls 282 mX6_hangingOn.1) = true := by decide +kernel
def bX11_hang_73 : List OP := [oi (.aload_n 0), (.getfield 7, 0, 11, 0, 2, 369), oi (.bipush 6), oi .iaload]
theorem oX11_hang_73 : okB mX11_hang 73 bX11_hang_73 = true := by decide +kernel
theorem eX11_hang_80 : decode mX11_hang.2.1 80 = .ok (.if_icmp .lt 6, 3) := by decide +kernel
def bX11_hang_83 : List OP := [oi (.bipush (-4))]
theorem oX11_hang_83 : okB mX11_hang 83 bX11_hang_83 = true := by decide +kernel
theorem eX11_hang_85 : decode mX11_hang.2.1 85 = .ok (.ireturn, 1) := by decide +kernel
def bX11_hang_86 : List OP := [oi (.aload_n 0), (.getfield 79, 10, 11, 10, 2, 379), oi (.iload_n 1), oi (.iload_n 2), oi (.iload_n 3)]
theorem oX11_hang_86 : okB mX11_hang 86 bX11_hang_86 = true := by decide +kernel
theorem eX11_hang_93 : decode mX11_hang.2.1 93 = .ok (.invokevirtual 285, 3) := by decide +kernel
theorem lX11_hang_93 : okL 905 (.methodLink mX11_hang.1.cls 285 mX6_rehang.1) = true := by decide +kernel
theorem eX11_hang_96 : decode mX11_hang.2.1 96 = .ok (.ireturn, 1) := by decide +kernel
def bX11_behind_0 : List OP := [oi (.iload_n 1)]
theorem oX11_behind_0 : okB mX11_behind 0 bX11_behind_0 = true := by decide +kernel
theorem eX11_behind_1 : decode mX11_behind.2.1 1 = .ok (.invokestatic 275, 3) := by decide +kernel
theorem lX11_behind_1 : okL 898 (.methodLink mX11_behind.1.cls 275 mX11_isNode.1) = true := by decide +kernel
theorem eX11_behind_4 : decode mX11_behind.2.1 4 = .ok (.ifCond .ne 5, 3) := by decide +kernel
def bX11_behind_7 : List OP := [oi (.iconst (-1))]
theorem oX11_behind_7 : okB mX11_behind 7 bX11_behind_7 = true := by decide +kernel
theorem eX11_behind_8 : decode mX11_behind.2.1 8 = .ok (.ireturn, 1) := by decide +kernel
def bX11_behind_9 : List OP := [oi (.aload_n 0), (.getfield 79, 10, 11, 10, 2, 379), (.getfield 278, 2, 6, 2, 2, 361), oi (.iload_n 1), oi .baload]
theorem oX11_behind_9 : okB mX11_behind 9 bX11_behind_9 = true := by decide +kernel
theorem eX11_behind_18 : decode mX11_behind.2.1 18 = .ok (.ifCond .eq 6, 3) := by decide +kernel
def bX11_behind_21 : List OP := [oi (.bipush (-3))]
theorem oX11_behind_21 : okB mX11_behind 21 bX11_behind_21 = true := by decide +kernel
theorem eX11_behind_23 : decode mX11_behind.2.1 23 = .ok (.ireturn, 1) := by decide +kernel
def bX11_behind_24 : List OP := [oi (.aload_n 0), (.getfield 79, 10, 11, 10, 2, 379), oi (.iload_n 1)]
theorem oX11_behind_24 : okB mX11_behind 24 bX11_behind_24 = true := by decide +kernel
theorem eX11_behind_29 : decode mX11_behind.2.1 29 = .ok (.invokevirtual 288, 3) := by decide +kernel
theorem lX11_behind_29 : okL 913 (.methodLink mX11_behind.1.cls 288 mX6_delayUpTo0.1) = true := by decide +kernel
theorem eX11_behind_32 : decode mX11_behind.2.1 32 = .ok (.ireturn, 1) := by decide +kernel
def bX11_fall_0 : List OP := [oi (.iload_n 1)]
theorem oX11_fall_0 : okB mX11_fall 0 bX11_fall_0 = true := by decide +kernel
theorem eX11_fall_1 : decode mX11_fall.2.1 1 = .ok (.invokestatic 275, 3) := by decide +kernel
theorem lX11_fall_1 : okL 898 (.methodLink mX11_fall.1.cls 275 mX11_isNode.1) = true := by decide +kernel
theorem eX11_fall_4 : decode mX11_fall.2.1 4 = .ok (.ifCond .ne 5, 3) := by decide +kernel
def bX11_fall_7 : List OP := [oi (.iconst (-1))]
theorem oX11_fall_7 : okB mX11_fall 7 bX11_fall_7 = true := by decide +kernel
theorem eX11_fall_8 : decode mX11_fall.2.1 8 = .ok (.ireturn, 1) := by decide +kernel
def bX11_fall_9 : List OP := [oi (.aload_n 0), (.getfield 79, 10, 11, 10, 2, 379), (.getfield 278, 2, 6, 2, 2, 361), oi (.iload_n 1), oi .baload]
theorem oX11_fall_9 : okB mX11_fall 9 bX11_fall_9 = true := by decide +kernel
theorem eX11_fall_18 : decode mX11_fall.2.1 18 = .ok (.ifCond .eq 6, 3) := by decide +kernel
def bX11_fall_21 : List OP := [oi (.bipush (-3))]
theorem oX11_fall_21 : okB mX11_fall 21 bX11_fall_21 = true := by decide +kernel
theorem eX11_fall_23 : decode mX11_fall.2.1 23 = .ok (.ireturn, 1) := by decide +kernel
def bX11_fall_24 : List OP := [oi (.iload_n 1)]
theorem oX11_fall_24 : okB mX11_fall 24 bX11_fall_24 = true := by decide +kernel
theorem eX11_fall_25 : decode mX11_fall.2.1 25 = .ok (.ifCond .ne 6, 3) := by decide +kernel
def bX11_fall_28 : List OP := [oi (.bipush (-5))]
theorem oX11_fall_28 : okB mX11_fall 28 bX11_fall_28 = true := by decide +kernel
theorem eX11_fall_30 : decode mX11_fall.2.1 30 = .ok (.ireturn, 1) := by decide +kernel
def bX11_fall_31 : List OP := [oi (.aload_n 0), (.getfield 79, 10, 11, 10, 2, 379), oi (.iload_n 1), oi (.aload_n 0), (.getfield 7, 0, 11, 0, 2, 369), oi (.bipush 6), oi .iaload]
theorem oX11_fall_31 : okB mX11_fall 31 bX11_fall_31 = true := by decide +kernel
theorem eX11_fall_43 : decode mX11_fall.2.1 43 = .ok (.invokevirtual 291, 3) := by decide +kernel
theorem lX11_fall_43 : okL 921 (.methodLink mX11_fall.1.cls 291 mX6_drop.1) = true := by decide +kernel
theorem eX11_fall_46 : decode mX11_fall.2.1 46 = .ok (.ireturn, 1) := by decide +kernel
def bX11_tree_0 : List OP := [oi (.iload_n 1)]
theorem oX11_tree_0 : okB mX11_tree 0 bX11_tree_0 = true := by decide +kernel
theorem eX11_tree_1 : decode mX11_tree.2.1 1 = .ok (.ifCond .ne 11, 3) := by decide +kernel
def bX11_tree_4 : List OP := [oi (.aload_n 0), (.getfield 79, 10, 11, 10, 2, 379)]
theorem oX11_tree_4 : okB mX11_tree 4 bX11_tree_4 = true := by decide +kernel
theorem eX11_tree_8 : decode mX11_tree.2.1 8 = .ok (.invokevirtual 294, 3) := by decide +kernel
theorem lX11_tree_8 : okL 935 (.methodLink mX11_tree.1.cls 294 mX6_standing.1) = true := by decide +kernel
theorem eX11_tree_11 : decode mX11_tree.2.1 11 = .ok (.ireturn, 1) := by decide +kernel
def bX11_tree_12 : List OP := [oi (.iload_n 1), oi (.iconst 1)]
theorem oX11_tree_12 : okB mX11_tree 12 bX11_tree_12 = true := by decide +kernel
theorem eX11_tree_14 : decode mX11_tree.2.1 14 = .ok (.if_icmp .ne 17, 3) := by decide +kernel
def bX11_tree_17 : List OP := [oi (.aload_n 0), (.getfield 79, 10, 11, 10, 2, 379), oi (.aload_n 0), (.getfield 7, 0, 11, 0, 2, 369), oi (.iconst 5), oi .iaload]
theorem oX11_tree_17 : okB mX11_tree 17 bX11_tree_17 = true := by decide +kernel
theorem eX11_tree_27 : decode mX11_tree.2.1 27 = .ok (.invokevirtual 297, 3) := by decide +kernel
theorem lX11_tree_27 : okL 939 (.methodLink mX11_tree.1.cls 297 mX6_standingWithin.1) = true := by decide +kernel
theorem eX11_tree_30 : decode mX11_tree.2.1 30 = .ok (.ireturn, 1) := by decide +kernel
def bX11_tree_31 : List OP := [oi (.iload_n 1), oi (.bipush 10), oi (.bipush 19)]
theorem oX11_tree_31 : okB mX11_tree 31 bX11_tree_31 = true := by decide +kernel
theorem eX11_tree_36 : decode mX11_tree.2.1 36 = .ok (.invokestatic 95, 3) := by decide +kernel
theorem lX11_tree_36 : okL 425 (.methodLink mX11_tree.1.cls 95 mX11_between.1) = true := by decide +kernel
theorem eX11_tree_39 : decode mX11_tree.2.1 39 = .ok (.ifCond .ne 6, 3) := by decide +kernel
def bX11_tree_42 : List OP := [oi (.bipush (-2))]
theorem oX11_tree_42 : okB mX11_tree 42 bX11_tree_42 = true := by decide +kernel
theorem eX11_tree_44 : decode mX11_tree.2.1 44 = .ok (.ireturn, 1) := by decide +kernel
def bX11_tree_45 : List OP := [oi (.aload_n 0), (.getfield 79, 10, 11, 10, 2, 379), oi (.iload_n 1), oi (.bipush 10), oi .isub]
theorem oX11_tree_45 : okB mX11_tree 45 bX11_tree_45 = true := by decide +kernel
theorem eX11_tree_53 : decode mX11_tree.2.1 53 = .ok (.invokevirtual 300, 3) := by decide +kernel
theorem lX11_tree_53 : okL 943 (.methodLink mX11_tree.1.cls 300 mX6_hangsOn.1) = true := by decide +kernel
theorem eX11_tree_56 : decode mX11_tree.2.1 56 = .ok (.ireturn, 1) := by decide +kernel
def bX11_told_0 : List OP := [oi (.iload_n 1)]
theorem oX11_told_0 : okB mX11_told 0 bX11_told_0 = true := by decide +kernel
theorem eX11_told_1 : decode mX11_told.2.1 1 = .ok (.tableswitch 105 0 6 #[43, 51, 65, 73, 81, 89, 97], 43) := by decide +kernel
def bX11_told_44 : List OP := [oi (.aload_n 0), (.getfield 16, 1, 11, 1, 2, 370), (.getfield 83, 7, 3, 7, 0, 122)]
theorem oX11_told_44 : okB mX11_told 44 bX11_told_44 = true := by decide +kernel
theorem eX11_told_51 : decode mX11_told.2.1 51 = .ok (.ireturn, 1) := by decide +kernel
def bX11_told_52 : List OP := [oi (.aload_n 0), (.getfield 16, 1, 11, 1, 2, 370), oi (.aload_n 0), (.getfield 7, 0, 11, 0, 2, 369), oi (.iconst 1), oi .iaload]
theorem oX11_told_52 : okB mX11_told 52 bX11_told_52 = true := by decide +kernel
theorem eX11_told_62 : decode mX11_told.2.1 62 = .ok (.invokevirtual 303, 3) := by decide +kernel
theorem lX11_told_62 : okL 951 (.methodLink mX11_told.1.cls 303 mX3_scenes.1) = true := by decide +kernel
theorem eX11_told_65 : decode mX11_told.2.1 65 = .ok (.ireturn, 1) := by decide +kernel
def bX11_told_66 : List OP := [oi (.aload_n 0), (.getfield 16, 1, 11, 1, 2, 370)]
theorem oX11_told_66 : okB mX11_told 66 bX11_told_66 = true := by decide +kernel
theorem eX11_told_70 : decode mX11_told.2.1 70 = .ok (.invokevirtual 306, 3) := by decide +kernel
theorem lX11_told_70 : okL 956 (.methodLink mX11_told.1.cls 306 mX3_stills.1) = true := by decide +kernel
theorem eX11_told_73 : decode mX11_told.2.1 73 = .ok (.ireturn, 1) := by decide +kernel
def bX11_told_74 : List OP := [oi (.aload_n 0), (.getfield 30, 3, 11, 3, 2, 372), (.getfield 158, 1, 8, 1, 0, 177)]
theorem oX11_told_74 : okB mX11_told 74 bX11_told_74 = true := by decide +kernel
theorem eX11_told_81 : decode mX11_told.2.1 81 = .ok (.ireturn, 1) := by decide +kernel
def bX11_told_82 : List OP := [oi (.aload_n 0), (.getfield 58, 7, 11, 7, 2, 376), (.getfield 217, 5, 7, 5, 0, 308)]
theorem oX11_told_82 : okB mX11_told 82 bX11_told_82 = true := by decide +kernel
theorem eX11_told_89 : decode mX11_told.2.1 89 = .ok (.ireturn, 1) := by decide +kernel
def bX11_told_90 : List OP := [oi (.aload_n 0), (.getfield 23, 2, 11, 2, 2, 371), (.getfield 147, 2, 2, 2, 0, 157)]
theorem oX11_told_90 : okB mX11_told 90 bX11_told_90 = true := by decide +kernel
theorem eX11_told_97 : decode mX11_told.2.1 97 = .ok (.ireturn, 1) := by decide +kernel
def bX11_told_98 : List OP := [oi (.aload_n 0), (.getfield 23, 2, 11, 2, 2, 371), (.getfield 151, 3, 2, 3, 0, 159)]
theorem oX11_told_98 : okB mX11_told 98 bX11_told_98 = true := by decide +kernel
theorem eX11_told_105 : decode mX11_told.2.1 105 = .ok (.ireturn, 1) := by decide +kernel
def bX11_told_106 : List OP := [oi (.bipush (-2))]
theorem oX11_told_106 : okB mX11_told 106 bX11_told_106 = true := by decide +kernel
theorem eX11_told_108 : decode mX11_told.2.1 108 = .ok (.ireturn, 1) := by decide +kernel
def bX11_between_0 : List OP := [oi (.iload_n 0), oi (.iload_n 1)]
theorem oX11_between_0 : okB mX11_between 0 bX11_between_0 = true := by decide +kernel
theorem eX11_between_2 : decode mX11_between.2.1 2 = .ok (.if_icmp .lt 12, 3) := by decide +kernel
def bX11_between_5 : List OP := [oi (.iload_n 0), oi (.iload_n 2)]
theorem oX11_between_5 : okB mX11_between 5 bX11_between_5 = true := by decide +kernel
theorem eX11_between_7 : decode mX11_between.2.1 7 = .ok (.if_icmp .gt 7, 3) := by decide +kernel
def bX11_between_10 : List OP := [oi (.iconst 1), (.goto 4, 0, 0, 15, 0, 0)]
theorem oX11_between_10 : okB mX11_between 10 bX11_between_10 = true := by decide +kernel
def bX11_between_14 : List OP := [oi (.iconst 0)]
theorem oX11_between_14 : okB mX11_between 14 bX11_between_14 = true := by decide +kernel
theorem eX11_between_15 : decode mX11_between.2.1 15 = .ok (.ireturn, 1) := by decide +kernel
def bX11_isFilm_0 : List OP := [oi (.iload_n 0), oi (.iconst 0), oi (.iconst 5)]
theorem oX11_isFilm_0 : okB mX11_isFilm 0 bX11_isFilm_0 = true := by decide +kernel
theorem eX11_isFilm_3 : decode mX11_isFilm.2.1 3 = .ok (.invokestatic 95, 3) := by decide +kernel
theorem lX11_isFilm_3 : okL 425 (.methodLink mX11_isFilm.1.cls 95 mX11_between.1) = true := by decide +kernel
theorem eX11_isFilm_6 : decode mX11_isFilm.2.1 6 = .ok (.ireturn, 1) := by decide +kernel
def bX11_isSeer_0 : List OP := [oi (.iload_n 0), oi (.iconst 0), oi (.bipush 7)]
theorem oX11_isSeer_0 : okB mX11_isSeer 0 bX11_isSeer_0 = true := by decide +kernel
theorem eX11_isSeer_4 : decode mX11_isSeer.2.1 4 = .ok (.invokestatic 95, 3) := by decide +kernel
theorem lX11_isSeer_4 : okL 425 (.methodLink mX11_isSeer.1.cls 95 mX11_between.1) = true := by decide +kernel
theorem eX11_isSeer_7 : decode mX11_isSeer.2.1 7 = .ok (.ireturn, 1) := by decide +kernel
def bX11_isNode_0 : List OP := [oi (.iload_n 0), oi (.iconst 0), oi (.bipush 9)]
theorem oX11_isNode_0 : okB mX11_isNode 0 bX11_isNode_0 = true := by decide +kernel
theorem eX11_isNode_4 : decode mX11_isNode.2.1 4 = .ok (.invokestatic 95, 3) := by decide +kernel
theorem lX11_isNode_4 : okL 425 (.methodLink mX11_isNode.1.cls 95 mX11_between.1) = true := by decide +kernel
theorem eX11_isNode_7 : decode mX11_isNode.2.1 7 = .ok (.ireturn, 1) := by decide +kernel
def bX11_forgetShows_0 : List OP := [oi (.aload_n 0), oi (.iconst 0), (.putfield 171, 11, 11, 11, 1, 380), oi (.aload_n 0), oi (.iconst 0), (.putfield 185, 12, 11, 12, 1, 381)]
theorem oX11_forgetShows_0 : okB mX11_forgetShows 0 bX11_forgetShows_0 = true := by decide +kernel
theorem eX11_forgetShows_10 : decode mX11_forgetShows.2.1 10 = .ok (.return_, 1) := by decide +kernel

/-! ===== code as blocks ===== -/
def bX0_seek_0 : List OP := [oi (.aload_n 0), oi (.iload_n 2), oi (.aload_n 1), (.getfield 36, 2, 2, 2, 0, 155)]
theorem oX0_seek_0 : okB mX0_seek 0 bX0_seek_0 = true := by decide +kernel
theorem eX0_seek_6 : decode mX0_seek.2.1 6 = .ok (.invokestatic 40, 3) := by decide +kernel
theorem lX0_seek_6 : okL 672 (.methodLink mX0_seek.1.cls 40 mJ9_min.1) = true := by decide +kernel
def bX0_seek_9 : List OP := [(.putfield 46, 6, 0, 6, 0, 249), oi (.iconst 0), oi (.istore_n 3), oi (.iconst 0), oi (.istore 4)]
theorem oX0_seek_9 : okB mX0_seek 9 bX0_seek_9 = true := by decide +kernel
def bX0_seek_17 : List OP := [oi (.iload 4), oi (.bipush 60)]
theorem oX0_seek_17 : okB mX0_seek 17 bX0_seek_17 = true := by decide +kernel
theorem eX0_seek_21 : decode mX0_seek.2.1 21 = .ok (.if_icmp .ge 27, 3) := by decide +kernel
def bX0_seek_24 : List OP := [oi (.iload_n 3), oi (.aload_n 1), (.getfield 49, 0, 2, 0, 2, 151), oi (.iload 4), oi .iaload, oi .iadd, oi (.istore_n 3), oi (.aload_n 0), (.getfield 20, 1, 0, 1, 2, 244), oi (.iload 4), oi (.iload_n 3), oi .iastore, oi (.iinc 4 1), (.goto (-28), 0, 0, 17, 0, 0)]
theorem oX0_seek_24 : okB mX0_seek 24 bX0_seek_24 = true := by decide +kernel
def bX0_seek_48 : List OP := [oi (.aload_n 0), (.getfield 12, 0, 0, 0, 2, 242)]
theorem oX0_seek_48 : okB mX0_seek 48 bX0_seek_48 = true := by decide +kernel
theorem eX0_seek_52 : decode mX0_seek.2.1 52 = .ok (.invokevirtual 52, 3) := by decide +kernel
theorem lX0_seek_52 : okL 673 (.methodLink mX0_seek.1.cls 52 mX9_clear.1) = true := by decide +kernel
def bX0_seek_55 : List OP := [oi (.iload_n 3)]
theorem oX0_seek_55 : okB mX0_seek 55 bX0_seek_55 = true := by decide +kernel
theorem eX0_seek_56 : decode mX0_seek.2.1 56 = .ok (.ifCond .le 11, 3) := by decide +kernel
def bX0_seek_59 : List OP := [oi (.aload_n 0), oi (.aload_n 1), oi (.iconst 0), oi (.iconst 0), oi (.iconst 0)]
theorem oX0_seek_59 : okB mX0_seek 59 bX0_seek_59 = true := by decide +kernel
theorem eX0_seek_64 : decode mX0_seek.2.1 64 = .ok (.invokevirtual 55, 3) := by decide +kernel
theorem lX0_seek_64 : okL 674 (.methodLink mX0_seek.1.cls 55 mX0_placeFrom.1) = true := by decide +kernel
theorem eX0_seek_67 : decode mX0_seek.2.1 67 = .ok (.return_, 1) := by decide +kernel
def bX0_placeFrom_0 : List OP := [oi (.iload_n 2), oi (.aload_n 1), (.getfield 36, 2, 2, 2, 0, 155)]
theorem oX0_placeFrom_0 : okB mX0_placeFrom 0 bX0_placeFrom_0 = true := by decide +kernel
theorem eX0_placeFrom_5 : decode mX0_placeFrom.2.1 5 = .ok (.if_icmp .lt 4, 3) := by decide +kernel
theorem eX0_placeFrom_8 : decode mX0_placeFrom.2.1 8 = .ok (.return_, 1) := by decide +kernel
def bX0_placeFrom_9 : List OP := [oi (.iconst 2), oi (.istore 5)]
theorem oX0_placeFrom_9 : okB mX0_placeFrom 9 bX0_placeFrom_9 = true := by decide +kernel
def bX0_placeFrom_12 : List OP := [oi (.iload 5)]
theorem oX0_placeFrom_12 : okB mX0_placeFrom 12 bX0_placeFrom_12 = true := by decide +kernel
theorem eX0_placeFrom_14 : decode mX0_placeFrom.2.1 14 = .ok (.ifCond .lt 47, 3) := by decide +kernel
def bX0_placeFrom_17 : List OP := [oi (.aload_n 1), oi (.iload_n 2)]
theorem oX0_placeFrom_17 : okB mX0_placeFrom 17 bX0_placeFrom_17 = true := by decide +kernel
theorem eX0_placeFrom_19 : decode mX0_placeFrom.2.1 19 = .ok (.invokevirtual 59, 3) := by decide +kernel
theorem lX0_placeFrom_19 : okL 678 (.methodLink mX0_placeFrom.1.cls 59 mX2_isDoor.1) = true := by decide +kernel
theorem eX0_placeFrom_22 : decode mX0_placeFrom.2.1 22 = .ok (.ifCond .ne 16, 3) := by decide +kernel
def bX0_placeFrom_25 : List OP := [oi (.iload 5), oi (.aload_n 0), (.getfield 24, 2, 0, 2, 2, 245), oi (.iload_n 2), oi (.iconst 1), oi .isub, oi .iaload]
theorem oX0_placeFrom_25 : okB mX0_placeFrom 25 bX0_placeFrom_25 = true := by decide +kernel
theorem eX0_placeFrom_35 : decode mX0_placeFrom.2.1 35 = .ok (.if_icmp .ne 20, 3) := by decide +kernel
def bX0_placeFrom_38 : List OP := [oi (.aload_n 0), (.getfield 24, 2, 0, 2, 2, 245), oi (.iload_n 2), oi (.iload 5), oi .iastore, oi (.aload_n 0), oi (.aload_n 1), oi (.iload_n 2), oi (.iload_n 3), oi (.iload 4)]
theorem oX0_placeFrom_38 : okB mX0_placeFrom 38 bX0_placeFrom_38 = true := by decide +kernel
theorem eX0_placeFrom_52 : decode mX0_placeFrom.2.1 52 = .ok (.invokevirtual 63, 3) := by decide +kernel
theorem lX0_placeFrom_52 : okL 679 (.methodLink mX0_placeFrom.1.cls 63 mX0_place.1) = true := by decide +kernel
def bX0_placeFrom_55 : List OP := [oi (.iinc 5 (-1)), (.goto (-46), 0, 0, 12, 0, 0)]
theorem oX0_placeFrom_55 : okB mX0_placeFrom 55 bX0_placeFrom_55 = true := by decide +kernel
theorem eX0_placeFrom_61 : decode mX0_placeFrom.2.1 61 = .ok (.return_, 1) := by decide +kernel
def bX0_place_0 : List OP := [oi (.iload_n 3), oi (.aload_n 1), oi (.iload_n 2), oi (.aload_n 0), (.getfield 24, 2, 0, 2, 2, 245), oi (.iload_n 2), oi .iaload]
theorem oX0_place_0 : okB mX0_place 0 bX0_place_0 = true := by decide +kernel
theorem eX0_place_9 : decode mX0_place.2.1 9 = .ok (.invokevirtual 66, 3) := by decide +kernel
theorem lX0_place_9 : okL 683 (.methodLink mX0_place.1.cls 66 mX2_bitsOf.1) = true := by decide +kernel
def bX0_place_12 : List OP := [oi .iadd, oi (.istore 5), oi (.aload_n 0), oi (.iload 5), oi (.iload 4)]
theorem oX0_place_12 : okB mX0_place 12 bX0_place_12 = true := by decide +kernel
theorem eX0_place_20 : decode mX0_place.2.1 20 = .ok (.invokevirtual 69, 3) := by decide +kernel
theorem lX0_place_20 : okL 684 (.methodLink mX0_place.1.cls 69 mX0_secondOf.1) = true := by decide +kernel
def bX0_place_23 : List OP := [oi (.istore 6), oi (.aload_n 0), (.getfield 27, 3, 0, 3, 2, 246), oi (.iload_n 2), oi (.iload 6), oi .iastore, oi (.aload_n 0), (.getfield 33, 5, 0, 5, 2, 248), oi (.iload_n 2), oi (.aload_n 0), (.getfield 24, 2, 0, 2, 2, 245), oi (.iload_n 2), oi .iaload, oi (.iload_n 2)]
theorem oX0_place_23 : okB mX0_place 23 bX0_place_23 = true := by decide +kernel
theorem eX0_place_45 : decode mX0_place.2.1 45 = .ok (.ifCond .le 14, 3) := by decide +kernel
def bX0_place_48 : List OP := [oi (.aload_n 0), (.getfield 33, 5, 0, 5, 2, 248), oi (.iload_n 2), oi (.iconst 1), oi .isub, oi .iaload, (.goto 4, 0, 0, 60, 0, 0)]
theorem oX0_place_48 : okB mX0_place 48 bX0_place_48 = true := by decide +kernel
def bX0_place_59 : List OP := [oi (.iconst 0)]
theorem oX0_place_59 : okB mX0_place 59 bX0_place_59 = true := by decide +kernel
def bX0_place_60 : List OP := [oi .iadd, oi .iastore, oi (.iload_n 2), oi (.iconst 1), oi .iadd, oi (.aload_n 0), (.getfield 46, 6, 0, 6, 0, 249)]
theorem oX0_place_60 : okB mX0_place 60 bX0_place_60 = true := by decide +kernel
theorem eX0_place_69 : decode mX0_place.2.1 69 = .ok (.if_icmp .lt 39, 3) := by decide +kernel
def bX0_place_72 : List OP := [oi (.aload_n 0), (.getfield 30, 4, 0, 4, 2, 247), oi (.iload_n 2), oi (.iload_n 2), oi (.aload_n 0), (.getfield 46, 6, 0, 6, 0, 249)]
theorem oX0_place_72 : okB mX0_place 72 bX0_place_72 = true := by decide +kernel
theorem eX0_place_82 : decode mX0_place.2.1 82 = .ok (.if_icmp .lt 21, 3) := by decide +kernel
def bX0_place_85 : List OP := [oi (.iload 6), oi (.aload_n 0), (.getfield 30, 4, 0, 4, 2, 247), oi (.iload_n 2), oi (.iconst 1), oi .isub, oi .iaload, oi (.iconst 1), oi .iadd]
theorem oX0_place_85 : okB mX0_place 85 bX0_place_85 = true := by decide +kernel
theorem eX0_place_97 : decode mX0_place.2.1 97 = .ok (.invokestatic 72, 3) := by decide +kernel
theorem lX0_place_97 : okL 688 (.methodLink mX0_place.1.cls 72 mJ9_max.1) = true := by decide +kernel
def bX0_place_100 : List OP := [(.goto 7, 0, 0, 107, 0, 0)]
theorem oX0_place_100 : okB mX0_place 100 bX0_place_100 = true := by decide +kernel
def bX0_place_103 : List OP := [oi (.iload 6), oi (.iload_n 2), oi .iadd]
theorem oX0_place_103 : okB mX0_place 103 bX0_place_103 = true := by decide +kernel
def bX0_place_107 : List OP := [oi .iastore]
theorem oX0_place_107 : okB mX0_place 107 bX0_place_107 = true := by decide +kernel
def bX0_place_108 : List OP := [oi (.iload 6), oi (.bipush 60)]
theorem oX0_place_108 : okB mX0_place 108 bX0_place_108 = true := by decide +kernel
theorem eX0_place_112 : decode mX0_place.2.1 112 = .ok (.if_icmp .eq 25, 3) := by decide +kernel
def bX0_place_115 : List OP := [oi (.iload 5), oi (.aload_n 0), (.getfield 20, 1, 0, 1, 2, 244), oi (.bipush 59), oi .iaload]
theorem oX0_place_115 : okB mX0_place 115 bX0_place_115 = true := by decide +kernel
theorem eX0_place_124 : decode mX0_place.2.1 124 = .ok (.if_icmp .eq 13, 3) := by decide +kernel
def bX0_place_127 : List OP := [oi (.iload_n 2), oi (.iconst 1), oi .iadd, oi (.aload_n 1), (.getfield 36, 2, 2, 2, 0, 155)]
theorem oX0_place_127 : okB mX0_place 127 bX0_place_127 = true := by decide +kernel
theorem eX0_place_134 : decode mX0_place.2.1 134 = .ok (.if_icmp .ne 14, 3) := by decide +kernel
def bX0_place_137 : List OP := [oi (.aload_n 0), oi (.aload_n 1), oi (.iload_n 2), oi (.iconst 1), oi .iadd]
theorem oX0_place_137 : okB mX0_place 137 bX0_place_137 = true := by decide +kernel
theorem eX0_place_142 : decode mX0_place.2.1 142 = .ok (.invokevirtual 75, 3) := by decide +kernel
theorem lX0_place_142 : okL 689 (.methodLink mX0_place.1.cls 75 mX0_judge.1) = true := by decide +kernel
def bX0_place_145 : List OP := [(.goto 24, 0, 0, 169, 0, 0)]
theorem oX0_place_145 : okB mX0_place 145 bX0_place_145 = true := by decide +kernel
def bX0_place_148 : List OP := [oi (.aload_n 0), oi (.aload_n 1), oi (.iload_n 2)]
theorem oX0_place_148 : okB mX0_place 148 bX0_place_148 = true := by decide +kernel
theorem eX0_place_151 : decode mX0_place.2.1 151 = .ok (.invokevirtual 79, 3) := by decide +kernel
theorem lX0_place_151 : okL 705 (.methodLink mX0_place.1.cls 79 mX0_mayBeNoWorse.1) = true := by decide +kernel
theorem eX0_place_154 : decode mX0_place.2.1 154 = .ok (.ifCond .eq 15, 3) := by decide +kernel
def bX0_place_157 : List OP := [oi (.aload_n 0), oi (.aload_n 1), oi (.iload_n 2), oi (.iconst 1), oi .iadd, oi (.iload 5), oi (.iload 6)]
theorem oX0_place_157 : okB mX0_place 157 bX0_place_157 = true := by decide +kernel
theorem eX0_place_166 : decode mX0_place.2.1 166 = .ok (.invokevirtual 55, 3) := by decide +kernel
theorem lX0_place_166 : okL 674 (.methodLink mX0_place.1.cls 55 mX0_placeFrom.1) = true := by decide +kernel
theorem eX0_place_169 : decode mX0_place.2.1 169 = .ok (.return_, 1) := by decide +kernel
def bX0_secondOf_0 : List OP := [oi (.iload_n 2), oi (.istore_n 3)]
theorem oX0_secondOf_0 : okB mX0_secondOf 0 bX0_secondOf_0 = true := by decide +kernel
def bX0_secondOf_2 : List OP := [oi (.iload_n 3), oi (.bipush 60)]
theorem oX0_secondOf_2 : okB mX0_secondOf 2 bX0_secondOf_2 = true := by decide +kernel
theorem eX0_secondOf_5 : decode mX0_secondOf.2.1 5 = .ok (.if_icmp .ge 19, 3) := by decide +kernel
def bX0_secondOf_8 : List OP := [oi (.aload_n 0), (.getfield 20, 1, 0, 1, 2, 244), oi (.iload_n 3), oi .iaload, oi (.iload_n 1)]
theorem oX0_secondOf_8 : okB mX0_secondOf 8 bX0_secondOf_8 = true := by decide +kernel
theorem eX0_secondOf_15 : decode mX0_secondOf.2.1 15 = .ok (.if_icmp .ge 9, 3) := by decide +kernel
def bX0_secondOf_18 : List OP := [oi (.iinc 3 1), (.goto (-19), 0, 0, 2, 0, 0)]
theorem oX0_secondOf_18 : okB mX0_secondOf 18 bX0_secondOf_18 = true := by decide +kernel
def bX0_secondOf_24 : List OP := [oi (.iload_n 3)]
theorem oX0_secondOf_24 : okB mX0_secondOf 24 bX0_secondOf_24 = true := by decide +kernel
theorem eX0_secondOf_25 : decode mX0_secondOf.2.1 25 = .ok (.ireturn, 1) := by decide +kernel
def bX0_mayBeNoWorse_0 : List OP := [oi (.aload_n 0), (.getfield 12, 0, 0, 0, 2, 242), (.getfield 83, 1, 9, 1, 0, 210), oi (.aload_n 1), (.getfield 36, 2, 2, 2, 0, 155)]
theorem oX0_mayBeNoWorse_0 : okB mX0_mayBeNoWorse 0 bX0_mayBeNoWorse_0 = true := by decide +kernel
theorem eX0_mayBeNoWorse_11 : decode mX0_mayBeNoWorse.2.1 11 = .ok (.if_icmp .ge 5, 3) := by decide +kernel
def bX0_mayBeNoWorse_14 : List OP := [oi (.iconst 1)]
theorem oX0_mayBeNoWorse_14 : okB mX0_mayBeNoWorse 14 bX0_mayBeNoWorse_14 = true := by decide +kernel
theorem eX0_mayBeNoWorse_15 : decode mX0_mayBeNoWorse.2.1 15 = .ok (.ireturn, 1) := by decide +kernel
def bX0_mayBeNoWorse_16 : List OP := [oi (.iconst 0), oi (.istore_n 3), oi (.iload_n 2), oi (.iconst 1), oi .iadd, oi (.aload_n 0), (.getfield 46, 6, 0, 6, 0, 249)]
theorem oX0_mayBeNoWorse_16 : okB mX0_mayBeNoWorse 16 bX0_mayBeNoWorse_16 = true := by decide +kernel
theorem eX0_mayBeNoWorse_25 : decode mX0_mayBeNoWorse.2.1 25 = .ok (.if_icmp .lt 37, 3) := by decide +kernel
def bX0_mayBeNoWorse_28 : List OP := [oi (.aload_n 0), (.getfield 30, 4, 0, 4, 2, 247), oi (.iload_n 2), oi .iaload, oi (.bipush 60)]
theorem oX0_mayBeNoWorse_28 : okB mX0_mayBeNoWorse 28 bX0_mayBeNoWorse_28 = true := by decide +kernel
theorem eX0_mayBeNoWorse_36 : decode mX0_mayBeNoWorse.2.1 36 = .ok (.if_icmp .lt 5, 3) := by decide +kernel
def bX0_mayBeNoWorse_39 : List OP := [oi (.iconst 0)]
theorem oX0_mayBeNoWorse_39 : okB mX0_mayBeNoWorse 39 bX0_mayBeNoWorse_39 = true := by decide +kernel
theorem eX0_mayBeNoWorse_40 : decode mX0_mayBeNoWorse.2.1 40 = .ok (.ireturn, 1) := by decide +kernel
def bX0_mayBeNoWorse_41 : List OP := [oi (.aload_n 0), (.getfield 30, 4, 0, 4, 2, 247), oi (.iload_n 2), oi .iaload, oi (.iload_n 2), oi .isub, oi (.aload_n 0), (.getfield 27, 3, 0, 3, 2, 246), oi (.aload_n 0), (.getfield 46, 6, 0, 6, 0, 249), oi (.iconst 1), oi .isub, oi .iaload, oi .isub, oi (.istore_n 3)]
theorem oX0_mayBeNoWorse_41 : okB mX0_mayBeNoWorse 41 bX0_mayBeNoWorse_41 = true := by decide +kernel
def bX0_mayBeNoWorse_62 : List OP := [oi (.aload_n 0), (.getfield 33, 5, 0, 5, 2, 248), oi (.iload_n 2), oi .iaload, oi (.aload_n 1), (.getfield 36, 2, 2, 2, 0, 155), oi (.iconst 1), oi .isub, oi (.iload_n 2), oi .isub, oi (.iconst 2), oi .imul, oi .iadd, oi (.istore 4), oi (.iload_n 3), oi (.aload_n 0), (.getfield 12, 0, 0, 0, 2, 242), (.getfield 86, 2, 9, 2, 0, 212)]
theorem oX0_mayBeNoWorse_62 : okB mX0_mayBeNoWorse 62 bX0_mayBeNoWorse_62 = true := by decide +kernel
theorem eX0_mayBeNoWorse_89 : decode mX0_mayBeNoWorse.2.1 89 = .ok (.if_icmp .lt 26, 3) := by decide +kernel
def bX0_mayBeNoWorse_92 : List OP := [oi (.iload_n 3), oi (.aload_n 0), (.getfield 12, 0, 0, 0, 2, 242), (.getfield 86, 2, 9, 2, 0, 212)]
theorem oX0_mayBeNoWorse_92 : okB mX0_mayBeNoWorse 92 bX0_mayBeNoWorse_92 = true := by decide +kernel
theorem eX0_mayBeNoWorse_100 : decode mX0_mayBeNoWorse.2.1 100 = .ok (.if_icmp .ne 19, 3) := by decide +kernel
def bX0_mayBeNoWorse_103 : List OP := [oi (.iload 4), oi (.aload_n 0), (.getfield 12, 0, 0, 0, 2, 242), (.getfield 89, 3, 9, 3, 0, 214)]
theorem oX0_mayBeNoWorse_103 : okB mX0_mayBeNoWorse 103 bX0_mayBeNoWorse_103 = true := by decide +kernel
theorem eX0_mayBeNoWorse_112 : decode mX0_mayBeNoWorse.2.1 112 = .ok (.if_icmp .lt 7, 3) := by decide +kernel
def bX0_mayBeNoWorse_115 : List OP := [oi (.iconst 1), (.goto 4, 0, 0, 120, 0, 0)]
theorem oX0_mayBeNoWorse_115 : okB mX0_mayBeNoWorse 115 bX0_mayBeNoWorse_115 = true := by decide +kernel
def bX0_mayBeNoWorse_119 : List OP := [oi (.iconst 0)]
theorem oX0_mayBeNoWorse_119 : okB mX0_mayBeNoWorse 119 bX0_mayBeNoWorse_119 = true := by decide +kernel
theorem eX0_mayBeNoWorse_120 : decode mX0_mayBeNoWorse.2.1 120 = .ok (.ireturn, 1) := by decide +kernel
def bX0_judge_0 : List OP := [oi (.aload_n 0), oi (.iconst 0), (.putfield 92, 7, 0, 7, 0, 250), oi (.aload_n 0), oi (.iconst 0), (.putfield 95, 8, 0, 8, 0, 251), oi (.aload_n 0), oi (.iconst 0), (.putfield 98, 9, 0, 9, 0, 252), oi (.aload_n 0), oi (.bipush (-6)), (.putfield 101, 10, 0, 10, 0, 253), oi (.aload_n 0), (.getfield 27, 3, 0, 3, 2, 246), oi (.iload_n 2), oi (.iconst 1), oi .isub, oi .iaload, oi (.bipush 60)]
theorem oX0_judge_0 : okB mX0_judge 0 bX0_judge_0 = true := by decide +kernel
theorem eX0_judge_31 : decode mX0_judge.2.1 31 = .ok (.if_icmp .ge 7, 3) := by decide +kernel
def bX0_judge_34 : List OP := [oi (.iload_n 2), (.goto 6, 0, 0, 41, 0, 0)]
theorem oX0_judge_34 : okB mX0_judge 34 bX0_judge_34 = true := by decide +kernel
def bX0_judge_38 : List OP := [oi (.iload_n 2), oi (.iconst 1), oi .isub]
theorem oX0_judge_38 : okB mX0_judge 38 bX0_judge_38 = true := by decide +kernel
def bX0_judge_41 : List OP := [oi (.istore_n 3), oi (.iload_n 3), oi (.aload_n 0), (.getfield 46, 6, 0, 6, 0, 249)]
theorem oX0_judge_41 : okB mX0_judge 41 bX0_judge_41 = true := by decide +kernel
theorem eX0_judge_47 : decode mX0_judge.2.1 47 = .ok (.if_icmp .lt 9, 3) := by decide +kernel
def bX0_judge_50 : List OP := [oi (.aload_n 0), oi (.aload_n 1), oi (.iload_n 3)]
theorem oX0_judge_50 : okB mX0_judge 50 bX0_judge_50 = true := by decide +kernel
theorem eX0_judge_53 : decode mX0_judge.2.1 53 = .ok (.invokevirtual 104, 3) := by decide +kernel
theorem lX0_judge_53 : okL 693 (.methodLink mX0_judge.1.cls 104 mX0_watch.1) = true := by decide +kernel
def bX0_judge_56 : List OP := [oi (.aload_n 0)]
theorem oX0_judge_56 : okB mX0_judge 56 bX0_judge_56 = true := by decide +kernel
theorem eX0_judge_57 : decode mX0_judge.2.1 57 = .ok (.invokevirtual 107, 3) := by decide +kernel
theorem lX0_judge_57 : okL 697 (.methodLink mX0_judge.1.cls 107 mX0_isNoWorse.1) = true := by decide +kernel
theorem eX0_judge_60 : decode mX0_judge.2.1 60 = .ok (.ifCond .eq 8, 3) := by decide +kernel
def bX0_judge_63 : List OP := [oi (.aload_n 0), oi (.iload_n 2)]
theorem oX0_judge_63 : okB mX0_judge 63 bX0_judge_63 = true := by decide +kernel
theorem eX0_judge_65 : decode mX0_judge.2.1 65 = .ok (.invokevirtual 111, 3) := by decide +kernel
theorem lX0_judge_65 : okL 701 (.methodLink mX0_judge.1.cls 111 mX0_keep.1) = true := by decide +kernel
theorem eX0_judge_68 : decode mX0_judge.2.1 68 = .ok (.return_, 1) := by decide +kernel
def bX0_watch_0 : List OP := [oi (.aload_n 0), (.getfield 27, 3, 0, 3, 2, 246), oi (.aload_n 0), (.getfield 46, 6, 0, 6, 0, 249), oi (.iconst 1), oi .isub, oi .iaload, oi (.istore_n 3), oi (.iload_n 3), oi (.istore 4), oi (.iconst 0), oi (.istore 5)]
theorem oX0_watch_0 : okB mX0_watch 0 bX0_watch_0 = true := by decide +kernel
def bX0_watch_18 : List OP := [oi (.iload 5), oi (.iload_n 2)]
theorem oX0_watch_18 : okB mX0_watch 18 bX0_watch_18 = true := by decide +kernel
theorem eX0_watch_21 : decode mX0_watch.2.1 21 = .ok (.if_icmp .ge 43, 3) := by decide +kernel
def bX0_watch_24 : List OP := [oi (.iload 4), oi (.bipush 60)]
theorem oX0_watch_24 : okB mX0_watch 24 bX0_watch_24 = true := by decide +kernel
theorem eX0_watch_28 : decode mX0_watch.2.1 28 = .ok (.if_icmp .ge 36, 3) := by decide +kernel
def bX0_watch_31 : List OP := [oi (.iload 4), oi (.aload_n 0), (.getfield 27, 3, 0, 3, 2, 246), oi (.iload 5), oi .iaload]
theorem oX0_watch_31 : okB mX0_watch 31 bX0_watch_31 = true := by decide +kernel
theorem eX0_watch_40 : decode mX0_watch.2.1 40 = .ok (.invokestatic 72, 3) := by decide +kernel
theorem lX0_watch_40 : okL 688 (.methodLink mX0_watch.1.cls 72 mJ9_max.1) = true := by decide +kernel
def bX0_watch_43 : List OP := [oi (.istore 4), oi (.aload_n 0), oi .dup, (.getfield 92, 7, 0, 7, 0, 250), oi (.iconst 1), oi .iadd, (.putfield 92, 7, 0, 7, 0, 250), oi (.iinc 4 1), oi (.iinc 5 1), (.goto (-43), 0, 0, 18, 0, 0)]
theorem oX0_watch_43 : okB mX0_watch 43 bX0_watch_43 = true := by decide +kernel
def bX0_watch_64 : List OP := [oi (.aload_n 0), oi (.aload_n 0), (.getfield 92, 7, 0, 7, 0, 250)]
theorem oX0_watch_64 : okB mX0_watch 64 bX0_watch_64 = true := by decide +kernel
theorem eX0_watch_69 : decode mX0_watch.2.1 69 = .ok (.ifCond .le 17, 3) := by decide +kernel
def bX0_watch_72 : List OP := [oi (.aload_n 0), (.getfield 33, 5, 0, 5, 2, 248), oi (.aload_n 0), (.getfield 92, 7, 0, 7, 0, 250), oi (.iconst 1), oi .isub, oi .iaload, (.goto 4, 0, 0, 87, 0, 0)]
theorem oX0_watch_72 : okB mX0_watch 72 bX0_watch_72 = true := by decide +kernel
def bX0_watch_86 : List OP := [oi (.iconst 0)]
theorem oX0_watch_86 : okB mX0_watch 86 bX0_watch_86 = true := by decide +kernel
def bX0_watch_87 : List OP := [(.putfield 98, 9, 0, 9, 0, 252), oi (.bipush 60), oi (.istore 5), oi (.aload_n 0), (.getfield 92, 7, 0, 7, 0, 250), oi (.aload_n 1), (.getfield 36, 2, 2, 2, 0, 155)]
theorem oX0_watch_87 : okB mX0_watch 87 bX0_watch_87 = true := by decide +kernel
theorem eX0_watch_102 : decode mX0_watch.2.1 102 = .ok (.if_icmp .ne 15, 3) := by decide +kernel
def bX0_watch_105 : List OP := [oi (.iload 4), oi (.istore 5), oi (.aload_n 0), oi (.iload 4), oi (.iconst 1), oi .isub, (.putfield 101, 10, 0, 10, 0, 253)]
theorem oX0_watch_105 : okB mX0_watch 105 bX0_watch_105 = true := by decide +kernel
def bX0_watch_117 : List OP := [oi (.aload_n 0), oi (.iload 5), oi (.iload_n 3), oi .isub, oi (.aload_n 0), (.getfield 92, 7, 0, 7, 0, 250), oi .isub, (.putfield 95, 8, 0, 8, 0, 251)]
theorem oX0_watch_117 : okB mX0_watch 117 bX0_watch_117 = true := by decide +kernel
theorem eX0_watch_130 : decode mX0_watch.2.1 130 = .ok (.return_, 1) := by decide +kernel
def bX0_isNoWorse_0 : List OP := [oi (.aload_n 0), (.getfield 92, 7, 0, 7, 0, 250), oi (.aload_n 0), (.getfield 12, 0, 0, 0, 2, 242), (.getfield 83, 1, 9, 1, 0, 210)]
theorem oX0_isNoWorse_0 : okB mX0_isNoWorse 0 bX0_isNoWorse_0 = true := by decide +kernel
theorem eX0_isNoWorse_11 : decode mX0_isNoWorse.2.1 11 = .ok (.if_icmp .eq 23, 3) := by decide +kernel
def bX0_isNoWorse_14 : List OP := [oi (.aload_n 0), (.getfield 92, 7, 0, 7, 0, 250), oi (.aload_n 0), (.getfield 12, 0, 0, 0, 2, 242), (.getfield 83, 1, 9, 1, 0, 210)]
theorem oX0_isNoWorse_14 : okB mX0_isNoWorse 14 bX0_isNoWorse_14 = true := by decide +kernel
theorem eX0_isNoWorse_25 : decode mX0_isNoWorse.2.1 25 = .ok (.if_icmp .le 7, 3) := by decide +kernel
def bX0_isNoWorse_28 : List OP := [oi (.iconst 1), (.goto 4, 0, 0, 33, 0, 0)]
theorem oX0_isNoWorse_28 : okB mX0_isNoWorse 28 bX0_isNoWorse_28 = true := by decide +kernel
def bX0_isNoWorse_32 : List OP := [oi (.iconst 0)]
theorem oX0_isNoWorse_32 : okB mX0_isNoWorse 32 bX0_isNoWorse_32 = true := by decide +kernel
theorem eX0_isNoWorse_33 : decode mX0_isNoWorse.2.1 33 = .ok (.ireturn, 1) := by decide +kernel
def bX0_isNoWorse_34 : List OP := [oi (.aload_n 0), (.getfield 95, 8, 0, 8, 0, 251), oi (.aload_n 0), (.getfield 12, 0, 0, 0, 2, 242), (.getfield 86, 2, 9, 2, 0, 212)]
theorem oX0_isNoWorse_34 : okB mX0_isNoWorse 34 bX0_isNoWorse_34 = true := by decide +kernel
theorem eX0_isNoWorse_45 : decode mX0_isNoWorse.2.1 45 = .ok (.if_icmp .eq 23, 3) := by decide +kernel
def bX0_isNoWorse_48 : List OP := [oi (.aload_n 0), (.getfield 95, 8, 0, 8, 0, 251), oi (.aload_n 0), (.getfield 12, 0, 0, 0, 2, 242), (.getfield 86, 2, 9, 2, 0, 212)]
theorem oX0_isNoWorse_48 : okB mX0_isNoWorse 48 bX0_isNoWorse_48 = true := by decide +kernel
theorem eX0_isNoWorse_59 : decode mX0_isNoWorse.2.1 59 = .ok (.if_icmp .ge 7, 3) := by decide +kernel
def bX0_isNoWorse_62 : List OP := [oi (.iconst 1), (.goto 4, 0, 0, 67, 0, 0)]
theorem oX0_isNoWorse_62 : okB mX0_isNoWorse 62 bX0_isNoWorse_62 = true := by decide +kernel
def bX0_isNoWorse_66 : List OP := [oi (.iconst 0)]
theorem oX0_isNoWorse_66 : okB mX0_isNoWorse 66 bX0_isNoWorse_66 = true := by decide +kernel
theorem eX0_isNoWorse_67 : decode mX0_isNoWorse.2.1 67 = .ok (.ireturn, 1) := by decide +kernel
def bX0_isNoWorse_68 : List OP := [oi (.aload_n 0), (.getfield 98, 9, 0, 9, 0, 252), oi (.aload_n 0), (.getfield 12, 0, 0, 0, 2, 242), (.getfield 89, 3, 9, 3, 0, 214)]
theorem oX0_isNoWorse_68 : okB mX0_isNoWorse 68 bX0_isNoWorse_68 = true := by decide +kernel
theorem eX0_isNoWorse_79 : decode mX0_isNoWorse.2.1 79 = .ok (.if_icmp .lt 7, 3) := by decide +kernel
def bX0_isNoWorse_82 : List OP := [oi (.iconst 1), (.goto 4, 0, 0, 87, 0, 0)]
theorem oX0_isNoWorse_82 : okB mX0_isNoWorse 82 bX0_isNoWorse_82 = true := by decide +kernel
def bX0_isNoWorse_86 : List OP := [oi (.iconst 0)]
theorem oX0_isNoWorse_86 : okB mX0_isNoWorse 86 bX0_isNoWorse_86 = true := by decide +kernel
theorem eX0_isNoWorse_87 : decode mX0_isNoWorse.2.1 87 = .ok (.ireturn, 1) := by decide +kernel
def bX0_keep_0 : List OP := [oi (.aload_n 0), (.getfield 12, 0, 0, 0, 2, 242), oi (.aload_n 0), (.getfield 92, 7, 0, 7, 0, 250), (.putfield 83, 1, 9, 1, 0, 210), oi (.aload_n 0), (.getfield 12, 0, 0, 0, 2, 242), oi (.aload_n 0), (.getfield 95, 8, 0, 8, 0, 251), (.putfield 86, 2, 9, 2, 0, 212), oi (.aload_n 0), (.getfield 12, 0, 0, 0, 2, 242), oi (.aload_n 0), (.getfield 98, 9, 0, 9, 0, 252), (.putfield 89, 3, 9, 3, 0, 214), oi (.aload_n 0), (.getfield 12, 0, 0, 0, 2, 242), oi (.aload_n 0), (.getfield 101, 10, 0, 10, 0, 253), (.putfield 115, 4, 9, 4, 0, 216), oi (.iconst 0), oi (.istore_n 2)]
theorem oX0_keep_0 : okB mX0_keep 0 bX0_keep_0 = true := by decide +kernel
def bX0_keep_46 : List OP := [oi (.iload_n 2), oi (.bipush 8)]
theorem oX0_keep_46 : okB mX0_keep 46 bX0_keep_46 = true := by decide +kernel
theorem eX0_keep_49 : decode mX0_keep.2.1 49 = .ok (.if_icmp .ge 34, 3) := by decide +kernel
def bX0_keep_52 : List OP := [oi (.aload_n 0), (.getfield 12, 0, 0, 0, 2, 242), (.getfield 118, 0, 9, 0, 2, 208), oi (.iload_n 2), oi (.iload_n 2), oi (.iload_n 1)]
theorem oX0_keep_52 : okB mX0_keep 52 bX0_keep_52 = true := by decide +kernel
theorem eX0_keep_62 : decode mX0_keep.2.1 62 = .ok (.if_icmp .ge 12, 3) := by decide +kernel
def bX0_keep_65 : List OP := [oi (.aload_n 0), (.getfield 24, 2, 0, 2, 2, 245), oi (.iload_n 2), oi .iaload, (.goto 5, 0, 0, 76, 0, 0)]
theorem oX0_keep_65 : okB mX0_keep 65 bX0_keep_65 = true := by decide +kernel
def bX0_keep_74 : List OP := [oi (.bipush (-6))]
theorem oX0_keep_74 : okB mX0_keep 74 bX0_keep_74 = true := by decide +kernel
def bX0_keep_76 : List OP := [oi .iastore, oi (.iinc 2 1), (.goto (-34), 0, 0, 46, 0, 0)]
theorem oX0_keep_76 : okB mX0_keep 76 bX0_keep_76 = true := by decide +kernel
theorem eX0_keep_83 : decode mX0_keep.2.1 83 = .ok (.return_, 1) := by decide +kernel
def bX1_cut_0 : List OP := [oi (.aload_n 1), (.getfield 24, 2, 3, 2, 2, 111), oi (.iload_n 2), oi .baload, oi (.istore 4), oi (.iconst 0), oi (.istore 5)]
theorem oX1_cut_0 : okB mX1_cut 0 bX1_cut_0 = true := by decide +kernel
def bX1_cut_11 : List OP := [oi (.iload 5), oi (.iconst 4)]
theorem oX1_cut_11 : okB mX1_cut 11 bX1_cut_11 = true := by decide +kernel
theorem eX1_cut_14 : decode mX1_cut.2.1 14 = .ok (.if_icmp .ge 65, 3) := by decide +kernel
def bX1_cut_17 : List OP := [oi (.iload 4)]
theorem oX1_cut_17 : okB mX1_cut 17 bX1_cut_17 = true := by decide +kernel
theorem eX1_cut_19 : decode mX1_cut.2.1 19 = .ok (.ifCond .eq 8, 3) := by decide +kernel
def bX1_cut_22 : List OP := [oi (.bipush 9), (.goto 4, 0, 0, 28, 0, 0)]
theorem oX1_cut_22 : okB mX1_cut 22 bX1_cut_22 = true := by decide +kernel
def bX1_cut_27 : List OP := [oi (.iconst 0)]
theorem oX1_cut_27 : okB mX1_cut 27 bX1_cut_27 = true := by decide +kernel
def bX1_cut_28 : List OP := [oi (.istore 6)]
theorem oX1_cut_28 : okB mX1_cut 28 bX1_cut_28 = true := by decide +kernel
def bX1_cut_30 : List OP := [oi (.iload 6), oi (.bipush 11)]
theorem oX1_cut_30 : okB mX1_cut 30 bX1_cut_30 = true := by decide +kernel
theorem eX1_cut_34 : decode mX1_cut.2.1 34 = .ok (.if_icmp .ge 31, 3) := by decide +kernel
def bX1_cut_37 : List OP := [oi (.aload_n 0), (.getfield 11, 0, 1, 0, 2, 78), oi (.iload 5), oi (.bipush 11), oi .imul, oi (.iload 6), oi .iadd, oi (.aload_n 1), oi (.iload_n 2), oi (.iload 5), oi (.iload 6)]
theorem oX1_cut_37 : okB mX1_cut 37 bX1_cut_37 = true := by decide +kernel
theorem eX1_cut_55 : decode mX1_cut.2.1 55 = .ok (.invokestatic 28, 3) := by decide +kernel
theorem lX1_cut_55 : okL 472 (.methodLink mX1_cut.1.cls 28 mX1_lossBy.1) = true := by decide +kernel
def bX1_cut_58 : List OP := [oi .iastore, oi (.iinc 6 1), (.goto (-32), 0, 0, 30, 0, 0)]
theorem oX1_cut_58 : okB mX1_cut 58 bX1_cut_58 = true := by decide +kernel
def bX1_cut_65 : List OP := [oi (.aload_n 0), oi (.iload 5), oi (.iload 4)]
theorem oX1_cut_65 : okB mX1_cut 65 bX1_cut_65 = true := by decide +kernel
theorem eX1_cut_70 : decode mX1_cut.2.1 70 = .ok (.invokevirtual 32, 3) := by decide +kernel
theorem lX1_cut_70 : okL 488 (.methodLink mX1_cut.1.cls 32 mX1_gather.1) = true := by decide +kernel
def bX1_cut_73 : List OP := [oi (.iinc 5 1), (.goto (-65), 0, 0, 11, 0, 0)]
theorem oX1_cut_73 : okB mX1_cut 73 bX1_cut_73 = true := by decide +kernel
def bX1_cut_79 : List OP := [oi (.aload_n 0), oi (.iload 4)]
theorem oX1_cut_79 : okB mX1_cut 79 bX1_cut_79 = true := by decide +kernel
theorem eX1_cut_82 : decode mX1_cut.2.1 82 = .ok (.ifCond .eq 7, 3) := by decide +kernel
def bX1_cut_85 : List OP := [oi (.iconst 2), (.goto 4, 0, 0, 90, 0, 0)]
theorem oX1_cut_85 : okB mX1_cut 85 bX1_cut_85 = true := by decide +kernel
def bX1_cut_89 : List OP := [oi (.iconst 4)]
theorem oX1_cut_89 : okB mX1_cut 89 bX1_cut_89 = true := by decide +kernel
def bX1_cut_90 : List OP := [(.putfield 36, 4, 1, 4, 0, 82), oi (.aload_n 0), oi (.iload_n 3), oi (.iconst 4), oi (.iload 4)]
theorem oX1_cut_90 : okB mX1_cut 90 bX1_cut_90 = true := by decide +kernel
theorem eX1_cut_98 : decode mX1_cut.2.1 98 = .ok (.ifCond .eq 12, 3) := by decide +kernel
def bX1_cut_101 : List OP := [(.getstatic 40, 0, 2, 0, 0, 500), oi (.bipush 9), oi .iaload, (.goto 8, 0, 0, 115, 0, 0)]
theorem oX1_cut_101 : okB mX1_cut 101 bX1_cut_101 = true := by decide +kernel
def bX1_cut_110 : List OP := [(.getstatic 40, 0, 2, 0, 0, 500), oi (.iconst 4), oi .iaload]
theorem oX1_cut_110 : okB mX1_cut 110 bX1_cut_110 = true := by decide +kernel
def bX1_cut_115 : List OP := [oi .imul]
theorem oX1_cut_115 : okB mX1_cut 115 bX1_cut_115 = true := by decide +kernel
theorem eX1_cut_116 : decode mX1_cut.2.1 116 = .ok (.invokestatic 43, 3) := by decide +kernel
theorem lX1_cut_116 : okL 497 (.methodLink mX1_cut.1.cls 43 mJ9_max.1) = true := by decide +kernel
def bX1_cut_119 : List OP := [(.putfield 49, 5, 1, 5, 0, 83), oi (.aload_n 0), (.ldc 52, 1000000, 0, 0, 0, 502), (.putfield 53, 6, 1, 6, 0, 84), oi (.aload_n 0), (.ldc 52, 1000000, 0, 0, 0, 502), (.putfield 56, 7, 1, 7, 0, 85), oi (.aload_n 0), oi (.iconst 0), oi (.iconst 0), oi (.iconst 0)]
theorem oX1_cut_119 : okB mX1_cut 119 bX1_cut_119 = true := by decide +kernel
theorem eX1_cut_138 : decode mX1_cut.2.1 138 = .ok (.invokevirtual 59, 3) := by decide +kernel
theorem lX1_cut_138 : okL 503 (.methodLink mX1_cut.1.cls 59 mX1_tryBlock.1) = true := by decide +kernel
def bX1_cut_141 : List OP := [oi (.aload_n 0), oi (.aload_n 1), oi (.iload_n 2)]
theorem oX1_cut_141 : okB mX1_cut 141 bX1_cut_141 = true := by decide +kernel
theorem eX1_cut_144 : decode mX1_cut.2.1 144 = .ok (.invokevirtual 63, 3) := by decide +kernel
theorem lX1_cut_144 : okL 518 (.methodLink mX1_cut.1.cls 63 mX1_open.1) = true := by decide +kernel
theorem eX1_cut_147 : decode mX1_cut.2.1 147 = .ok (.return_, 1) := by decide +kernel
def bX1_gather_0 : List OP := [oi (.iload_n 1), oi (.iconst 4), oi .imul, oi (.istore_n 3), oi (.iload_n 2)]
theorem oX1_gather_0 : okB mX1_gather 0 bX1_gather_0 = true := by decide +kernel
theorem eX1_gather_5 : decode mX1_gather.2.1 5 = .ok (.ifCond .ne 39, 3) := by decide +kernel
def bX1_gather_8 : List OP := [oi (.aload_n 0), oi (.iload_n 1)]
theorem oX1_gather_8 : okB mX1_gather 8 bX1_gather_8 = true := by decide +kernel
theorem eX1_gather_10 : decode mX1_gather.2.1 10 = .ok (.invokevirtual 67, 3) := by decide +kernel
theorem lX1_gather_10 : okL 492 (.methodLink mX1_gather.1.cls 67 mX1_bestMoved.1) = true := by decide +kernel
def bX1_gather_13 : List OP := [oi (.istore 4), oi (.aload_n 0), (.getfield 15, 1, 1, 1, 2, 79), oi (.iload_n 3), oi (.iload 4), oi (.iconst 4)]
theorem oX1_gather_13 : okB mX1_gather 13 bX1_gather_13 = true := by decide +kernel
theorem eX1_gather_23 : decode mX1_gather.2.1 23 = .ok (.invokestatic 71, 3) := by decide +kernel
theorem lX1_gather_23 : okL 496 (.methodLink mX1_gather.1.cls 71 mJ9_min.1) = true := by decide +kernel
def bX1_gather_26 : List OP := [oi .iastore, oi (.aload_n 0), (.getfield 15, 1, 1, 1, 2, 79), oi (.iload_n 3), oi (.iconst 1), oi .iadd, oi (.iload 4), oi (.iconst 4)]
theorem oX1_gather_26 : okB mX1_gather 26 bX1_gather_26 = true := by decide +kernel
theorem eX1_gather_37 : decode mX1_gather.2.1 37 = .ok (.invokestatic 43, 3) := by decide +kernel
theorem lX1_gather_37 : okL 497 (.methodLink mX1_gather.1.cls 43 mJ9_max.1) = true := by decide +kernel
def bX1_gather_40 : List OP := [oi .iastore, oi (.iinc 3 2)]
theorem oX1_gather_40 : okB mX1_gather 40 bX1_gather_40 = true := by decide +kernel
def bX1_gather_44 : List OP := [oi (.aload_n 0), (.getfield 15, 1, 1, 1, 2, 79), oi (.iload_n 3), oi (.bipush 9), oi .iastore, oi (.aload_n 0), (.getfield 15, 1, 1, 1, 2, 79), oi (.iload_n 3), oi (.iconst 1), oi .iadd, oi (.bipush 10), oi .iastore]
theorem oX1_gather_44 : okB mX1_gather 44 bX1_gather_44 = true := by decide +kernel
theorem eX1_gather_62 : decode mX1_gather.2.1 62 = .ok (.return_, 1) := by decide +kernel
def bX1_bestMoved_0 : List OP := [oi (.iconst 0), oi (.istore_n 2), oi (.iconst 1), oi (.istore_n 3)]
theorem oX1_bestMoved_0 : okB mX1_bestMoved 0 bX1_bestMoved_0 = true := by decide +kernel
def bX1_bestMoved_4 : List OP := [oi (.iload_n 3), oi (.bipush 9)]
theorem oX1_bestMoved_4 : okB mX1_bestMoved 4 bX1_bestMoved_4 = true := by decide +kernel
theorem eX1_bestMoved_7 : decode mX1_bestMoved.2.1 7 = .ok (.if_icmp .ge 41, 3) := by decide +kernel
def bX1_bestMoved_10 : List OP := [oi (.iload_n 3), oi (.iconst 4)]
theorem oX1_bestMoved_10 : okB mX1_bestMoved 10 bX1_bestMoved_10 = true := by decide +kernel
theorem eX1_bestMoved_12 : decode mX1_bestMoved.2.1 12 = .ok (.if_icmp .eq 30, 3) := by decide +kernel
def bX1_bestMoved_15 : List OP := [oi (.aload_n 0), (.getfield 11, 0, 1, 0, 2, 78), oi (.iload_n 1), oi (.bipush 11), oi .imul, oi (.iload_n 3), oi .iadd, oi .iaload, oi (.aload_n 0), (.getfield 11, 0, 1, 0, 2, 78), oi (.iload_n 1), oi (.bipush 11), oi .imul, oi (.iload_n 2), oi .iadd, oi .iaload]
theorem oX1_bestMoved_15 : okB mX1_bestMoved 15 bX1_bestMoved_15 = true := by decide +kernel
theorem eX1_bestMoved_37 : decode mX1_bestMoved.2.1 37 = .ok (.if_icmp .ge 5, 3) := by decide +kernel
def bX1_bestMoved_40 : List OP := [oi (.iload_n 3), oi (.istore_n 2)]
theorem oX1_bestMoved_40 : okB mX1_bestMoved 40 bX1_bestMoved_40 = true := by decide +kernel
def bX1_bestMoved_42 : List OP := [oi (.iinc 3 1), (.goto (-41), 0, 0, 4, 0, 0)]
theorem oX1_bestMoved_42 : okB mX1_bestMoved 42 bX1_bestMoved_42 = true := by decide +kernel
def bX1_bestMoved_48 : List OP := [oi (.iload_n 2)]
theorem oX1_bestMoved_48 : okB mX1_bestMoved 48 bX1_bestMoved_48 = true := by decide +kernel
theorem eX1_bestMoved_49 : decode mX1_bestMoved.2.1 49 = .ok (.ireturn, 1) := by decide +kernel
def bX1_lossBy_0 : List OP := [oi (.iconst 0), oi (.istore 4), oi (.iconst 0), oi (.istore 5)]
theorem oX1_lossBy_0 : okB mX1_lossBy 0 bX1_lossBy_0 = true := by decide +kernel
def bX1_lossBy_6 : List OP := [oi (.iload 5), oi (.iconst 4)]
theorem oX1_lossBy_6 : okB mX1_lossBy 6 bX1_lossBy_6 = true := by decide +kernel
theorem eX1_lossBy_9 : decode mX1_lossBy.2.1 9 = .ok (.if_icmp .ge 57, 3) := by decide +kernel
def bX1_lossBy_12 : List OP := [(.getstatic 74, 0, 3, 0, 0, 475), oi (.iload_n 2), oi .iaload, (.getstatic 77, 0, 4, 0, 0, 477), oi (.iload 5), oi .iaload, oi .iadd, oi (.istore 6), oi (.aload_n 0), oi (.iload_n 1), oi (.iload_n 2), oi (.iload 6), oi (.iload_n 3)]
theorem oX1_lossBy_12 : okB mX1_lossBy 12 bX1_lossBy_12 = true := by decide +kernel
theorem eX1_lossBy_32 : decode mX1_lossBy.2.1 32 = .ok (.invokestatic 80, 3) := by decide +kernel
theorem lX1_lossBy_32 : okL 479 (.methodLink mX1_lossBy.1.cls 80 mX1_dotBy.1) = true := by decide +kernel
def bX1_lossBy_35 : List OP := [oi (.aload_n 0), (.getfield 84, 0, 3, 0, 2, 106), oi (.iload_n 1), oi (.bipush 16), oi .imul, oi (.iload 6), oi .iadd, oi .iaload, oi .isub, oi (.istore 7), oi (.iload 4), oi (.iload 7), oi (.iload 7), oi .imul, oi .iadd, oi (.istore 4), oi (.iinc 5 1), (.goto (-57), 0, 0, 6, 0, 0)]
theorem oX1_lossBy_35 : okB mX1_lossBy 35 bX1_lossBy_35 = true := by decide +kernel
def bX1_lossBy_66 : List OP := [oi (.iload 4)]
theorem oX1_lossBy_66 : okB mX1_lossBy 66 bX1_lossBy_66 = true := by decide +kernel
theorem eX1_lossBy_68 : decode mX1_lossBy.2.1 68 = .ok (.ireturn, 1) := by decide +kernel
def bX1_dotBy_0 : List OP := [oi (.iload 4), oi (.bipush 9)]
theorem oX1_dotBy_0 : okB mX1_dotBy 0 bX1_dotBy_0 = true := by decide +kernel
theorem eX1_dotBy_4 : decode mX1_dotBy.2.1 4 = .ok (.if_icmp .ne 10, 3) := by decide +kernel
def bX1_dotBy_7 : List OP := [oi (.aload_n 0), oi (.iload_n 1), oi (.iload_n 2)]
theorem oX1_dotBy_7 : okB mX1_dotBy 7 bX1_dotBy_7 = true := by decide +kernel
theorem eX1_dotBy_10 : decode mX1_dotBy.2.1 10 = .ok (.invokestatic 87, 3) := by decide +kernel
theorem lX1_dotBy_10 : okL 482 (.methodLink mX1_dotBy.1.cls 87 mX1_mean.1) = true := by decide +kernel
theorem eX1_dotBy_13 : decode mX1_dotBy.2.1 13 = .ok (.ireturn, 1) := by decide +kernel
def bX1_dotBy_14 : List OP := [oi (.iload 4), oi (.bipush 10)]
theorem oX1_dotBy_14 : okB mX1_dotBy 14 bX1_dotBy_14 = true := by decide +kernel
theorem eX1_dotBy_18 : decode mX1_dotBy.2.1 18 = .ok (.if_icmp .eq 7, 3) := by decide +kernel
def bX1_dotBy_21 : List OP := [oi (.iload_n 1)]
theorem oX1_dotBy_21 : okB mX1_dotBy 21 bX1_dotBy_21 = true := by decide +kernel
theorem eX1_dotBy_22 : decode mX1_dotBy.2.1 22 = .ok (.ifCond .ne 15, 3) := by decide +kernel
def bX1_dotBy_25 : List OP := [oi (.aload_n 0), (.getfield 84, 0, 3, 0, 2, 106), oi (.iload_n 1), oi (.bipush 16), oi .imul, oi (.iload_n 3), oi .iadd, oi .iaload]
theorem oX1_dotBy_25 : okB mX1_dotBy 25 bX1_dotBy_25 = true := by decide +kernel
theorem eX1_dotBy_36 : decode mX1_dotBy.2.1 36 = .ok (.ireturn, 1) := by decide +kernel
def bX1_dotBy_37 : List OP := [oi (.iload_n 3), oi (.iconst 4), oi .idiv, oi (.iload 4), oi (.iconst 3), oi .idiv, oi .iadd, oi (.iconst 1), oi .isub]
theorem oX1_dotBy_37 : okB mX1_dotBy 37 bX1_dotBy_37 = true := by decide +kernel
theorem eX1_dotBy_47 : decode mX1_dotBy.2.1 47 = .ok (.invokestatic 91, 3) := by decide +kernel
theorem lX1_dotBy_47 : okL 485 (.methodLink mX1_dotBy.1.cls 91 mX1_withinRim.1) = true := by decide +kernel
def bX1_dotBy_50 : List OP := [oi (.istore 5), oi (.iload_n 3), oi (.iconst 4), oi .irem, oi (.iload 4), oi (.iconst 3), oi .irem, oi .iadd, oi (.iconst 1), oi .isub]
theorem oX1_dotBy_50 : okB mX1_dotBy 50 bX1_dotBy_50 = true := by decide +kernel
theorem eX1_dotBy_62 : decode mX1_dotBy.2.1 62 = .ok (.invokestatic 91, 3) := by decide +kernel
theorem lX1_dotBy_62 : okL 485 (.methodLink mX1_dotBy.1.cls 91 mX1_withinRim.1) = true := by decide +kernel
def bX1_dotBy_65 : List OP := [oi (.istore 6), oi (.aload_n 0), (.getfield 94, 1, 3, 1, 2, 108), oi (.iload_n 1), oi (.iconst 1), oi .isub, oi (.bipush 16), oi .imul, oi (.iload 5), oi (.iconst 4), oi .imul, oi .iadd, oi (.iload 6), oi .iadd, oi .iaload]
theorem oX1_dotBy_65 : okB mX1_dotBy 65 bX1_dotBy_65 = true := by decide +kernel
theorem eX1_dotBy_86 : decode mX1_dotBy.2.1 86 = .ok (.ireturn, 1) := by decide +kernel
def bX1_mean_0 : List OP := [oi (.iload_n 1), oi (.bipush 16), oi .imul, (.getstatic 74, 0, 3, 0, 0, 475), oi (.iload_n 2), oi .iaload, oi .iadd, oi (.istore_n 3), oi (.iconst 0), oi (.istore 4), oi (.iconst 0), oi (.istore 5)]
theorem oX1_mean_0 : okB mX1_mean 0 bX1_mean_0 = true := by decide +kernel
def bX1_mean_17 : List OP := [oi (.iload 5), oi (.iconst 4)]
theorem oX1_mean_17 : okB mX1_mean 17 bX1_mean_17 = true := by decide +kernel
theorem eX1_mean_20 : decode mX1_mean.2.1 20 = .ok (.if_icmp .ge 27, 3) := by decide +kernel
def bX1_mean_23 : List OP := [oi (.iload 4), oi (.aload_n 0), (.getfield 84, 0, 3, 0, 2, 106), oi (.iload_n 3), (.getstatic 77, 0, 4, 0, 0, 477), oi (.iload 5), oi .iaload, oi .iadd, oi .iaload, oi .iadd, oi (.istore 4), oi (.iinc 5 1), (.goto (-27), 0, 0, 17, 0, 0)]
theorem oX1_mean_23 : okB mX1_mean 23 bX1_mean_23 = true := by decide +kernel
def bX1_mean_47 : List OP := [oi (.iload 4), oi (.iconst 4), oi .idiv]
theorem oX1_mean_47 : okB mX1_mean 47 bX1_mean_47 = true := by decide +kernel
theorem eX1_mean_51 : decode mX1_mean.2.1 51 = .ok (.ireturn, 1) := by decide +kernel
def bX1_withinRim_0 : List OP := [oi (.iload_n 0)]
theorem oX1_withinRim_0 : okB mX1_withinRim 0 bX1_withinRim_0 = true := by decide +kernel
theorem eX1_withinRim_1 : decode mX1_withinRim.2.1 1 = .ok (.ifCond .ge 7, 3) := by decide +kernel
def bX1_withinRim_4 : List OP := [oi (.iconst 0), (.goto 13, 0, 0, 18, 0, 0)]
theorem oX1_withinRim_4 : okB mX1_withinRim 4 bX1_withinRim_4 = true := by decide +kernel
def bX1_withinRim_8 : List OP := [oi (.iload_n 0), oi (.iconst 3)]
theorem oX1_withinRim_8 : okB mX1_withinRim 8 bX1_withinRim_8 = true := by decide +kernel
theorem eX1_withinRim_10 : decode mX1_withinRim.2.1 10 = .ok (.if_icmp .le 7, 3) := by decide +kernel
def bX1_withinRim_13 : List OP := [oi (.iconst 3), (.goto 4, 0, 0, 18, 0, 0)]
theorem oX1_withinRim_13 : okB mX1_withinRim 13 bX1_withinRim_13 = true := by decide +kernel
def bX1_withinRim_17 : List OP := [oi (.iload_n 0)]
theorem oX1_withinRim_17 : okB mX1_withinRim 17 bX1_withinRim_17 = true := by decide +kernel
theorem eX1_withinRim_18 : decode mX1_withinRim.2.1 18 = .ok (.ireturn, 1) := by decide +kernel
def bX1_tryBlock_0 : List OP := [oi (.iload_n 2), oi (.aload_n 0), (.getfield 49, 5, 1, 5, 0, 83)]
theorem oX1_tryBlock_0 : okB mX1_tryBlock 0 bX1_tryBlock_0 = true := by decide +kernel
theorem eX1_tryBlock_5 : decode mX1_tryBlock.2.1 5 = .ok (.if_icmp .gt 11, 3) := by decide +kernel
def bX1_tryBlock_8 : List OP := [oi (.iload_n 3), oi (.aload_n 0), (.getfield 53, 6, 1, 6, 0, 84)]
theorem oX1_tryBlock_8 : okB mX1_tryBlock 8 bX1_tryBlock_8 = true := by decide +kernel
theorem eX1_tryBlock_13 : decode mX1_tryBlock.2.1 13 = .ok (.if_icmp .le 4, 3) := by decide +kernel
theorem eX1_tryBlock_16 : decode mX1_tryBlock.2.1 16 = .ok (.return_, 1) := by decide +kernel
def bX1_tryBlock_17 : List OP := [oi (.iload_n 1), oi (.iconst 4)]
theorem oX1_tryBlock_17 : okB mX1_tryBlock 17 bX1_tryBlock_17 = true := by decide +kernel
theorem eX1_tryBlock_19 : decode mX1_tryBlock.2.1 19 = .ok (.if_icmp .lt 10, 3) := by decide +kernel
def bX1_tryBlock_22 : List OP := [oi (.aload_n 0), oi (.iload_n 2), oi (.iload_n 3)]
theorem oX1_tryBlock_22 : okB mX1_tryBlock 22 bX1_tryBlock_22 = true := by decide +kernel
theorem eX1_tryBlock_25 : decode mX1_tryBlock.2.1 25 = .ok (.invokevirtual 97, 3) := by decide +kernel
theorem lX1_tryBlock_25 : okL 507 (.methodLink mX1_tryBlock.1.cls 97 mX1_weigh.1) = true := by decide +kernel
theorem eX1_tryBlock_28 : decode mX1_tryBlock.2.1 28 = .ok (.return_, 1) := by decide +kernel
def bX1_tryBlock_29 : List OP := [oi (.iconst 0), oi (.istore 4)]
theorem oX1_tryBlock_29 : okB mX1_tryBlock 29 bX1_tryBlock_29 = true := by decide +kernel
def bX1_tryBlock_32 : List OP := [oi (.iload 4), oi (.aload_n 0), (.getfield 36, 4, 1, 4, 0, 82)]
theorem oX1_tryBlock_32 : okB mX1_tryBlock 32 bX1_tryBlock_32 = true := by decide +kernel
theorem eX1_tryBlock_38 : decode mX1_tryBlock.2.1 38 = .ok (.if_icmp .ge 27, 3) := by decide +kernel
def bX1_tryBlock_41 : List OP := [oi (.aload_n 0), oi (.iload_n 1), oi (.aload_n 0), (.getfield 15, 1, 1, 1, 2, 79), oi (.iload_n 1), oi (.iconst 4), oi .imul, oi (.iload 4), oi .iadd, oi .iaload, oi (.iload_n 2), oi (.iload_n 3)]
theorem oX1_tryBlock_41 : okB mX1_tryBlock 41 bX1_tryBlock_41 = true := by decide +kernel
theorem eX1_tryBlock_56 : decode mX1_tryBlock.2.1 56 = .ok (.invokevirtual 101, 3) := by decide +kernel
theorem lX1_tryBlock_56 : okL 514 (.methodLink mX1_tryBlock.1.cls 101 mX1_tryWay.1) = true := by decide +kernel
def bX1_tryBlock_59 : List OP := [oi (.iinc 4 1), (.goto (-30), 0, 0, 32, 0, 0)]
theorem oX1_tryBlock_59 : okB mX1_tryBlock 59 bX1_tryBlock_59 = true := by decide +kernel
theorem eX1_tryBlock_65 : decode mX1_tryBlock.2.1 65 = .ok (.return_, 1) := by decide +kernel
def bX1_tryWay_0 : List OP := [oi (.aload_n 0), (.getfield 18, 2, 1, 2, 2, 80), oi (.iload_n 1), oi (.iload_n 2), oi .iastore, oi (.aload_n 0), oi (.iload_n 1), oi (.iconst 1), oi .iadd, oi (.iload_n 3), (.getstatic 40, 0, 2, 0, 0, 500), oi (.iload_n 2), oi .iaload, oi .iadd, oi (.iload 4), oi (.aload_n 0), (.getfield 11, 0, 1, 0, 2, 78), oi (.iload_n 1), oi (.bipush 11), oi .imul, oi (.iload_n 2), oi .iadd, oi .iaload, oi .iadd]
theorem oX1_tryWay_0 : okB mX1_tryWay 0 bX1_tryWay_0 = true := by decide +kernel
theorem eX1_tryWay_32 : decode mX1_tryWay.2.1 32 = .ok (.invokevirtual 59, 3) := by decide +kernel
theorem lX1_tryWay_32 : okL 503 (.methodLink mX1_tryWay.1.cls 59 mX1_tryBlock.1) = true := by decide +kernel
theorem eX1_tryWay_35 : decode mX1_tryWay.2.1 35 = .ok (.return_, 1) := by decide +kernel
def bX1_weigh_0 : List OP := [oi (.iload_n 2), oi (.aload_n 0), (.getfield 53, 6, 1, 6, 0, 84)]
theorem oX1_weigh_0 : okB mX1_weigh 0 bX1_weigh_0 = true := by decide +kernel
theorem eX1_weigh_5 : decode mX1_weigh.2.1 5 = .ok (.if_icmp .lt 19, 3) := by decide +kernel
def bX1_weigh_8 : List OP := [oi (.iload_n 2), oi (.aload_n 0), (.getfield 53, 6, 1, 6, 0, 84)]
theorem oX1_weigh_8 : okB mX1_weigh 8 bX1_weigh_8 = true := by decide +kernel
theorem eX1_weigh_13 : decode mX1_weigh.2.1 13 = .ok (.if_icmp .ne 35, 3) := by decide +kernel
def bX1_weigh_16 : List OP := [oi (.iload_n 1), oi (.aload_n 0), (.getfield 56, 7, 1, 7, 0, 85)]
theorem oX1_weigh_16 : okB mX1_weigh 16 bX1_weigh_16 = true := by decide +kernel
theorem eX1_weigh_21 : decode mX1_weigh.2.1 21 = .ok (.if_icmp .ge 27, 3) := by decide +kernel
def bX1_weigh_24 : List OP := [oi (.aload_n 0), oi (.iload_n 2), (.putfield 53, 6, 1, 6, 0, 84), oi (.aload_n 0), oi (.iload_n 1), (.putfield 56, 7, 1, 7, 0, 85), oi (.aload_n 0), (.getfield 18, 2, 1, 2, 2, 80), oi (.iconst 0), oi (.aload_n 0), (.getfield 21, 3, 1, 3, 2, 81), oi (.iconst 0), oi (.iconst 4)]
theorem oX1_weigh_24 : okB mX1_weigh 24 bX1_weigh_24 = true := by decide +kernel
theorem eX1_weigh_45 : decode mX1_weigh.2.1 45 = .ok (.invokestatic 105, 3) := by decide +kernel
theorem eX1_weigh_48 : decode mX1_weigh.2.1 48 = .ok (.return_, 1) := by decide +kernel
def bX1_open_0 : List OP := [oi (.aload_n 1), (.getfield 111, 4, 3, 4, 2, 117), oi (.iload_n 2), oi (.aload_n 0), (.getfield 56, 7, 1, 7, 0, 85), oi .iastore, oi (.aload_n 1), (.getfield 114, 5, 3, 5, 2, 120), oi (.iload_n 2), oi (.aload_n 0), (.getfield 53, 6, 1, 6, 0, 84), oi .iastore, oi (.iconst 0), oi (.istore_n 3)]
theorem oX1_open_0 : okB mX1_open 0 bX1_open_0 = true := by decide +kernel
def bX1_open_22 : List OP := [oi (.iload_n 3), oi (.iconst 4)]
theorem oX1_open_22 : okB mX1_open 22 bX1_open_22 = true := by decide +kernel
theorem eX1_open_24 : decode mX1_open.2.1 24 = .ok (.if_icmp .ge 80, 3) := by decide +kernel
def bX1_open_27 : List OP := [oi (.aload_n 1), (.getfield 117, 3, 3, 3, 2, 114), oi (.iload_n 2), oi (.iconst 4), oi .imul, oi (.iload_n 3), oi .iadd, oi (.aload_n 0), (.getfield 21, 3, 1, 3, 2, 81), oi (.iload_n 3), oi .iaload, oi .iastore, oi (.iconst 0), oi (.istore 4)]
theorem oX1_open_27 : okB mX1_open 27 bX1_open_27 = true := by decide +kernel
def bX1_open_46 : List OP := [oi (.iload 4), oi (.iconst 4)]
theorem oX1_open_46 : okB mX1_open 46 bX1_open_46 = true := by decide +kernel
theorem eX1_open_49 : decode mX1_open.2.1 49 = .ok (.if_icmp .ge 49, 3) := by decide +kernel
def bX1_open_52 : List OP := [(.getstatic 74, 0, 3, 0, 0, 475), oi (.iload_n 3), oi .iaload, (.getstatic 77, 0, 4, 0, 0, 477), oi (.iload 4), oi .iaload, oi .iadd, oi (.istore 5), oi (.aload_n 1), (.getfield 94, 1, 3, 1, 2, 108), oi (.iload_n 2), oi (.bipush 16), oi .imul, oi (.iload 5), oi .iadd, oi (.aload_n 1), oi (.iload_n 2), oi (.iload_n 3), oi (.iload 5), oi (.aload_n 0), (.getfield 21, 3, 1, 3, 2, 81), oi (.iload_n 3), oi .iaload]
theorem oX1_open_52 : okB mX1_open 52 bX1_open_52 = true := by decide +kernel
theorem eX1_open_88 : decode mX1_open.2.1 88 = .ok (.invokestatic 80, 3) := by decide +kernel
theorem lX1_open_88 : okL 479 (.methodLink mX1_open.1.cls 80 mX1_dotBy.1) = true := by decide +kernel
def bX1_open_91 : List OP := [oi .iastore, oi (.iinc 4 1), (.goto (-49), 0, 0, 46, 0, 0)]
theorem oX1_open_91 : okB mX1_open 91 bX1_open_91 = true := by decide +kernel
def bX1_open_98 : List OP := [oi (.iinc 3 1), (.goto (-79), 0, 0, 22, 0, 0)]
theorem oX1_open_98 : okB mX1_open 98 bX1_open_98 = true := by decide +kernel
theorem eX1_open_104 : decode mX1_open.2.1 104 = .ok (.return_, 1) := by decide +kernel
def bX3_has_0 : List OP := [oi (.iload_n 1)]
theorem oX3_has_0 : okB mX3_has 0 bX3_has_0 = true := by decide +kernel
theorem eX3_has_1 : decode mX3_has.2.1 1 = .ok (.ifCond .lt 15, 3) := by decide +kernel
def bX3_has_4 : List OP := [oi (.iload_n 1), oi (.aload_n 0), (.getfield 36, 7, 3, 7, 0, 123)]
theorem oX3_has_4 : okB mX3_has 4 bX3_has_4 = true := by decide +kernel
theorem eX3_has_9 : decode mX3_has.2.1 9 = .ok (.if_icmp .ge 7, 3) := by decide +kernel
def bX3_has_12 : List OP := [oi (.iconst 1), (.goto 4, 0, 0, 17, 0, 0)]
theorem oX3_has_12 : okB mX3_has 12 bX3_has_12 = true := by decide +kernel
def bX3_has_16 : List OP := [oi (.iconst 0)]
theorem oX3_has_16 : okB mX3_has 16 bX3_has_16 = true := by decide +kernel
theorem eX3_has_17 : decode mX3_has.2.1 17 = .ok (.ireturn, 1) := by decide +kernel
def bX3_add_0 : List OP := [oi (.aload_n 0), (.getfield 36, 7, 3, 7, 0, 123), oi (.istore_n 1), oi (.aload_n 0), (.getfield 16, 2, 3, 2, 2, 110), oi (.iload_n 1), oi (.iload_n 1)]
theorem oX3_add_0 : okB mX3_add 0 bX3_add_0 = true := by decide +kernel
theorem eX3_add_11 : decode mX3_add.2.1 11 = .ok (.ifCond .ne 7, 3) := by decide +kernel
def bX3_add_14 : List OP := [oi (.iconst 1), (.goto 4, 0, 0, 19, 0, 0)]
theorem oX3_add_14 : okB mX3_add 14 bX3_add_14 = true := by decide +kernel
def bX3_add_18 : List OP := [oi (.iconst 0)]
theorem oX3_add_18 : okB mX3_add 18 bX3_add_18 = true := by decide +kernel
def bX3_add_19 : List OP := [oi .bastore, oi (.aload_n 0), oi .dup, (.getfield 36, 7, 3, 7, 0, 123), oi (.iconst 1), oi .iadd, (.putfield 36, 7, 3, 7, 0, 123), oi (.iload_n 1)]
theorem oX3_add_19 : okB mX3_add 19 bX3_add_19 = true := by decide +kernel
theorem eX3_add_31 : decode mX3_add.2.1 31 = .ok (.ireturn, 1) := by decide +kernel
def bX3_changeDot_0 : List OP := [oi (.aload_n 0), (.getfield 9, 0, 3, 0, 2, 105), oi (.iload_n 1), oi (.bipush 16), oi .imul, oi (.iload_n 2), oi .iadd, oi .iaload, oi (.istore 4), oi (.aload_n 0), (.getfield 9, 0, 3, 0, 2, 105), oi (.iload_n 1), oi (.bipush 16), oi .imul, oi (.iload_n 2), oi .iadd, oi (.iload_n 3), oi .iastore, oi (.aload_n 0), oi (.iload_n 1)]
theorem oX3_changeDot_0 : okB mX3_changeDot 0 bX3_changeDot_0 = true := by decide +kernel
theorem eX3_changeDot_27 : decode mX3_changeDot.2.1 27 = .ok (.invokevirtual 40, 3) := by decide +kernel
theorem lX3_changeDot_27 : okL 432 (.methodLink mX3_changeDot.1.cls 40 mX3_forgetCutsFrom.1) = true := by decide +kernel
def bX3_changeDot_30 : List OP := [oi (.iload 4)]
theorem oX3_changeDot_30 : okB mX3_changeDot 30 bX3_changeDot_30 = true := by decide +kernel
theorem eX3_changeDot_32 : decode mX3_changeDot.2.1 32 = .ok (.ireturn, 1) := by decide +kernel
def bX3_changeKey_0 : List OP := [oi (.aload_n 0), (.getfield 16, 2, 3, 2, 2, 110), oi (.iload_n 1), oi .baload, oi (.istore_n 3), oi (.aload_n 0), (.getfield 16, 2, 3, 2, 2, 110), oi (.iload_n 1), oi (.iload_n 2), oi .bastore, oi (.aload_n 0), oi (.iload_n 1)]
theorem oX3_changeKey_0 : okB mX3_changeKey 0 bX3_changeKey_0 = true := by decide +kernel
theorem eX3_changeKey_16 : decode mX3_changeKey.2.1 16 = .ok (.invokevirtual 40, 3) := by decide +kernel
theorem lX3_changeKey_16 : okL 432 (.methodLink mX3_changeKey.1.cls 40 mX3_forgetCutsFrom.1) = true := by decide +kernel
def bX3_changeKey_19 : List OP := [oi (.iload_n 3)]
theorem oX3_changeKey_19 : okB mX3_changeKey 19 bX3_changeKey_19 = true := by decide +kernel
theorem eX3_changeKey_20 : decode mX3_changeKey.2.1 20 = .ok (.ireturn, 1) := by decide +kernel
def bX3_forgetCutsFrom_0 : List OP := [oi (.aload_n 0), oi (.aload_n 0), (.getfield 44, 8, 3, 8, 0, 124), oi (.iload_n 1)]
theorem oX3_forgetCutsFrom_0 : okB mX3_forgetCutsFrom 0 bX3_forgetCutsFrom_0 = true := by decide +kernel
theorem eX3_forgetCutsFrom_6 : decode mX3_forgetCutsFrom.2.1 6 = .ok (.invokestatic 47, 3) := by decide +kernel
theorem lX3_forgetCutsFrom_6 : okL 436 (.methodLink mX3_forgetCutsFrom.1.cls 47 mJ9_min.1) = true := by decide +kernel
def bX3_forgetCutsFrom_9 : List OP := [(.putfield 44, 8, 3, 8, 0, 124)]
theorem oX3_forgetCutsFrom_9 : okB mX3_forgetCutsFrom 9 bX3_forgetCutsFrom_9 = true := by decide +kernel
theorem eX3_forgetCutsFrom_12 : decode mX3_forgetCutsFrom.2.1 12 = .ok (.return_, 1) := by decide +kernel
def bX3_cutUpTo_0 : List OP := [oi (.aload_n 0), (.getfield 44, 8, 3, 8, 0, 124), oi (.istore_n 3)]
theorem oX3_cutUpTo_0 : okB mX3_cutUpTo 0 bX3_cutUpTo_0 = true := by decide +kernel
def bX3_cutUpTo_5 : List OP := [oi (.iload_n 3), oi (.iload_n 1)]
theorem oX3_cutUpTo_5 : okB mX3_cutUpTo 5 bX3_cutUpTo_5 = true := by decide +kernel
theorem eX3_cutUpTo_7 : decode mX3_cutUpTo.2.1 7 = .ok (.if_icmp .gt 19, 3) := by decide +kernel
def bX3_cutUpTo_10 : List OP := [oi (.aload_n 0), (.getfield 32, 6, 3, 6, 2, 121), oi (.aload_n 0), oi (.iload_n 3), oi (.iload_n 2)]
theorem oX3_cutUpTo_10 : okB mX3_cutUpTo 10 bX3_cutUpTo_10 = true := by decide +kernel
theorem eX3_cutUpTo_17 : decode mX3_cutUpTo.2.1 17 = .ok (.invokevirtual 53, 3) := by decide +kernel
theorem lX3_cutUpTo_17 : okL 468 (.methodLink mX3_cutUpTo.1.cls 53 mX1_cut.1) = true := by decide +kernel
def bX3_cutUpTo_20 : List OP := [oi (.iinc 3 1), (.goto (-18), 0, 0, 5, 0, 0)]
theorem oX3_cutUpTo_20 : okB mX3_cutUpTo 20 bX3_cutUpTo_20 = true := by decide +kernel
def bX3_cutUpTo_26 : List OP := [oi (.aload_n 0), oi (.aload_n 0), (.getfield 44, 8, 3, 8, 0, 124), oi (.iload_n 1), oi (.iconst 1), oi .iadd]
theorem oX3_cutUpTo_26 : okB mX3_cutUpTo 26 bX3_cutUpTo_26 = true := by decide +kernel
theorem eX3_cutUpTo_34 : decode mX3_cutUpTo.2.1 34 = .ok (.invokestatic 57, 3) := by decide +kernel
theorem lX3_cutUpTo_34 : okL 522 (.methodLink mX3_cutUpTo.1.cls 57 mJ9_max.1) = true := by decide +kernel
def bX3_cutUpTo_37 : List OP := [(.putfield 44, 8, 3, 8, 0, 124)]
theorem oX3_cutUpTo_37 : okB mX3_cutUpTo 37 bX3_cutUpTo_37 = true := by decide +kernel
theorem eX3_cutUpTo_40 : decode mX3_cutUpTo.2.1 40 = .ok (.return_, 1) := by decide +kernel
def bX3_unlike_0 : List OP := [oi (.iconst 0), oi (.istore_n 2), oi (.iload_n 1)]
theorem oX3_unlike_0 : okB mX3_unlike 0 bX3_unlike_0 = true := by decide +kernel
theorem eX3_unlike_3 : decode mX3_unlike.2.1 3 = .ok (.ifCond .le 46, 3) := by decide +kernel
def bX3_unlike_6 : List OP := [oi (.iload_n 1), oi (.bipush 16), oi .imul, oi (.istore_n 3)]
theorem oX3_unlike_6 : okB mX3_unlike 6 bX3_unlike_6 = true := by decide +kernel
def bX3_unlike_11 : List OP := [oi (.iload_n 3), oi (.iload_n 1), oi (.iconst 1), oi .iadd, oi (.bipush 16), oi .imul]
theorem oX3_unlike_11 : okB mX3_unlike 11 bX3_unlike_11 = true := by decide +kernel
theorem eX3_unlike_18 : decode mX3_unlike.2.1 18 = .ok (.if_icmp .ge 31, 3) := by decide +kernel
def bX3_unlike_21 : List OP := [oi (.iload_n 2), oi (.aload_n 0), (.getfield 9, 0, 3, 0, 2, 105), oi (.iload_n 3), oi .iaload, oi (.aload_n 0), (.getfield 9, 0, 3, 0, 2, 105), oi (.iload_n 3), oi (.bipush 16), oi .isub, oi .iaload, oi .isub]
theorem oX3_unlike_21 : okB mX3_unlike 21 bX3_unlike_21 = true := by decide +kernel
theorem eX3_unlike_38 : decode mX3_unlike.2.1 38 = .ok (.invokestatic 60, 3) := by decide +kernel
theorem lX3_unlike_38 : okL 535 (.methodLink mX3_unlike.1.cls 60 mJ9_abs.1) = true := by decide +kernel
def bX3_unlike_41 : List OP := [oi .iadd, oi (.istore_n 2), oi (.iinc 3 1), (.goto (-35), 0, 0, 11, 0, 0)]
theorem oX3_unlike_41 : okB mX3_unlike 41 bX3_unlike_41 = true := by decide +kernel
def bX3_unlike_49 : List OP := [oi (.iload_n 2)]
theorem oX3_unlike_49 : okB mX3_unlike 49 bX3_unlike_49 = true := by decide +kernel
theorem eX3_unlike_50 : decode mX3_unlike.2.1 50 = .ok (.ireturn, 1) := by decide +kernel
def bX3_isScene_0 : List OP := [oi (.iload_n 1)]
theorem oX3_isScene_0 : okB mX3_isScene 0 bX3_isScene_0 = true := by decide +kernel
theorem eX3_isScene_1 : decode mX3_isScene.2.1 1 = .ok (.ifCond .le 16, 3) := by decide +kernel
def bX3_isScene_4 : List OP := [oi (.aload_n 0), oi (.iload_n 1)]
theorem oX3_isScene_4 : okB mX3_isScene 4 bX3_isScene_4 = true := by decide +kernel
theorem eX3_isScene_6 : decode mX3_isScene.2.1 6 = .ok (.invokevirtual 64, 3) := by decide +kernel
theorem lX3_isScene_6 : okL 542 (.methodLink mX3_isScene.1.cls 64 mX3_unlike.1) = true := by decide +kernel
def bX3_isScene_9 : List OP := [oi (.iload_n 2)]
theorem oX3_isScene_9 : okB mX3_isScene 9 bX3_isScene_9 = true := by decide +kernel
theorem eX3_isScene_10 : decode mX3_isScene.2.1 10 = .ok (.if_icmp .lt 7, 3) := by decide +kernel
def bX3_isScene_13 : List OP := [oi (.iconst 1), (.goto 4, 0, 0, 18, 0, 0)]
theorem oX3_isScene_13 : okB mX3_isScene 13 bX3_isScene_13 = true := by decide +kernel
def bX3_isScene_17 : List OP := [oi (.iconst 0)]
theorem oX3_isScene_17 : okB mX3_isScene 17 bX3_isScene_17 = true := by decide +kernel
theorem eX3_isScene_18 : decode mX3_isScene.2.1 18 = .ok (.ireturn, 1) := by decide +kernel
def bX3_isStill_0 : List OP := [oi (.iload_n 1)]
theorem oX3_isStill_0 : okB mX3_isStill 0 bX3_isStill_0 = true := by decide +kernel
theorem eX3_isStill_1 : decode mX3_isStill.2.1 1 = .ok (.ifCond .le 15, 3) := by decide +kernel
def bX3_isStill_4 : List OP := [oi (.aload_n 0), oi (.iload_n 1)]
theorem oX3_isStill_4 : okB mX3_isStill 4 bX3_isStill_4 = true := by decide +kernel
theorem eX3_isStill_6 : decode mX3_isStill.2.1 6 = .ok (.invokevirtual 64, 3) := by decide +kernel
theorem lX3_isStill_6 : okL 542 (.methodLink mX3_isStill.1.cls 64 mX3_unlike.1) = true := by decide +kernel
theorem eX3_isStill_9 : decode mX3_isStill.2.1 9 = .ok (.ifCond .ne 7, 3) := by decide +kernel
def bX3_isStill_12 : List OP := [oi (.iconst 1), (.goto 4, 0, 0, 17, 0, 0)]
theorem oX3_isStill_12 : okB mX3_isStill 12 bX3_isStill_12 = true := by decide +kernel
def bX3_isStill_16 : List OP := [oi (.iconst 0)]
theorem oX3_isStill_16 : okB mX3_isStill 16 bX3_isStill_16 = true := by decide +kernel
theorem eX3_isStill_17 : decode mX3_isStill.2.1 17 = .ok (.ireturn, 1) := by decide +kernel
def bX3_scenes_0 : List OP := [oi (.iconst 0), oi (.istore_n 2), oi (.iconst 0), oi (.istore_n 3)]
theorem oX3_scenes_0 : okB mX3_scenes 0 bX3_scenes_0 = true := by decide +kernel
def bX3_scenes_4 : List OP := [oi (.iload_n 3), oi (.aload_n 0), (.getfield 36, 7, 3, 7, 0, 123)]
theorem oX3_scenes_4 : okB mX3_scenes 4 bX3_scenes_4 = true := by decide +kernel
theorem eX3_scenes_9 : decode mX3_scenes.2.1 9 = .ok (.if_icmp .ge 24, 3) := by decide +kernel
def bX3_scenes_12 : List OP := [oi (.aload_n 0), oi (.iload_n 3), oi (.iload_n 1)]
theorem oX3_scenes_12 : okB mX3_scenes 12 bX3_scenes_12 = true := by decide +kernel
theorem eX3_scenes_15 : decode mX3_scenes.2.1 15 = .ok (.invokevirtual 67, 3) := by decide +kernel
theorem lX3_scenes_15 : okL 955 (.methodLink mX3_scenes.1.cls 67 mX3_isScene.1) = true := by decide +kernel
theorem eX3_scenes_18 : decode mX3_scenes.2.1 18 = .ok (.ifCond .eq 9, 3) := by decide +kernel
def bX3_scenes_21 : List OP := [oi (.iload_n 2), oi (.iconst 1), oi (.iload_n 3), oi .ishl, oi .ior, oi (.istore_n 2)]
theorem oX3_scenes_21 : okB mX3_scenes 21 bX3_scenes_21 = true := by decide +kernel
def bX3_scenes_27 : List OP := [oi (.iinc 3 1), (.goto (-26), 0, 0, 4, 0, 0)]
theorem oX3_scenes_27 : okB mX3_scenes 27 bX3_scenes_27 = true := by decide +kernel
def bX3_scenes_33 : List OP := [oi (.iload_n 2)]
theorem oX3_scenes_33 : okB mX3_scenes 33 bX3_scenes_33 = true := by decide +kernel
theorem eX3_scenes_34 : decode mX3_scenes.2.1 34 = .ok (.ireturn, 1) := by decide +kernel
def bX3_stills_0 : List OP := [oi (.iconst 0), oi (.istore_n 1), oi (.iconst 0), oi (.istore_n 2)]
theorem oX3_stills_0 : okB mX3_stills 0 bX3_stills_0 = true := by decide +kernel
def bX3_stills_4 : List OP := [oi (.iload_n 2), oi (.aload_n 0), (.getfield 36, 7, 3, 7, 0, 123)]
theorem oX3_stills_4 : okB mX3_stills 4 bX3_stills_4 = true := by decide +kernel
theorem eX3_stills_9 : decode mX3_stills.2.1 9 = .ok (.if_icmp .ge 23, 3) := by decide +kernel
def bX3_stills_12 : List OP := [oi (.aload_n 0), oi (.iload_n 2)]
theorem oX3_stills_12 : okB mX3_stills 12 bX3_stills_12 = true := by decide +kernel
theorem eX3_stills_14 : decode mX3_stills.2.1 14 = .ok (.invokevirtual 71, 3) := by decide +kernel
theorem lX3_stills_14 : okL 960 (.methodLink mX3_stills.1.cls 71 mX3_isStill.1) = true := by decide +kernel
theorem eX3_stills_17 : decode mX3_stills.2.1 17 = .ok (.ifCond .eq 9, 3) := by decide +kernel
def bX3_stills_20 : List OP := [oi (.iload_n 1), oi (.iconst 1), oi (.iload_n 2), oi .ishl, oi .ior, oi (.istore_n 1)]
theorem oX3_stills_20 : okB mX3_stills 20 bX3_stills_20 = true := by decide +kernel
def bX3_stills_26 : List OP := [oi (.iinc 2 1), (.goto (-25), 0, 0, 4, 0, 0)]
theorem oX3_stills_26 : okB mX3_stills 26 bX3_stills_26 = true := by decide +kernel
def bX3_stills_32 : List OP := [oi (.iload_n 1)]
theorem oX3_stills_32 : okB mX3_stills 32 bX3_stills_32 = true := by decide +kernel
theorem eX3_stills_33 : decode mX3_stills.2.1 33 = .ok (.ireturn, 1) := by decide +kernel
def bX9_tells_0 : List OP := [oi (.iload_n 0)]
theorem oX9_tells_0 : okB mX9_tells 0 bX9_tells_0 = true := by decide +kernel
theorem eX9_tells_1 : decode mX9_tells.2.1 1 = .ok (.ifCond .lt 8, 3) := by decide +kernel
def bX9_tells_4 : List OP := [oi (.iload_n 0), oi (.iconst 3)]
theorem oX9_tells_4 : okB mX9_tells 4 bX9_tells_4 = true := by decide +kernel
theorem eX9_tells_6 : decode mX9_tells.2.1 6 = .ok (.if_icmp .le 15, 3) := by decide +kernel
def bX9_tells_9 : List OP := [oi (.iload_n 0), oi (.bipush 10)]
theorem oX9_tells_9 : okB mX9_tells 9 bX9_tells_9 = true := by decide +kernel
theorem eX9_tells_12 : decode mX9_tells.2.1 12 = .ok (.if_icmp .lt 13, 3) := by decide +kernel
def bX9_tells_15 : List OP := [oi (.iload_n 0), oi (.bipush 18)]
theorem oX9_tells_15 : okB mX9_tells 15 bX9_tells_15 = true := by decide +kernel
theorem eX9_tells_18 : decode mX9_tells.2.1 18 = .ok (.if_icmp .ge 7, 3) := by decide +kernel
def bX9_tells_21 : List OP := [oi (.iconst 1), (.goto 4, 0, 0, 26, 0, 0)]
theorem oX9_tells_21 : okB mX9_tells 21 bX9_tells_21 = true := by decide +kernel
def bX9_tells_25 : List OP := [oi (.iconst 0)]
theorem oX9_tells_25 : okB mX9_tells 25 bX9_tells_25 = true := by decide +kernel
theorem eX9_tells_26 : decode mX9_tells.2.1 26 = .ok (.ireturn, 1) := by decide +kernel
def bX9_answer_0 : List OP := [oi (.iload_n 1)]
theorem oX9_answer_0 : okB mX9_answer 0 bX9_answer_0 = true := by decide +kernel
theorem eX9_answer_1 : decode mX9_answer.2.1 1 = .ok (.tableswitch 51 0 3 #[31, 36, 41, 46], 31) := by decide +kernel
def bX9_answer_32 : List OP := [oi (.aload_n 0), (.getfield 17, 1, 9, 1, 0, 209)]
theorem oX9_answer_32 : okB mX9_answer 32 bX9_answer_32 = true := by decide +kernel
theorem eX9_answer_36 : decode mX9_answer.2.1 36 = .ok (.ireturn, 1) := by decide +kernel
def bX9_answer_37 : List OP := [oi (.aload_n 0), (.getfield 21, 2, 9, 2, 0, 211)]
theorem oX9_answer_37 : okB mX9_answer 37 bX9_answer_37 = true := by decide +kernel
theorem eX9_answer_41 : decode mX9_answer.2.1 41 = .ok (.ireturn, 1) := by decide +kernel
def bX9_answer_42 : List OP := [oi (.aload_n 0), (.getfield 24, 3, 9, 3, 0, 213)]
theorem oX9_answer_42 : okB mX9_answer 42 bX9_answer_42 = true := by decide +kernel
theorem eX9_answer_46 : decode mX9_answer.2.1 46 = .ok (.ireturn, 1) := by decide +kernel
def bX9_answer_47 : List OP := [oi (.aload_n 0), (.getfield 27, 4, 9, 4, 0, 215)]
theorem oX9_answer_47 : okB mX9_answer 47 bX9_answer_47 = true := by decide +kernel
theorem eX9_answer_51 : decode mX9_answer.2.1 51 = .ok (.ireturn, 1) := by decide +kernel
def bX9_answer_52 : List OP := [oi (.iload_n 1)]
theorem oX9_answer_52 : okB mX9_answer 52 bX9_answer_52 = true := by decide +kernel
theorem eX9_answer_53 : decode mX9_answer.2.1 53 = .ok (.invokestatic 30, 3) := by decide +kernel
theorem lX9_answer_53 : okL 663 (.methodLink mX9_answer.1.cls 30 mX9_tells.1) = true := by decide +kernel
theorem eX9_answer_56 : decode mX9_answer.2.1 56 = .ok (.ifCond .eq 15, 3) := by decide +kernel
def bX9_answer_59 : List OP := [oi (.aload_n 0), (.getfield 11, 0, 9, 0, 2, 207), oi (.iload_n 1), oi (.bipush 10), oi .isub, oi .iaload, (.goto 5, 0, 0, 73, 0, 0)]
theorem oX9_answer_59 : okB mX9_answer 59 bX9_answer_59 = true := by decide +kernel
def bX9_answer_71 : List OP := [oi (.bipush (-2))]
theorem oX9_answer_71 : okB mX9_answer 71 bX9_answer_71 = true := by decide +kernel
theorem eX9_answer_73 : decode mX9_answer.2.1 73 = .ok (.ireturn, 1) := by decide +kernel
def bX9_clear_0 : List OP := [oi (.aload_n 0), oi (.iconst 0), (.putfield 17, 1, 9, 1, 0, 209), oi (.aload_n 0), oi (.iconst 0), (.putfield 21, 2, 9, 2, 0, 211), oi (.aload_n 0), oi (.iconst 0), (.putfield 24, 3, 9, 3, 0, 213), oi (.aload_n 0), oi (.bipush (-6)), (.putfield 27, 4, 9, 4, 0, 215), oi (.iconst 0), oi (.istore_n 1)]
theorem oX9_clear_0 : okB mX9_clear 0 bX9_clear_0 = true := by decide +kernel
def bX9_clear_23 : List OP := [oi (.iload_n 1), oi (.bipush 8)]
theorem oX9_clear_23 : okB mX9_clear 23 bX9_clear_23 = true := by decide +kernel
theorem eX9_clear_26 : decode mX9_clear.2.1 26 = .ok (.if_icmp .ge 17, 3) := by decide +kernel
def bX9_clear_29 : List OP := [oi (.aload_n 0), (.getfield 11, 0, 9, 0, 2, 207), oi (.iload_n 1), oi (.bipush (-6)), oi .iastore, oi (.iinc 1 1), (.goto (-17), 0, 0, 23, 0, 0)]
theorem oX9_clear_29 : okB mX9_clear 29 bX9_clear_29 = true := by decide +kernel
theorem eX9_clear_43 : decode mX9_clear.2.1 43 = .ok (.return_, 1) := by decide +kernel
def bX9_run_0 : List OP := [oi (.aload_n 0)]
theorem oX9_run_0 : okB mX9_run 0 bX9_run_0 = true := by decide +kernel
theorem eX9_run_1 : decode mX9_run.2.1 1 = .ok (.invokevirtual 34, 3) := by decide +kernel
theorem lX9_run_1 : okL 630 (.methodLink mX9_run.1.cls 34 mX9_clear.1) = true := by decide +kernel
def bX9_run_4 : List OP := [oi (.aload_n 0), oi (.iconst 0), (.putfield 37, 5, 9, 5, 0, 217), oi (.aload_n 0), oi (.iconst 0), (.putfield 40, 6, 9, 6, 0, 218), oi (.iload_n 3), oi (.aload_n 1), (.getfield 43, 2, 2, 2, 0, 156)]
theorem oX9_run_4 : okB mX9_run 4 bX9_run_4 = true := by decide +kernel
theorem eX9_run_19 : decode mX9_run.2.1 19 = .ok (.invokestatic 46, 3) := by decide +kernel
theorem lX9_run_19 : okL 634 (.methodLink mX9_run.1.cls 46 mJ9_min.1) = true := by decide +kernel
def bX9_run_22 : List OP := [oi (.istore 4), oi (.iconst 0), oi (.istore 5)]
theorem oX9_run_22 : okB mX9_run 22 bX9_run_22 = true := by decide +kernel
def bX9_run_27 : List OP := [oi (.iload 5), oi (.bipush 60)]
theorem oX9_run_27 : okB mX9_run 27 bX9_run_27 = true := by decide +kernel
theorem eX9_run_31 : decode mX9_run.2.1 31 = .ok (.if_icmp .ge 44, 3) := by decide +kernel
def bX9_run_34 : List OP := [oi (.aload_n 0), (.getfield 17, 1, 9, 1, 0, 209), oi (.aload_n 1), (.getfield 43, 2, 2, 2, 0, 156)]
theorem oX9_run_34 : okB mX9_run 34 bX9_run_34 = true := by decide +kernel
theorem eX9_run_42 : decode mX9_run.2.1 42 = .ok (.if_icmp .ge 33, 3) := by decide +kernel
def bX9_run_45 : List OP := [oi (.aload_n 0), oi (.aload_n 1), oi (.aload_n 2), oi (.iload 5)]
theorem oX9_run_45 : okB mX9_run 45 bX9_run_45 = true := by decide +kernel
theorem eX9_run_50 : decode mX9_run.2.1 50 = .ok (.invokevirtual 52, 3) := by decide +kernel
theorem lX9_run_50 : okL 635 (.methodLink mX9_run.1.cls 52 mX9_load.1) = true := by decide +kernel
def bX9_run_53 : List OP := [oi (.aload_n 0), (.getfield 37, 5, 9, 5, 0, 217), oi (.iload 4)]
theorem oX9_run_53 : okB mX9_run 53 bX9_run_53 = true := by decide +kernel
theorem eX9_run_59 : decode mX9_run.2.1 59 = .ok (.if_icmp .lt 10, 3) := by decide +kernel
def bX9_run_62 : List OP := [oi (.aload_n 0), oi (.aload_n 1), oi (.iload 5)]
theorem oX9_run_62 : okB mX9_run 62 bX9_run_62 = true := by decide +kernel
theorem eX9_run_66 : decode mX9_run.2.1 66 = .ok (.invokevirtual 56, 3) := by decide +kernel
theorem lX9_run_66 : okL 655 (.methodLink mX9_run.1.cls 56 mX9_watch.1) = true := by decide +kernel
def bX9_run_69 : List OP := [oi (.iinc 5 1), (.goto (-45), 0, 0, 27, 0, 0)]
theorem oX9_run_69 : okB mX9_run 69 bX9_run_69 = true := by decide +kernel
theorem eX9_run_75 : decode mX9_run.2.1 75 = .ok (.return_, 1) := by decide +kernel
def bX9_load_0 : List OP := [oi (.aload_n 1), (.getfield 60, 0, 2, 0, 2, 152), oi (.iload_n 3), oi .iaload, oi (.istore 4), oi (.aload_n 0), (.getfield 37, 5, 9, 5, 0, 217), oi (.istore 5)]
theorem oX9_load_0 : okB mX9_load 0 bX9_load_0 = true := by decide +kernel
def bX9_load_14 : List OP := [oi (.iload 5), oi (.aload_n 1), (.getfield 43, 2, 2, 2, 0, 156)]
theorem oX9_load_14 : okB mX9_load 14 bX9_load_14 = true := by decide +kernel
theorem eX9_load_20 : decode mX9_load.2.1 20 = .ok (.if_icmp .ge 81, 3) := by decide +kernel
def bX9_load_23 : List OP := [oi (.iload 4)]
theorem oX9_load_23 : okB mX9_load 23 bX9_load_23 = true := by decide +kernel
theorem eX9_load_25 : decode mX9_load.2.1 25 = .ok (.ifCond .le 76, 3) := by decide +kernel
def bX9_load_28 : List OP := [oi (.aload_n 0), (.getfield 11, 0, 9, 0, 2, 207), oi (.iload 5), oi .iaload, oi (.bipush (-6))]
theorem oX9_load_28 : okB mX9_load 28 bX9_load_28 = true := by decide +kernel
theorem eX9_load_37 : decode mX9_load.2.1 37 = .ok (.if_icmp .ne 12, 3) := by decide +kernel
def bX9_load_40 : List OP := [oi (.aload_n 0), oi (.aload_n 1), oi (.aload_n 2), oi (.iload 5), oi (.iload_n 3)]
theorem oX9_load_40 : okB mX9_load 40 bX9_load_40 = true := by decide +kernel
theorem eX9_load_46 : decode mX9_load.2.1 46 = .ok (.invokevirtual 63, 3) := by decide +kernel
theorem lX9_load_46 : okL 639 (.methodLink mX9_load.1.cls 63 mX9_begin.1) = true := by decide +kernel
def bX9_load_49 : List OP := [oi (.iload 4), oi (.aload_n 0), (.getfield 40, 6, 9, 6, 0, 218)]
theorem oX9_load_49 : okB mX9_load 49 bX9_load_49 = true := by decide +kernel
theorem eX9_load_55 : decode mX9_load.2.1 55 = .ok (.invokestatic 46, 3) := by decide +kernel
theorem lX9_load_55 : okL 634 (.methodLink mX9_load.1.cls 46 mJ9_min.1) = true := by decide +kernel
def bX9_load_58 : List OP := [oi (.istore 6), oi (.iload 4), oi (.iload 6), oi .isub, oi (.istore 4), oi (.aload_n 0), oi .dup, (.getfield 40, 6, 9, 6, 0, 218), oi (.iload 6), oi .isub, (.putfield 40, 6, 9, 6, 0, 218), oi (.aload_n 0), (.getfield 40, 6, 9, 6, 0, 218)]
theorem oX9_load_58 : okB mX9_load 58 bX9_load_58 = true := by decide +kernel
theorem eX9_load_82 : decode mX9_load.2.1 82 = .ok (.ifCond .ne 13, 3) := by decide +kernel
def bX9_load_85 : List OP := [oi (.aload_n 0), oi .dup, (.getfield 37, 5, 9, 5, 0, 217), oi (.iconst 1), oi .iadd, (.putfield 37, 5, 9, 5, 0, 217)]
theorem oX9_load_85 : okB mX9_load 85 bX9_load_85 = true := by decide +kernel
def bX9_load_95 : List OP := [oi (.iinc 5 1), (.goto (-84), 0, 0, 14, 0, 0)]
theorem oX9_load_95 : okB mX9_load 95 bX9_load_95 = true := by decide +kernel
theorem eX9_load_101 : decode mX9_load.2.1 101 = .ok (.return_, 1) := by decide +kernel
def bX9_begin_0 : List OP := [oi (.iload_n 3)]
theorem oX9_begin_0 : okB mX9_begin 0 bX9_begin_0 = true := by decide +kernel
theorem eX9_begin_1 : decode mX9_begin.2.1 1 = .ok (.ifCond .le 14, 3) := by decide +kernel
def bX9_begin_4 : List OP := [oi (.aload_n 0), (.getfield 11, 0, 9, 0, 2, 207), oi (.iload_n 3), oi (.iconst 1), oi .isub, oi .iaload, (.goto 4, 0, 0, 16, 0, 0)]
theorem oX9_begin_4 : okB mX9_begin 4 bX9_begin_4 = true := by decide +kernel
def bX9_begin_15 : List OP := [oi (.iconst 0)]
theorem oX9_begin_15 : okB mX9_begin 15 bX9_begin_15 = true := by decide +kernel
def bX9_begin_16 : List OP := [oi (.istore 5), oi (.iload 4)]
theorem oX9_begin_16 : okB mX9_begin 16 bX9_begin_16 = true := by decide +kernel
theorem eX9_begin_20 : decode mX9_begin.2.1 20 = .ok (.ifCond .le 15, 3) := by decide +kernel
def bX9_begin_23 : List OP := [oi (.aload_n 1), (.getfield 60, 0, 2, 0, 2, 152), oi (.iload 4), oi (.iconst 1), oi .isub, oi .iaload, (.goto 4, 0, 0, 36, 0, 0)]
theorem oX9_begin_23 : okB mX9_begin 23 bX9_begin_23 = true := by decide +kernel
def bX9_begin_35 : List OP := [oi (.iconst 0)]
theorem oX9_begin_35 : okB mX9_begin 35 bX9_begin_35 = true := by decide +kernel
def bX9_begin_36 : List OP := [oi (.istore 6), oi (.aload_n 1), oi (.iload_n 3)]
theorem oX9_begin_36 : okB mX9_begin 36 bX9_begin_36 = true := by decide +kernel
theorem eX9_begin_40 : decode mX9_begin.2.1 40 = .ok (.invokevirtual 67, 3) := by decide +kernel
theorem lX9_begin_40 : okL 643 (.methodLink mX9_begin.1.cls 67 mX2_isDoor.1) = true := by decide +kernel
theorem eX9_begin_43 : decode mX9_begin.2.1 43 = .ok (.ifCond .eq 24, 3) := by decide +kernel
def bX9_begin_46 : List OP := [oi (.aload_n 2), oi (.aload_n 0), (.getfield 37, 5, 9, 5, 0, 217), oi (.aload_n 0), (.getfield 17, 1, 9, 1, 0, 209), oi .isub, oi (.iload 6), oi (.iload 5), oi (.iload_n 3)]
theorem oX9_begin_46 : okB mX9_begin 46 bX9_begin_46 = true := by decide +kernel
theorem eX9_begin_61 : decode mX9_begin.2.1 61 = .ok (.invokevirtual 70, 3) := by decide +kernel
theorem lX9_begin_61 : okL 647 (.methodLink mX9_begin.1.cls 70 mX8_pick.1) = true := by decide +kernel
def bX9_begin_64 : List OP := [(.goto 5, 0, 0, 69, 0, 0)]
theorem oX9_begin_64 : okB mX9_begin 64 bX9_begin_64 = true := by decide +kernel
def bX9_begin_67 : List OP := [oi (.iload 5)]
theorem oX9_begin_67 : okB mX9_begin 67 bX9_begin_67 = true := by decide +kernel
def bX9_begin_69 : List OP := [oi (.istore 7), oi (.aload_n 0), (.getfield 11, 0, 9, 0, 2, 207), oi (.iload_n 3), oi (.iload 7), oi .iastore, oi (.aload_n 0), oi (.aload_n 1), oi (.iload_n 3), oi (.iload 7)]
theorem oX9_begin_69 : okB mX9_begin 69 bX9_begin_69 = true := by decide +kernel
theorem eX9_begin_84 : decode mX9_begin.2.1 84 = .ok (.invokevirtual 76, 3) := by decide +kernel
theorem lX9_begin_84 : okL 651 (.methodLink mX9_begin.1.cls 76 mX2_bitsOf.1) = true := by decide +kernel
def bX9_begin_87 : List OP := [(.putfield 40, 6, 9, 6, 0, 218)]
theorem oX9_begin_87 : okB mX9_begin 87 bX9_begin_87 = true := by decide +kernel
theorem eX9_begin_90 : decode mX9_begin.2.1 90 = .ok (.return_, 1) := by decide +kernel
def bX9_watch_0 : List OP := [oi (.aload_n 0), (.getfield 37, 5, 9, 5, 0, 217), oi (.aload_n 0), (.getfield 17, 1, 9, 1, 0, 209)]
theorem oX9_watch_0 : okB mX9_watch 0 bX9_watch_0 = true := by decide +kernel
theorem eX9_watch_8 : decode mX9_watch.2.1 8 = .ok (.if_icmp .gt 14, 3) := by decide +kernel
def bX9_watch_11 : List OP := [oi (.aload_n 0), oi .dup, (.getfield 21, 2, 9, 2, 0, 211), oi (.iconst 1), oi .iadd, (.putfield 21, 2, 9, 2, 0, 211)]
theorem oX9_watch_11 : okB mX9_watch 11 bX9_watch_11 = true := by decide +kernel
theorem eX9_watch_21 : decode mX9_watch.2.1 21 = .ok (.return_, 1) := by decide +kernel
def bX9_watch_22 : List OP := [oi (.aload_n 0), oi .dup, (.getfield 24, 3, 9, 3, 0, 213), oi (.aload_n 0), (.getfield 11, 0, 9, 0, 2, 207), oi (.aload_n 0), (.getfield 17, 1, 9, 1, 0, 209), oi .iaload, oi .iadd, (.putfield 24, 3, 9, 3, 0, 213), oi (.aload_n 0), oi .dup, (.getfield 17, 1, 9, 1, 0, 209), oi (.iconst 1), oi .iadd, (.putfield 17, 1, 9, 1, 0, 209), oi (.aload_n 0), (.getfield 17, 1, 9, 1, 0, 209), oi (.aload_n 1), (.getfield 43, 2, 2, 2, 0, 156)]
theorem oX9_watch_22 : okB mX9_watch 22 bX9_watch_22 = true := by decide +kernel
theorem eX9_watch_58 : decode mX9_watch.2.1 58 = .ok (.if_icmp .ne 8, 3) := by decide +kernel
def bX9_watch_61 : List OP := [oi (.aload_n 0), oi (.iload_n 2), (.putfield 27, 4, 9, 4, 0, 215)]
theorem oX9_watch_61 : okB mX9_watch 61 bX9_watch_61 = true := by decide +kernel
theorem eX9_watch_66 : decode mX9_watch.2.1 66 = .ok (.return_, 1) := by decide +kernel

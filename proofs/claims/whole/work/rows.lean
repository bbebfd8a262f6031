section
-- ===== PART A: goes FIRST, ahead of the names: the tables' words, and 'selects' of the private methods out of them =====
/-- a private method of a class that the tables say can be made, by its rows of tables_1 -/
def lw_okq (q : MethodName × Nat) : Prop := (q.1.cls ≠ "java/lang/invoke/MethodHandle" ∧ q.1.cls ≠ "java/lang/invoke/VarHandle") ∧ Cond.instantiable q.1.cls q.2 ∈ tables_1 ∧ Cond.privateMethod q.1 ∈ tables_1 ∧ Cond.instanceMethod q.1 ∈ tables_1
theorem lw_p0 : lw_okq (⟨"FilmLines", "forgetShows", "()V"⟩, 13) := ⟨⟨by decide +kernel, by decide +kernel⟩, List.mem_of_getElem? (i := 19) (by decide +kernel), List.mem_of_getElem? (i := 417) (by decide +kernel), List.mem_of_getElem? (i := 418) (by decide +kernel)⟩
theorem lw_p1 : lw_okq (⟨"FilmLines$Cutter", "gather", "(IZ)V"⟩, 8) := ⟨⟨by decide +kernel, by decide +kernel⟩, List.mem_of_getElem? (i := 33) (by decide +kernel), List.mem_of_getElem? (i := 449) (by decide +kernel), List.mem_of_getElem? (i := 450) (by decide +kernel)⟩
theorem lw_p2 : lw_okq (⟨"FilmLines$Cutter", "bestMoved", "(I)I"⟩, 8) := ⟨⟨by decide +kernel, by decide +kernel⟩, List.mem_of_getElem? (i := 33) (by decide +kernel), List.mem_of_getElem? (i := 453) (by decide +kernel), List.mem_of_getElem? (i := 454) (by decide +kernel)⟩
theorem lw_p3 : lw_okq (⟨"FilmLines$Cutter", "tryBlock", "(III)V"⟩, 8) := ⟨⟨by decide +kernel, by decide +kernel⟩, List.mem_of_getElem? (i := 33) (by decide +kernel), List.mem_of_getElem? (i := 464) (by decide +kernel), List.mem_of_getElem? (i := 465) (by decide +kernel)⟩
theorem lw_p4 : lw_okq (⟨"FilmLines$Cutter", "weigh", "(II)V"⟩, 8) := ⟨⟨by decide +kernel, by decide +kernel⟩, List.mem_of_getElem? (i := 33) (by decide +kernel), List.mem_of_getElem? (i := 468) (by decide +kernel), List.mem_of_getElem? (i := 469) (by decide +kernel)⟩
theorem lw_p5 : lw_okq (⟨"FilmLines$Cutter", "tryWay", "(IIII)V"⟩, 8) := ⟨⟨by decide +kernel, by decide +kernel⟩, List.mem_of_getElem? (i := 33) (by decide +kernel), List.mem_of_getElem? (i := 475) (by decide +kernel), List.mem_of_getElem? (i := 476) (by decide +kernel)⟩
theorem lw_p6 : lw_okq (⟨"FilmLines$Cutter", "open", "(LFilmLines$Frames;I)V"⟩, 8) := ⟨⟨by decide +kernel, by decide +kernel⟩, List.mem_of_getElem? (i := 33) (by decide +kernel), List.mem_of_getElem? (i := 479) (by decide +kernel), List.mem_of_getElem? (i := 480) (by decide +kernel)⟩
theorem lw_p7 : lw_okq (⟨"FilmLines$Rule", "takeSign", "(II)V"⟩, 8) := ⟨⟨by decide +kernel, by decide +kernel⟩, List.mem_of_getElem? (i := 130) (by decide +kernel), List.mem_of_getElem? (i := 576) (by decide +kernel), List.mem_of_getElem? (i := 577) (by decide +kernel)⟩
theorem lw_p8 : lw_okq (⟨"FilmLines$Show", "load", "(LFilmLines$Film;LFilmLines$Rule;I)V"⟩, 7) := ⟨⟨by decide +kernel, by decide +kernel⟩, List.mem_of_getElem? (i := 162) (by decide +kernel), List.mem_of_getElem? (i := 596) (by decide +kernel), List.mem_of_getElem? (i := 597) (by decide +kernel)⟩
theorem lw_p9 : lw_okq (⟨"FilmLines$Show", "begin", "(LFilmLines$Film;LFilmLines$Rule;II)V"⟩, 7) := ⟨⟨by decide +kernel, by decide +kernel⟩, List.mem_of_getElem? (i := 162) (by decide +kernel), List.mem_of_getElem? (i := 600) (by decide +kernel), List.mem_of_getElem? (i := 601) (by decide +kernel)⟩
theorem lw_p10 : lw_okq (⟨"FilmLines$Show", "watch", "(LFilmLines$Film;I)V"⟩, 7) := ⟨⟨by decide +kernel, by decide +kernel⟩, List.mem_of_getElem? (i := 162) (by decide +kernel), List.mem_of_getElem? (i := 616) (by decide +kernel), List.mem_of_getElem? (i := 617) (by decide +kernel)⟩
theorem lw_p11 : lw_okq (⟨"FilmLines$BestSearch", "placeFrom", "(LFilmLines$Film;III)V"⟩, 11) := ⟨⟨by decide +kernel, by decide +kernel⟩, List.mem_of_getElem? (i := 195) (by decide +kernel), List.mem_of_getElem? (i := 635) (by decide +kernel), List.mem_of_getElem? (i := 636) (by decide +kernel)⟩
theorem lw_p12 : lw_okq (⟨"FilmLines$BestSearch", "place", "(LFilmLines$Film;III)V"⟩, 11) := ⟨⟨by decide +kernel, by decide +kernel⟩, List.mem_of_getElem? (i := 195) (by decide +kernel), List.mem_of_getElem? (i := 640) (by decide +kernel), List.mem_of_getElem? (i := 641) (by decide +kernel)⟩
theorem lw_p13 : lw_okq (⟨"FilmLines$BestSearch", "secondOf", "(II)I"⟩, 11) := ⟨⟨by decide +kernel, by decide +kernel⟩, List.mem_of_getElem? (i := 195) (by decide +kernel), List.mem_of_getElem? (i := 645) (by decide +kernel), List.mem_of_getElem? (i := 646) (by decide +kernel)⟩
theorem lw_p14 : lw_okq (⟨"FilmLines$BestSearch", "judge", "(LFilmLines$Film;I)V"⟩, 11) := ⟨⟨by decide +kernel, by decide +kernel⟩, List.mem_of_getElem? (i := 195) (by decide +kernel), List.mem_of_getElem? (i := 650) (by decide +kernel), List.mem_of_getElem? (i := 651) (by decide +kernel)⟩
theorem lw_p15 : lw_okq (⟨"FilmLines$BestSearch", "watch", "(LFilmLines$Film;I)V"⟩, 11) := ⟨⟨by decide +kernel, by decide +kernel⟩, List.mem_of_getElem? (i := 195) (by decide +kernel), List.mem_of_getElem? (i := 654) (by decide +kernel), List.mem_of_getElem? (i := 655) (by decide +kernel)⟩
def lw_privs_1 : List (MethodName × Nat) := [(⟨"FilmLines", "forgetShows", "()V"⟩, 13), (⟨"FilmLines$Cutter", "gather", "(IZ)V"⟩, 8), (⟨"FilmLines$Cutter", "bestMoved", "(I)I"⟩, 8), (⟨"FilmLines$Cutter", "tryBlock", "(III)V"⟩, 8), (⟨"FilmLines$Cutter", "weigh", "(II)V"⟩, 8), (⟨"FilmLines$Cutter", "tryWay", "(IIII)V"⟩, 8), (⟨"FilmLines$Cutter", "open", "(LFilmLines$Frames;I)V"⟩, 8), (⟨"FilmLines$Rule", "takeSign", "(II)V"⟩, 8), (⟨"FilmLines$Show", "load", "(LFilmLines$Film;LFilmLines$Rule;I)V"⟩, 7), (⟨"FilmLines$Show", "begin", "(LFilmLines$Film;LFilmLines$Rule;II)V"⟩, 7), (⟨"FilmLines$Show", "watch", "(LFilmLines$Film;I)V"⟩, 7), (⟨"FilmLines$BestSearch", "placeFrom", "(LFilmLines$Film;III)V"⟩, 11), (⟨"FilmLines$BestSearch", "place", "(LFilmLines$Film;III)V"⟩, 11), (⟨"FilmLines$BestSearch", "secondOf", "(II)I"⟩, 11), (⟨"FilmLines$BestSearch", "judge", "(LFilmLines$Film;I)V"⟩, 11), (⟨"FilmLines$BestSearch", "watch", "(LFilmLines$Film;I)V"⟩, 11)]
theorem lw_r1 : ∀ q ∈ lw_privs_1, lw_okq q := List.forall_mem_cons.mpr ⟨lw_p0, List.forall_mem_cons.mpr ⟨lw_p1, List.forall_mem_cons.mpr ⟨lw_p2, List.forall_mem_cons.mpr ⟨lw_p3, List.forall_mem_cons.mpr ⟨lw_p4, List.forall_mem_cons.mpr ⟨lw_p5, List.forall_mem_cons.mpr ⟨lw_p6, List.forall_mem_cons.mpr ⟨lw_p7, List.forall_mem_cons.mpr ⟨lw_p8, List.forall_mem_cons.mpr ⟨lw_p9, List.forall_mem_cons.mpr ⟨lw_p10, List.forall_mem_cons.mpr ⟨lw_p11, List.forall_mem_cons.mpr ⟨lw_p12, List.forall_mem_cons.mpr ⟨lw_p13, List.forall_mem_cons.mpr ⟨lw_p14, List.forall_mem_cons.mpr ⟨lw_p15, fun _ h => absurd h List.not_mem_nil⟩⟩⟩⟩⟩⟩⟩⟩⟩⟩⟩⟩⟩⟩⟩⟩
theorem lw_p16 : lw_okq (⟨"FilmLines$BestSearch", "isNoWorse", "()Z"⟩, 11) := ⟨⟨by decide +kernel, by decide +kernel⟩, List.mem_of_getElem? (i := 195) (by decide +kernel), List.mem_of_getElem? (i := 658) (by decide +kernel), List.mem_of_getElem? (i := 659) (by decide +kernel)⟩
theorem lw_p17 : lw_okq (⟨"FilmLines$BestSearch", "keep", "(I)V"⟩, 11) := ⟨⟨by decide +kernel, by decide +kernel⟩, List.mem_of_getElem? (i := 195) (by decide +kernel), List.mem_of_getElem? (i := 662) (by decide +kernel), List.mem_of_getElem? (i := 663) (by decide +kernel)⟩
theorem lw_p18 : lw_okq (⟨"FilmLines$BestSearch", "mayBeNoWorse", "(LFilmLines$Film;I)Z"⟩, 11) := ⟨⟨by decide +kernel, by decide +kernel⟩, List.mem_of_getElem? (i := 195) (by decide +kernel), List.mem_of_getElem? (i := 666) (by decide +kernel), List.mem_of_getElem? (i := 667) (by decide +kernel)⟩
theorem lw_p19 : lw_okq (⟨"FilmLines$Towns", "weightOf", "(I)I"⟩, 4) := ⟨⟨by decide +kernel, by decide +kernel⟩, List.mem_of_getElem? (i := 238) (by decide +kernel), List.mem_of_getElem? (i := 713) (by decide +kernel), List.mem_of_getElem? (i := 714) (by decide +kernel)⟩
theorem lw_p20 : lw_okq (⟨"FilmLines$Marks", "unlike", "(III)I"⟩, 1) := ⟨⟨by decide +kernel, by decide +kernel⟩, List.mem_of_getElem? (i := 293) (by decide +kernel), List.mem_of_getElem? (i := 799) (by decide +kernel), List.mem_of_getElem? (i := 800) (by decide +kernel)⟩
theorem lw_p21 : lw_okq (⟨"FilmLines$Marks", "isPair", "(IIII)Z"⟩, 1) := ⟨⟨by decide +kernel, by decide +kernel⟩, List.mem_of_getElem? (i := 293) (by decide +kernel), List.mem_of_getElem? (i := 807) (by decide +kernel), List.mem_of_getElem? (i := 808) (by decide +kernel)⟩
theorem lw_p22 : lw_okq (⟨"FilmLines$Nodes", "newParent", "(II)I"⟩, 3) := ⟨⟨by decide +kernel, by decide +kernel⟩, List.mem_of_getElem? (i := 313) (by decide +kernel), List.mem_of_getElem? (i := 886) (by decide +kernel), List.mem_of_getElem? (i := 887) (by decide +kernel)⟩
theorem lw_p23 : lw_okq (⟨"FilmLinesModel", "isFrame", "(I)Z"⟩, 37) := ⟨⟨by decide +kernel, by decide +kernel⟩, List.mem_of_getElem? (i := 922) (by decide +kernel), List.mem_of_getElem? (i := 1048) (by decide +kernel), List.mem_of_getElem? (i := 1049) (by decide +kernel)⟩
theorem lw_p24 : lw_okq (⟨"FilmLinesModel", "cut", "(I)V"⟩, 37) := ⟨⟨by decide +kernel, by decide +kernel⟩, List.mem_of_getElem? (i := 922) (by decide +kernel), List.mem_of_getElem? (i := 1067) (by decide +kernel), List.mem_of_getElem? (i := 1068) (by decide +kernel)⟩
theorem lw_p25 : lw_okq (⟨"FilmLinesModel", "cutFrame", "(I)V"⟩, 37) := ⟨⟨by decide +kernel, by decide +kernel⟩, List.mem_of_getElem? (i := 922) (by decide +kernel), List.mem_of_getElem? (i := 1071) (by decide +kernel), List.mem_of_getElem? (i := 1072) (by decide +kernel)⟩
theorem lw_p26 : lw_okq (⟨"FilmLinesModel", "openBy", "(IIII)I"⟩, 37) := ⟨⟨by decide +kernel, by decide +kernel⟩, List.mem_of_getElem? (i := 922) (by decide +kernel), List.mem_of_getElem? (i := 1075) (by decide +kernel), List.mem_of_getElem? (i := 1076) (by decide +kernel)⟩
theorem lw_p27 : lw_okq (⟨"FilmLinesModel", "unlike", "(I)I"⟩, 37) := ⟨⟨by decide +kernel, by decide +kernel⟩, List.mem_of_getElem? (i := 922) (by decide +kernel), List.mem_of_getElem? (i := 1097) (by decide +kernel), List.mem_of_getElem? (i := 1098) (by decide +kernel)⟩
theorem lw_p28 : lw_okq (⟨"FilmLinesModel", "isScene", "(I)Z"⟩, 37) := ⟨⟨by decide +kernel, by decide +kernel⟩, List.mem_of_getElem? (i := 922) (by decide +kernel), List.mem_of_getElem? (i := 1101) (by decide +kernel), List.mem_of_getElem? (i := 1102) (by decide +kernel)⟩
theorem lw_p29 : lw_okq (⟨"FilmLinesModel", "isStill", "(I)Z"⟩, 37) := ⟨⟨by decide +kernel, by decide +kernel⟩, List.mem_of_getElem? (i := 922) (by decide +kernel), List.mem_of_getElem? (i := 1105) (by decide +kernel), List.mem_of_getElem? (i := 1106) (by decide +kernel)⟩
theorem lw_p30 : lw_okq (⟨"FilmLinesModel", "faultOf", "()I"⟩, 37) := ⟨⟨by decide +kernel, by decide +kernel⟩, List.mem_of_getElem? (i := 922) (by decide +kernel), List.mem_of_getElem? (i := 1137) (by decide +kernel), List.mem_of_getElem? (i := 1138) (by decide +kernel)⟩
theorem lw_p31 : lw_okq (⟨"FilmLinesModel", "run", "(Z)V"⟩, 37) := ⟨⟨by decide +kernel, by decide +kernel⟩, List.mem_of_getElem? (i := 922) (by decide +kernel), List.mem_of_getElem? (i := 1152) (by decide +kernel), List.mem_of_getElem? (i := 1153) (by decide +kernel)⟩
def lw_privs_2 : List (MethodName × Nat) := [(⟨"FilmLines$BestSearch", "isNoWorse", "()Z"⟩, 11), (⟨"FilmLines$BestSearch", "keep", "(I)V"⟩, 11), (⟨"FilmLines$BestSearch", "mayBeNoWorse", "(LFilmLines$Film;I)Z"⟩, 11), (⟨"FilmLines$Towns", "weightOf", "(I)I"⟩, 4), (⟨"FilmLines$Marks", "unlike", "(III)I"⟩, 1), (⟨"FilmLines$Marks", "isPair", "(IIII)Z"⟩, 1), (⟨"FilmLines$Nodes", "newParent", "(II)I"⟩, 3), (⟨"FilmLinesModel", "isFrame", "(I)Z"⟩, 37), (⟨"FilmLinesModel", "cut", "(I)V"⟩, 37), (⟨"FilmLinesModel", "cutFrame", "(I)V"⟩, 37), (⟨"FilmLinesModel", "openBy", "(IIII)I"⟩, 37), (⟨"FilmLinesModel", "unlike", "(I)I"⟩, 37), (⟨"FilmLinesModel", "isScene", "(I)Z"⟩, 37), (⟨"FilmLinesModel", "isStill", "(I)Z"⟩, 37), (⟨"FilmLinesModel", "faultOf", "()I"⟩, 37), (⟨"FilmLinesModel", "run", "(Z)V"⟩, 37)]
theorem lw_r2 : ∀ q ∈ lw_privs_2, lw_okq q := List.forall_mem_cons.mpr ⟨lw_p16, List.forall_mem_cons.mpr ⟨lw_p17, List.forall_mem_cons.mpr ⟨lw_p18, List.forall_mem_cons.mpr ⟨lw_p19, List.forall_mem_cons.mpr ⟨lw_p20, List.forall_mem_cons.mpr ⟨lw_p21, List.forall_mem_cons.mpr ⟨lw_p22, List.forall_mem_cons.mpr ⟨lw_p23, List.forall_mem_cons.mpr ⟨lw_p24, List.forall_mem_cons.mpr ⟨lw_p25, List.forall_mem_cons.mpr ⟨lw_p26, List.forall_mem_cons.mpr ⟨lw_p27, List.forall_mem_cons.mpr ⟨lw_p28, List.forall_mem_cons.mpr ⟨lw_p29, List.forall_mem_cons.mpr ⟨lw_p30, List.forall_mem_cons.mpr ⟨lw_p31, fun _ h => absurd h List.not_mem_nil⟩⟩⟩⟩⟩⟩⟩⟩⟩⟩⟩⟩⟩⟩⟩⟩
theorem lw_p32 : lw_okq (⟨"FilmLinesModel", "pick", "(IIII)I"⟩, 37) := ⟨⟨by decide +kernel, by decide +kernel⟩, List.mem_of_getElem? (i := 922) (by decide +kernel), List.mem_of_getElem? (i := 1156) (by decide +kernel), List.mem_of_getElem? (i := 1157) (by decide +kernel)⟩
theorem lw_p33 : lw_okq (⟨"FilmLinesModel", "tell", "(I)I"⟩, 37) := ⟨⟨by decide +kernel, by decide +kernel⟩, List.mem_of_getElem? (i := 922) (by decide +kernel), List.mem_of_getElem? (i := 1160) (by decide +kernel), List.mem_of_getElem? (i := 1161) (by decide +kernel)⟩
theorem lw_p34 : lw_okq (⟨"FilmLinesModel", "wish", "(I)V"⟩, 37) := ⟨⟨by decide +kernel, by decide +kernel⟩, List.mem_of_getElem? (i := 922) (by decide +kernel), List.mem_of_getElem? (i := 1168) (by decide +kernel), List.mem_of_getElem? (i := 1169) (by decide +kernel)⟩
theorem lw_p35 : lw_okq (⟨"FilmLinesModel", "mayIt", "(III)Z"⟩, 37) := ⟨⟨by decide +kernel, by decide +kernel⟩, List.mem_of_getElem? (i := 922) (by decide +kernel), List.mem_of_getElem? (i := 1209) (by decide +kernel), List.mem_of_getElem? (i := 1210) (by decide +kernel)⟩
theorem lw_p36 : lw_okq (⟨"FilmLinesModel", "seenOf", "(II)I"⟩, 37) := ⟨⟨by decide +kernel, by decide +kernel⟩, List.mem_of_getElem? (i := 922) (by decide +kernel), List.mem_of_getElem? (i := 1221) (by decide +kernel), List.mem_of_getElem? (i := 1222) (by decide +kernel)⟩
theorem lw_p37 : lw_okq (⟨"FilmLinesModel", "hungOn", "(II)I"⟩, 37) := ⟨⟨by decide +kernel, by decide +kernel⟩, List.mem_of_getElem? (i := 922) (by decide +kernel), List.mem_of_getElem? (i := 1260) (by decide +kernel), List.mem_of_getElem? (i := 1261) (by decide +kernel)⟩
theorem lw_p38 : lw_okq (⟨"FilmLinesModel", "behindOf", "(I)I"⟩, 37) := ⟨⟨by decide +kernel, by decide +kernel⟩, List.mem_of_getElem? (i := 922) (by decide +kernel), List.mem_of_getElem? (i := 1268) (by decide +kernel), List.mem_of_getElem? (i := 1269) (by decide +kernel)⟩
theorem lw_p39 : lw_okq (⟨"FilmLinesModel", "isBelow", "(II)Z"⟩, 37) := ⟨⟨by decide +kernel, by decide +kernel⟩, List.mem_of_getElem? (i := 922) (by decide +kernel), List.mem_of_getElem? (i := 1276) (by decide +kernel), List.mem_of_getElem? (i := 1277) (by decide +kernel)⟩
def lw_privs_3 : List (MethodName × Nat) := [(⟨"FilmLinesModel", "pick", "(IIII)I"⟩, 37), (⟨"FilmLinesModel", "tell", "(I)I"⟩, 37), (⟨"FilmLinesModel", "wish", "(I)V"⟩, 37), (⟨"FilmLinesModel", "mayIt", "(III)Z"⟩, 37), (⟨"FilmLinesModel", "seenOf", "(II)I"⟩, 37), (⟨"FilmLinesModel", "hungOn", "(II)I"⟩, 37), (⟨"FilmLinesModel", "behindOf", "(I)I"⟩, 37), (⟨"FilmLinesModel", "isBelow", "(II)Z"⟩, 37)]
theorem lw_r3 : ∀ q ∈ lw_privs_3, lw_okq q := List.forall_mem_cons.mpr ⟨lw_p32, List.forall_mem_cons.mpr ⟨lw_p33, List.forall_mem_cons.mpr ⟨lw_p34, List.forall_mem_cons.mpr ⟨lw_p35, List.forall_mem_cons.mpr ⟨lw_p36, List.forall_mem_cons.mpr ⟨lw_p37, List.forall_mem_cons.mpr ⟨lw_p38, List.forall_mem_cons.mpr ⟨lw_p39, fun _ h => absurd h List.not_mem_nil⟩⟩⟩⟩⟩⟩⟩⟩
def lw_privs : List (MethodName × Nat) := lw_privs_1 ++ (lw_privs_2 ++ (lw_privs_3))
def lw_tbl : List Cond := k2_sels lw_privs ++ tables_1
theorem lw_privs_ok : ∀ q ∈ lw_privs, lw_okq q := by
  show ∀ q ∈ lw_privs_1 ++ (lw_privs_2 ++ (lw_privs_3)), lw_okq q
  exact List.forall_mem_append.mpr ⟨lw_r1, List.forall_mem_append.mpr ⟨lw_r2, lw_r3⟩⟩
end
section
def RX0 : String := "FilmLines$BestSearch"
def TX0 : u_T := fun k => match k with
  | 0 => ("FilmLines$BestSearch", "found", "LFilmLines$Show;", true)
  | 1 => ("FilmLines$BestSearch", "come", "[I", true)
  | 2 => ("FilmLines$BestSearch", "row", "[I", true)
  | 3 => ("FilmLines$BestSearch", "wholeAt", "[I", true)
  | 4 => ("FilmLines$BestSearch", "seenAt", "[I", true)
  | 5 => ("FilmLines$BestSearch", "sums", "[I", true)
  | 6 => ("FilmLines$BestSearch", "needed", "I", false)
  | 7 => ("FilmLines$BestSearch", "rowSeen", "I", false)
  | 8 => ("FilmLines$BestSearch", "rowStills", "I", false)
  | 9 => ("FilmLines$BestSearch", "rowSum", "I", false)
  | _ => ("FilmLines$BestSearch", "rowLast", "I", false)
def tyX0 : Nat → FieldType := fun k => match k with
  | 0 => .object "FilmLines$Show"
  | 1 => .array .int
  | 2 => .array .int
  | 3 => .array .int
  | 4 => .array .int
  | 5 => .array .int
  | 6 => .int
  | 7 => .int
  | 8 => .int
  | 9 => .int
  | _ => .int
abbrev wsX00 : List Cond := u_ws RX0 TX0 11
theorem nmX0 : ∀ a, a < 11 → ∀ b, b < 11 → a ≠ b → (TX0 a).2.1 ≠ (TX0 b).2.1 := by decide +kernel
theorem tyX0_ok : ∀ k, k < 11 → parseFieldDescriptor (TX0 k).2.2.1 = some (tyX0 k) := by decide +kernel
abbrev cX0_init : ByteArray := prog_2_method_1_code
def yX0_init : MethodName := ⟨RX0, "<init>", "()V"⟩
abbrev cX0_seek : ByteArray := prog_2_method_2_code
def yX0_seek : MethodName := ⟨RX0, "seek", "(LFilmLines$Film;I)V"⟩
abbrev cX0_placeFrom : ByteArray := prog_2_method_3_code
def yX0_placeFrom : MethodName := ⟨RX0, "placeFrom", "(LFilmLines$Film;III)V"⟩
abbrev cX0_place : ByteArray := prog_2_method_4_code
def yX0_place : MethodName := ⟨RX0, "place", "(LFilmLines$Film;III)V"⟩
abbrev cX0_secondOf : ByteArray := prog_2_method_5_code
def yX0_secondOf : MethodName := ⟨RX0, "secondOf", "(II)I"⟩
abbrev cX0_mayBeNoWorse : ByteArray := prog_2_method_6_code
def yX0_mayBeNoWorse : MethodName := ⟨RX0, "mayBeNoWorse", "(LFilmLines$Film;I)Z"⟩
abbrev cX0_judge : ByteArray := prog_2_method_7_code
def yX0_judge : MethodName := ⟨RX0, "judge", "(LFilmLines$Film;I)V"⟩
abbrev cX0_watch : ByteArray := prog_2_method_8_code
def yX0_watch : MethodName := ⟨RX0, "watch", "(LFilmLines$Film;I)V"⟩
abbrev cX0_isNoWorse : ByteArray := prog_2_method_9_code
def yX0_isNoWorse : MethodName := ⟨RX0, "isNoWorse", "()Z"⟩
abbrev cX0_keep : ByteArray := prog_2_method_10_code
def yX0_keep : MethodName := ⟨RX0, "keep", "(I)V"⟩
def RX1 : String := "FilmLines$Cutter"
def TX1 : u_T := fun k => match k with
  | 0 => ("FilmLines$Cutter", "losses", "[I", true)
  | 1 => ("FilmLines$Cutter", "choiceWays", "[I", true)
  | 2 => ("FilmLines$Cutter", "tried", "[I", true)
  | 3 => ("FilmLines$Cutter", "chosen", "[I", true)
  | 4 => ("FilmLines$Cutter", "choices", "I", false)
  | 5 => ("FilmLines$Cutter", "limit", "I", false)
  | 6 => ("FilmLines$Cutter", "leastLoss", "I", false)
  | _ => ("FilmLines$Cutter", "leastBits", "I", false)
def tyX1 : Nat → FieldType := fun k => match k with
  | 0 => .array .int
  | 1 => .array .int
  | 2 => .array .int
  | 3 => .array .int
  | 4 => .int
  | 5 => .int
  | 6 => .int
  | _ => .int
abbrev wsX10 : List Cond := u_ws RX1 TX1 8
theorem nmX1 : ∀ a, a < 8 → ∀ b, b < 8 → a ≠ b → (TX1 a).2.1 ≠ (TX1 b).2.1 := by decide +kernel
theorem tyX1_ok : ∀ k, k < 8 → parseFieldDescriptor (TX1 k).2.2.1 = some (tyX1 k) := by decide +kernel
abbrev cX1_init : ByteArray := prog_3_method_1_code
def yX1_init : MethodName := ⟨RX1, "<init>", "()V"⟩
abbrev cX1_cut : ByteArray := prog_3_method_2_code
def yX1_cut : MethodName := ⟨RX1, "cut", "(LFilmLines$Frames;II)V"⟩
abbrev cX1_gather : ByteArray := prog_3_method_3_code
def yX1_gather : MethodName := ⟨RX1, "gather", "(IZ)V"⟩
abbrev cX1_bestMoved : ByteArray := prog_3_method_4_code
def yX1_bestMoved : MethodName := ⟨RX1, "bestMoved", "(I)I"⟩
abbrev cX1_lossBy : ByteArray := prog_3_method_5_code
def yX1_lossBy : MethodName := ⟨RX1, "lossBy", "(LFilmLines$Frames;III)I"⟩
abbrev cX1_dotBy : ByteArray := prog_3_method_6_code
def yX1_dotBy : MethodName := ⟨RX1, "dotBy", "(LFilmLines$Frames;IIII)I"⟩
abbrev cX1_mean : ByteArray := prog_3_method_7_code
def yX1_mean : MethodName := ⟨RX1, "mean", "(LFilmLines$Frames;II)I"⟩
abbrev cX1_withinRim : ByteArray := prog_3_method_8_code
def yX1_withinRim : MethodName := ⟨RX1, "withinRim", "(I)I"⟩
abbrev cX1_tryBlock : ByteArray := prog_3_method_9_code
def yX1_tryBlock : MethodName := ⟨RX1, "tryBlock", "(III)V"⟩
abbrev cX1_tryWay : ByteArray := prog_3_method_10_code
def yX1_tryWay : MethodName := ⟨RX1, "tryWay", "(IIII)V"⟩
abbrev cX1_weigh : ByteArray := prog_3_method_11_code
def yX1_weigh : MethodName := ⟨RX1, "weigh", "(II)V"⟩
abbrev cX1_open : ByteArray := prog_3_method_12_code
def yX1_open : MethodName := ⟨RX1, "open", "(LFilmLines$Frames;I)V"⟩
def RX2 : String := "FilmLines$Film"
def TX2 : u_T := fun k => match k with
  | 0 => ("FilmLines$Film", "line", "[I", true)
  | 1 => ("FilmLines$Film", "sizeBits", "[I", true)
  | 2 => ("FilmLines$Film", "count", "I", false)
  | _ => ("FilmLines$Film", "doors", "I", false)
def tyX2 : Nat → FieldType := fun k => match k with
  | 0 => .array .int
  | 1 => .array .int
  | 2 => .int
  | _ => .int
abbrev wsX20 : List Cond := u_ws RX2 TX2 4
theorem nmX2 : ∀ a, a < 4 → ∀ b, b < 4 → a ≠ b → (TX2 a).2.1 ≠ (TX2 b).2.1 := by decide +kernel
theorem tyX2_ok : ∀ k, k < 4 → parseFieldDescriptor (TX2 k).2.2.1 = some (tyX2 k) := by decide +kernel
abbrev cX2_init : ByteArray := prog_4_method_1_code
def yX2_init : MethodName := ⟨RX2, "<init>", "()V"⟩
abbrev cX2_bitsOf : ByteArray := prog_4_method_2_code
def yX2_bitsOf : MethodName := ⟨RX2, "bitsOf", "(II)I"⟩
abbrev cX2_changeBits : ByteArray := prog_4_method_3_code
def yX2_changeBits : MethodName := ⟨RX2, "changeBits", "(III)I"⟩
abbrev cX2_changeLine : ByteArray := prog_4_method_4_code
def yX2_changeLine : MethodName := ⟨RX2, "changeLine", "(III)V"⟩
abbrev cX2_isDoor : ByteArray := prog_4_method_5_code
def yX2_isDoor : MethodName := ⟨RX2, "isDoor", "(I)Z"⟩
def RX3 : String := "FilmLines$Frames"
def TX3 : u_T := fun k => match k with
  | 0 => ("FilmLines$Frames", "dots", "[I", true)
  | 1 => ("FilmLines$Frames", "openedDots", "[I", true)
  | 2 => ("FilmLines$Frames", "keys", "[Z", true)
  | 3 => ("FilmLines$Frames", "ways", "[I", true)
  | 4 => ("FilmLines$Frames", "cutBits", "[I", true)
  | 5 => ("FilmLines$Frames", "cutLoss", "[I", true)
  | 6 => ("FilmLines$Frames", "cutter", "LFilmLines$Cutter;", true)
  | 7 => ("FilmLines$Frames", "count", "I", false)
  | _ => ("FilmLines$Frames", "cutCount", "I", false)
def tyX3 : Nat → FieldType := fun k => match k with
  | 0 => .array .int
  | 1 => .array .int
  | 2 => .array .boolean
  | 3 => .array .int
  | 4 => .array .int
  | 5 => .array .int
  | 6 => .object "FilmLines$Cutter"
  | 7 => .int
  | _ => .int
abbrev wsX30 : List Cond := u_ws RX3 TX3 9
theorem nmX3 : ∀ a, a < 9 → ∀ b, b < 9 → a ≠ b → (TX3 a).2.1 ≠ (TX3 b).2.1 := by decide +kernel
theorem tyX3_ok : ∀ k, k < 9 → parseFieldDescriptor (TX3 k).2.2.1 = some (tyX3 k) := by decide +kernel
abbrev cX3_init : ByteArray := prog_5_method_1_code
def yX3_init : MethodName := ⟨RX3, "<init>", "()V"⟩
abbrev cX3_has : ByteArray := prog_5_method_2_code
def yX3_has : MethodName := ⟨RX3, "has", "(I)Z"⟩
abbrev cX3_add : ByteArray := prog_5_method_3_code
def yX3_add : MethodName := ⟨RX3, "add", "()I"⟩
abbrev cX3_changeDot : ByteArray := prog_5_method_4_code
def yX3_changeDot : MethodName := ⟨RX3, "changeDot", "(III)I"⟩
abbrev cX3_changeKey : ByteArray := prog_5_method_5_code
def yX3_changeKey : MethodName := ⟨RX3, "changeKey", "(IZ)Z"⟩
abbrev cX3_forgetCutsFrom : ByteArray := prog_5_method_6_code
def yX3_forgetCutsFrom : MethodName := ⟨RX3, "forgetCutsFrom", "(I)V"⟩
abbrev cX3_cutUpTo : ByteArray := prog_5_method_7_code
def yX3_cutUpTo : MethodName := ⟨RX3, "cutUpTo", "(II)V"⟩
abbrev cX3_unlike : ByteArray := prog_5_method_8_code
def yX3_unlike : MethodName := ⟨RX3, "unlike", "(I)I"⟩
abbrev cX3_isScene : ByteArray := prog_5_method_9_code
def yX3_isScene : MethodName := ⟨RX3, "isScene", "(II)Z"⟩
abbrev cX3_isStill : ByteArray := prog_5_method_10_code
def yX3_isStill : MethodName := ⟨RX3, "isStill", "(I)Z"⟩
abbrev cX3_scenes : ByteArray := prog_5_method_11_code
def yX3_scenes : MethodName := ⟨RX3, "scenes", "(I)I"⟩
abbrev cX3_stills : ByteArray := prog_5_method_12_code
def yX3_stills : MethodName := ⟨RX3, "stills", "()I"⟩
def RX4 : String := "FilmLines$Groups"
def TX4 : u_T := fun k => match k with
  | _ => ("FilmLines$Groups", "numbers", "[I", true)
def tyX4 : Nat → FieldType := fun k => match k with
  | _ => .array .int
abbrev wsX40 : List Cond := u_ws RX4 TX4 1
theorem nmX4 : ∀ a, a < 1 → ∀ b, b < 1 → a ≠ b → (TX4 a).2.1 ≠ (TX4 b).2.1 := by decide +kernel
theorem tyX4_ok : ∀ k, k < 1 → parseFieldDescriptor (TX4 k).2.2.1 = some (tyX4 k) := by decide +kernel
abbrev cX4_init : ByteArray := prog_6_method_1_code
def yX4_init : MethodName := ⟨RX4, "<init>", "()V"⟩
abbrev cX4_change : ByteArray := prog_6_method_2_code
def yX4_change : MethodName := ⟨RX4, "change", "(III)I"⟩
abbrev cX4_numberAt : ByteArray := prog_6_method_3_code
def yX4_numberAt : MethodName := ⟨RX4, "numberAt", "(II)I"⟩
abbrev cX4_plainSum : ByteArray := prog_6_method_4_code
def yX4_plainSum : MethodName := ⟨RX4, "plainSum", "(I)I"⟩
abbrev cX4_placeSum : ByteArray := prog_6_method_5_code
def yX4_placeSum : MethodName := ⟨RX4, "placeSum", "(I)I"⟩
abbrev cX4_restorable : ByteArray := prog_6_method_6_code
def yX4_restorable : MethodName := ⟨RX4, "restorable", "(I)Z"⟩
def RX5 : String := "FilmLines$Marks"
def TX5 : u_T := fun k => match k with
  | _ => ("FilmLines$Marks", "rows", "[I", true)
def tyX5 : Nat → FieldType := fun k => match k with
  | _ => .array .int
abbrev wsX50 : List Cond := u_ws RX5 TX5 1
theorem nmX5 : ∀ a, a < 1 → ∀ b, b < 1 → a ≠ b → (TX5 a).2.1 ≠ (TX5 b).2.1 := by decide +kernel
theorem tyX5_ok : ∀ k, k < 1 → parseFieldDescriptor (TX5 k).2.2.1 = some (tyX5 k) := by decide +kernel
abbrev cX5_init : ByteArray := prog_7_method_1_code
def yX5_init : MethodName := ⟨RX5, "<init>", "()V"⟩
abbrev cX5_change : ByteArray := prog_7_method_2_code
def yX5_change : MethodName := ⟨RX5, "change", "(II)I"⟩
abbrev cX5_blamed : ByteArray := prog_7_method_3_code
def yX5_blamed : MethodName := ⟨RX5, "blamed", "(II)I"⟩
abbrev cX5_pairs : ByteArray := prog_7_method_4_code
def yX5_pairs : MethodName := ⟨RX5, "pairs", "(II)I"⟩
abbrev cX5_firstPair : ByteArray := prog_7_method_5_code
def yX5_firstPair : MethodName := ⟨RX5, "firstPair", "(II)I"⟩
abbrev cX5_isPair : ByteArray := prog_7_method_6_code
def yX5_isPair : MethodName := ⟨RX5, "isPair", "(IIII)Z"⟩
abbrev cX5_unlike : ByteArray := prog_7_method_7_code
def yX5_unlike : MethodName := ⟨RX5, "unlike", "(III)I"⟩
def RX6 : String := "FilmLines$Nodes"
def TX6 : u_T := fun k => match k with
  | 0 => ("FilmLines$Nodes", "parents", "[I", true)
  | 1 => ("FilmLines$Nodes", "delays", "[I", true)
  | _ => ("FilmLines$Nodes", "fallen", "[Z", true)
def tyX6 : Nat → FieldType := fun k => match k with
  | 0 => .array .int
  | 1 => .array .int
  | _ => .array .boolean
abbrev wsX60 : List Cond := u_ws RX6 TX6 3
theorem nmX6 : ∀ a, a < 3 → ∀ b, b < 3 → a ≠ b → (TX6 a).2.1 ≠ (TX6 b).2.1 := by decide +kernel
theorem tyX6_ok : ∀ k, k < 3 → parseFieldDescriptor (TX6 k).2.2.1 = some (tyX6 k) := by decide +kernel
abbrev cX6_init : ByteArray := prog_8_method_1_code
def yX6_init : MethodName := ⟨RX6, "<init>", "()V"⟩
abbrev cX6_rehang : ByteArray := prog_8_method_2_code
def yX6_rehang : MethodName := ⟨RX6, "rehang", "(III)I"⟩
abbrev cX6_hangingOn : ByteArray := prog_8_method_3_code
def yX6_hangingOn : MethodName := ⟨RX6, "hangingOn", "(II)I"⟩
abbrev cX6_delayUpTo0 : ByteArray := prog_8_method_4_code
def yX6_delayUpTo0 : MethodName := ⟨RX6, "delayUpTo0", "(I)I"⟩
abbrev cX6_drop : ByteArray := prog_8_method_5_code
def yX6_drop : MethodName := ⟨RX6, "drop", "(II)I"⟩
abbrev cX6_newParent : ByteArray := prog_8_method_6_code
def yX6_newParent : MethodName := ⟨RX6, "newParent", "(II)I"⟩
abbrev cX6_standing : ByteArray := prog_8_method_7_code
def yX6_standing : MethodName := ⟨RX6, "standing", "()I"⟩
abbrev cX6_standingWithin : ByteArray := prog_8_method_8_code
def yX6_standingWithin : MethodName := ⟨RX6, "standingWithin", "(I)I"⟩
abbrev cX6_hangsOn : ByteArray := prog_8_method_9_code
def yX6_hangsOn : MethodName := ⟨RX6, "hangsOn", "(I)I"⟩
def RX7 : String := "FilmLines$Rights"
def TX7 : u_T := fun k => match k with
  | 0 => ("FilmLines$Rights", "films", "[I", true)
  | 1 => ("FilmLines$Rights", "lands", "[I", true)
  | 2 => ("FilmLines$Rights", "froms", "[I", true)
  | 3 => ("FilmLines$Rights", "tos", "[I", true)
  | 4 => ("FilmLines$Rights", "limits", "[I", true)
  | 5 => ("FilmLines$Rights", "count", "I", false)
  | 6 => ("FilmLines$Rights", "seerLands", "[I", true)
  | 7 => ("FilmLines$Rights", "seconds", "[J", true)
  | _ => ("FilmLines$Rights", "times", "[I", true)
def tyX7 : Nat → FieldType := fun k => match k with
  | 0 => .array .int
  | 1 => .array .int
  | 2 => .array .int
  | 3 => .array .int
  | 4 => .array .int
  | 5 => .int
  | 6 => .array .int
  | 7 => .array .long
  | _ => .array .int
abbrev wsX70 : List Cond := u_ws RX7 TX7 9
theorem nmX7 : ∀ a, a < 9 → ∀ b, b < 9 → a ≠ b → (TX7 a).2.1 ≠ (TX7 b).2.1 := by decide +kernel
theorem tyX7_ok : ∀ k, k < 9 → parseFieldDescriptor (TX7 k).2.2.1 = some (tyX7 k) := by decide +kernel
abbrev cX7_init : ByteArray := prog_9_method_1_code
def yX7_init : MethodName := ⟨RX7, "<init>", "()V"⟩
abbrev cX7_add : ByteArray := prog_9_method_2_code
def yX7_add : MethodName := ⟨RX7, "add", "(IIIII)I"⟩
abbrev cX7_changeLand : ByteArray := prog_9_method_3_code
def yX7_changeLand : MethodName := ⟨RX7, "changeLand", "(II)I"⟩
abbrev cX7_allow : ByteArray := prog_9_method_4_code
def yX7_allow : MethodName := ⟨RX7, "allow", "(III)Z"⟩
abbrev cX7_addSeeing : ByteArray := prog_9_method_5_code
def yX7_addSeeing : MethodName := ⟨RX7, "addSeeing", "(IIII)I"⟩
abbrev cX7_secondsSeen : ByteArray := prog_9_method_6_code
def yX7_secondsSeen : MethodName := ⟨RX7, "secondsSeen", "(II)I"⟩
abbrev cX7_timesSeen : ByteArray := prog_9_method_7_code
def yX7_timesSeen : MethodName := ⟨RX7, "timesSeen", "(II)I"⟩
abbrev cX7_owedFor : ByteArray := prog_9_method_8_code
def yX7_owedFor : MethodName := ⟨RX7, "owedFor", "(III)I"⟩
def RX8 : String := "FilmLines$Rule"
def TX8 : u_T := fun k => match k with
  | 0 => ("FilmLines$Rule", "signs", "[I", true)
  | 1 => ("FilmLines$Rule", "count", "I", false)
  | 2 => ("FilmLines$Rule", "facts", "[I", true)
  | 3 => ("FilmLines$Rule", "below", "[Z", true)
  | 4 => ("FilmLines$Rule", "numbers", "[I", true)
  | 5 => ("FilmLines$Rule", "sizes", "[I", true)
  | 6 => ("FilmLines$Rule", "clauses", "I", false)
  | _ => ("FilmLines$Rule", "lastSize", "I", false)
def tyX8 : Nat → FieldType := fun k => match k with
  | 0 => .array .int
  | 1 => .int
  | 2 => .array .int
  | 3 => .array .boolean
  | 4 => .array .int
  | 5 => .array .int
  | 6 => .int
  | _ => .int
abbrev wsX80 : List Cond := u_ws RX8 TX8 8
theorem nmX8 : ∀ a, a < 8 → ∀ b, b < 8 → a ≠ b → (TX8 a).2.1 ≠ (TX8 b).2.1 := by decide +kernel
theorem tyX8_ok : ∀ k, k < 8 → parseFieldDescriptor (TX8 k).2.2.1 = some (tyX8 k) := by decide +kernel
abbrev cX8_init : ByteArray := prog_10_method_1_code
def yX8_init : MethodName := ⟨RX8, "<init>", "()V"⟩
abbrev cX8_addSign : ByteArray := prog_10_method_2_code
def yX8_addSign : MethodName := ⟨RX8, "addSign", "(I)I"⟩
abbrev cX8_dropSigns : ByteArray := prog_10_method_3_code
def yX8_dropSigns : MethodName := ⟨RX8, "dropSigns", "()I"⟩
abbrev cX8_firstFault : ByteArray := prog_10_method_4_code
def yX8_firstFault : MethodName := ⟨RX8, "firstFault", "()I"⟩
abbrev cX8_adopt : ByteArray := prog_10_method_5_code
def yX8_adopt : MethodName := ⟨RX8, "adopt", "()V"⟩
abbrev cX8_takeSign : ByteArray := prog_10_method_6_code
def yX8_takeSign : MethodName := ⟨RX8, "takeSign", "(II)V"⟩
abbrev cX8_pick : ByteArray := prog_10_method_7_code
def yX8_pick : MethodName := ⟨RX8, "pick", "(IIII)I"⟩
abbrev cX8_after : ByteArray := prog_10_method_8_code
def yX8_after : MethodName := ⟨RX8, "after", "(II)I"⟩
abbrev cX8_isFact : ByteArray := prog_10_method_9_code
def yX8_isFact : MethodName := ⟨RX8, "isFact", "(I)Z"⟩
abbrev cX8_isSize : ByteArray := prog_10_method_10_code
def yX8_isSize : MethodName := ⟨RX8, "isSize", "(I)Z"⟩
abbrev cX8_isDigit : ByteArray := prog_10_method_11_code
def yX8_isDigit : MethodName := ⟨RX8, "isDigit", "(I)Z"⟩
def RX9 : String := "FilmLines$Show"
def TX9 : u_T := fun k => match k with
  | 0 => ("FilmLines$Show", "sizes", "[I", true)
  | 1 => ("FilmLines$Show", "seenCount", "I", false)
  | 2 => ("FilmLines$Show", "stills", "I", false)
  | 3 => ("FilmLines$Show", "sizeSum", "I", false)
  | 4 => ("FilmLines$Show", "lastSecond", "I", false)
  | 5 => ("FilmLines$Show", "whole", "I", false)
  | _ => ("FilmLines$Show", "missing", "I", false)
def tyX9 : Nat → FieldType := fun k => match k with
  | 0 => .array .int
  | 1 => .int
  | 2 => .int
  | 3 => .int
  | 4 => .int
  | 5 => .int
  | _ => .int
abbrev wsX90 : List Cond := u_ws RX9 TX9 7
theorem nmX9 : ∀ a, a < 7 → ∀ b, b < 7 → a ≠ b → (TX9 a).2.1 ≠ (TX9 b).2.1 := by decide +kernel
theorem tyX9_ok : ∀ k, k < 7 → parseFieldDescriptor (TX9 k).2.2.1 = some (tyX9 k) := by decide +kernel
abbrev cX9_init : ByteArray := prog_11_method_1_code
def yX9_init : MethodName := ⟨RX9, "<init>", "()V"⟩
abbrev cX9_tells : ByteArray := prog_11_method_2_code
def yX9_tells : MethodName := ⟨RX9, "tells", "(I)Z"⟩
abbrev cX9_answer : ByteArray := prog_11_method_3_code
def yX9_answer : MethodName := ⟨RX9, "answer", "(I)I"⟩
abbrev cX9_clear : ByteArray := prog_11_method_4_code
def yX9_clear : MethodName := ⟨RX9, "clear", "()V"⟩
abbrev cX9_run : ByteArray := prog_11_method_5_code
def yX9_run : MethodName := ⟨RX9, "run", "(LFilmLines$Film;LFilmLines$Rule;I)V"⟩
abbrev cX9_load : ByteArray := prog_11_method_6_code
def yX9_load : MethodName := ⟨RX9, "load", "(LFilmLines$Film;LFilmLines$Rule;I)V"⟩
abbrev cX9_begin : ByteArray := prog_11_method_7_code
def yX9_begin : MethodName := ⟨RX9, "begin", "(LFilmLines$Film;LFilmLines$Rule;II)V"⟩
abbrev cX9_watch : ByteArray := prog_11_method_8_code
def yX9_watch : MethodName := ⟨RX9, "watch", "(LFilmLines$Film;I)V"⟩
def RX10 : String := "FilmLines$Towns"
def TX10 : u_T := fun k => match k with
  | 0 => ("FilmLines$Towns", "rooms", "[I", true)
  | 1 => ("FilmLines$Towns", "fars", "[I", true)
  | 2 => ("FilmLines$Towns", "weights", "[I", true)
  | _ => ("FilmLines$Towns", "asks", "[I", true)
def tyX10 : Nat → FieldType := fun k => match k with
  | 0 => .array .int
  | 1 => .array .int
  | 2 => .array .int
  | _ => .array .int
abbrev wsX100 : List Cond := u_ws RX10 TX10 4
theorem nmX10 : ∀ a, a < 4 → ∀ b, b < 4 → a ≠ b → (TX10 a).2.1 ≠ (TX10 b).2.1 := by decide +kernel
theorem tyX10_ok : ∀ k, k < 4 → parseFieldDescriptor (TX10 k).2.2.1 = some (tyX10 k) := by decide +kernel
abbrev cX10_init : ByteArray := prog_12_method_1_code
def yX10_init : MethodName := ⟨RX10, "<init>", "()V"⟩
abbrev cX10_changeRoom : ByteArray := prog_12_method_2_code
def yX10_changeRoom : MethodName := ⟨RX10, "changeRoom", "(II)I"⟩
abbrev cX10_changeFar : ByteArray := prog_12_method_3_code
def yX10_changeFar : MethodName := ⟨RX10, "changeFar", "(II)I"⟩
abbrev cX10_changeWeight : ByteArray := prog_12_method_4_code
def yX10_changeWeight : MethodName := ⟨RX10, "changeWeight", "(II)I"⟩
abbrev cX10_changeAsks : ByteArray := prog_12_method_5_code
def yX10_changeAsks : MethodName := ⟨RX10, "changeAsks", "(III)I"⟩
abbrev cX10_bestFilms : ByteArray := prog_12_method_6_code
def yX10_bestFilms : MethodName := ⟨RX10, "bestFilms", "(I)I"⟩
abbrev cX10_weightOf : ByteArray := prog_12_method_7_code
def yX10_weightOf : MethodName := ⟨RX10, "weightOf", "(I)I"⟩
abbrev cX10_costOf : ByteArray := prog_12_method_8_code
def yX10_costOf : MethodName := ⟨RX10, "costOf", "(II)I"⟩
def RX11 : String := "FilmLines"
def TX11 : u_T := fun k => match k with
  | 0 => ("FilmLines", "settings", "[I", true)
  | 1 => ("FilmLines", "frames", "LFilmLines$Frames;", true)
  | 2 => ("FilmLines", "theFilm", "LFilmLines$Film;", true)
  | 3 => ("FilmLines", "theRule", "LFilmLines$Rule;", true)
  | 4 => ("FilmLines", "ruleShow", "LFilmLines$Show;", true)
  | 5 => ("FilmLines", "search", "LFilmLines$BestSearch;", true)
  | 6 => ("FilmLines", "towns", "LFilmLines$Towns;", true)
  | 7 => ("FilmLines", "rights", "LFilmLines$Rights;", true)
  | 8 => ("FilmLines", "marks", "LFilmLines$Marks;", true)
  | 9 => ("FilmLines", "groups", "LFilmLines$Groups;", true)
  | 10 => ("FilmLines", "nodes", "LFilmLines$Nodes;", true)
  | 11 => ("FilmLines", "showHolds", "Z", false)
  | _ => ("FilmLines", "bestHolds", "Z", false)
def tyX11 : Nat → FieldType := fun k => match k with
  | 0 => .array .int
  | 1 => .object "FilmLines$Frames"
  | 2 => .object "FilmLines$Film"
  | 3 => .object "FilmLines$Rule"
  | 4 => .object "FilmLines$Show"
  | 5 => .object "FilmLines$BestSearch"
  | 6 => .object "FilmLines$Towns"
  | 7 => .object "FilmLines$Rights"
  | 8 => .object "FilmLines$Marks"
  | 9 => .object "FilmLines$Groups"
  | 10 => .object "FilmLines$Nodes"
  | 11 => .boolean
  | _ => .boolean
abbrev wsX110 : List Cond := u_ws RX11 TX11 13
theorem nmX11 : ∀ a, a < 13 → ∀ b, b < 13 → a ≠ b → (TX11 a).2.1 ≠ (TX11 b).2.1 := by decide +kernel
theorem tyX11_ok : ∀ k, k < 13 → parseFieldDescriptor (TX11 k).2.2.1 = some (tyX11 k) := by decide +kernel
abbrev cX11_init : ByteArray := prog_1_method_1_code
def yX11_init : MethodName := ⟨RX11, "<init>", "()V"⟩
abbrev cX11_frame : ByteArray := prog_1_method_2_code
def yX11_frame : MethodName := ⟨RX11, "frame", "()I"⟩
abbrev cX11_dot : ByteArray := prog_1_method_3_code
def yX11_dot : MethodName := ⟨RX11, "dot", "(III)I"⟩
abbrev cX11_key : ByteArray := prog_1_method_4_code
def yX11_key : MethodName := ⟨RX11, "key", "(IZ)I"⟩
abbrev cX11_set : ByteArray := prog_1_method_5_code
def yX11_set : MethodName := ⟨RX11, "set", "(II)I"⟩
abbrev cX11_way : ByteArray := prog_1_method_6_code
def yX11_way : MethodName := ⟨RX11, "way", "(II)I"⟩
abbrev cX11_opened : ByteArray := prog_1_method_7_code
def yX11_opened : MethodName := ⟨RX11, "opened", "(II)I"⟩
abbrev cX11_of : ByteArray := prog_1_method_8_code
def yX11_of : MethodName := ⟨RX11, "of", "(II)I"⟩
abbrev cX11_pieces : ByteArray := prog_1_method_9_code
def yX11_pieces : MethodName := ⟨RX11, "pieces", "(I)I"⟩
abbrev cX11_bits : ByteArray := prog_1_method_10_code
def yX11_bits : MethodName := ⟨RX11, "bits", "(III)I"⟩
abbrev cX11_doors : ByteArray := prog_1_method_11_code
def yX11_doors : MethodName := ⟨RX11, "doors", "(I)I"⟩
abbrev cX11_line : ByteArray := prog_1_method_12_code
def yX11_line : MethodName := ⟨RX11, "line", "(III)I"⟩
abbrev cX11_say : ByteArray := prog_1_method_13_code
def yX11_say : MethodName := ⟨RX11, "say", "(I)I"⟩
abbrev cX11_wipe : ByteArray := prog_1_method_14_code
def yX11_wipe : MethodName := ⟨RX11, "wipe", "()I"⟩
abbrev cX11_fault : ByteArray := prog_1_method_15_code
def yX11_fault : MethodName := ⟨RX11, "fault", "()I"⟩
abbrev cX11_rule : ByteArray := prog_1_method_16_code
def yX11_rule : MethodName := ⟨RX11, "rule", "()I"⟩
abbrev cX11_show : ByteArray := prog_1_method_17_code
def yX11_show : MethodName := ⟨RX11, "show", "(I)I"⟩
abbrev cX11_best : ByteArray := prog_1_method_18_code
def yX11_best : MethodName := ⟨RX11, "best", "(I)I"⟩
abbrev cX11_town : ByteArray := prog_1_method_19_code
def yX11_town : MethodName := ⟨RX11, "town", "(III)I"⟩
abbrev cX11_weight : ByteArray := prog_1_method_20_code
def yX11_weight : MethodName := ⟨RX11, "weight", "(II)I"⟩
abbrev cX11_ask : ByteArray := prog_1_method_21_code
def yX11_ask : MethodName := ⟨RX11, "ask", "(III)I"⟩
abbrev cX11_kept : ByteArray := prog_1_method_22_code
def yX11_kept : MethodName := ⟨RX11, "kept", "(II)I"⟩
abbrev cX11_right : ByteArray := prog_1_method_23_code
def yX11_right : MethodName := ⟨RX11, "right", "(IIIII)I"⟩
abbrev cX11_land : ByteArray := prog_1_method_24_code
def yX11_land : MethodName := ⟨RX11, "land", "(II)I"⟩
abbrev cX11_may : ByteArray := prog_1_method_25_code
def yX11_may : MethodName := ⟨RX11, "may", "(III)I"⟩
abbrev cX11_see : ByteArray := prog_1_method_26_code
def yX11_see : MethodName := ⟨RX11, "see", "(IIIII)I"⟩
abbrev cX11_seen : ByteArray := prog_1_method_27_code
def yX11_seen : MethodName := ⟨RX11, "seen", "(III)I"⟩
abbrev cX11_owed : ByteArray := prog_1_method_28_code
def yX11_owed : MethodName := ⟨RX11, "owed", "(I)I"⟩
abbrev cX11_mark : ByteArray := prog_1_method_29_code
def yX11_mark : MethodName := ⟨RX11, "mark", "(II)I"⟩
abbrev cX11_blame : ByteArray := prog_1_method_30_code
def yX11_blame : MethodName := ⟨RX11, "blame", "(III)I"⟩
abbrev cX11_put : ByteArray := prog_1_method_31_code
def yX11_put : MethodName := ⟨RX11, "put", "(III)I"⟩
abbrev cX11_sum : ByteArray := prog_1_method_32_code
def yX11_sum : MethodName := ⟨RX11, "sum", "(II)I"⟩
abbrev cX11_restore : ByteArray := prog_1_method_33_code
def yX11_restore : MethodName := ⟨RX11, "restore", "(III)I"⟩
abbrev cX11_hang : ByteArray := prog_1_method_34_code
def yX11_hang : MethodName := ⟨RX11, "hang", "(III)I"⟩
abbrev cX11_behind : ByteArray := prog_1_method_35_code
def yX11_behind : MethodName := ⟨RX11, "behind", "(I)I"⟩
abbrev cX11_fall : ByteArray := prog_1_method_36_code
def yX11_fall : MethodName := ⟨RX11, "fall", "(I)I"⟩
abbrev cX11_tree : ByteArray := prog_1_method_37_code
def yX11_tree : MethodName := ⟨RX11, "tree", "(I)I"⟩
abbrev cX11_told : ByteArray := prog_1_method_38_code
def yX11_told : MethodName := ⟨RX11, "told", "(I)I"⟩
abbrev cX11_between : ByteArray := prog_1_method_39_code
def yX11_between : MethodName := ⟨RX11, "between", "(III)Z"⟩
abbrev cX11_isFilm : ByteArray := prog_1_method_40_code
def yX11_isFilm : MethodName := ⟨RX11, "isFilm", "(I)Z"⟩
abbrev cX11_isSeer : ByteArray := prog_1_method_41_code
def yX11_isSeer : MethodName := ⟨RX11, "isSeer", "(I)Z"⟩
abbrev cX11_isNode : ByteArray := prog_1_method_42_code
def yX11_isNode : MethodName := ⟨RX11, "isNode", "(I)Z"⟩
abbrev cX11_forgetShows : ByteArray := prog_1_method_43_code
def yX11_forgetShows : MethodName := ⟨RX11, "forgetShows", "()V"⟩
def RX12 : String := "FilmLinesModel"
def TX12 : u_T := fun k => match k with
  | 0 => ("FilmLinesModel", "frames", "I", false)
  | 1 => ("FilmLinesModel", "dots", "[I", true)
  | 2 => ("FilmLinesModel", "isKey", "[Z", true)
  | 3 => ("FilmLinesModel", "told", "[I", true)
  | 4 => ("FilmLinesModel", "pieces", "I", false)
  | 5 => ("FilmLinesModel", "size", "[I", true)
  | 6 => ("FilmLinesModel", "doors", "I", false)
  | 7 => ("FilmLinesModel", "line", "[I", true)
  | 8 => ("FilmLinesModel", "signs", "I", false)
  | 9 => ("FilmLinesModel", "sign", "[I", true)
  | 10 => ("FilmLinesModel", "ruleMany", "I", false)
  | 11 => ("FilmLinesModel", "ruleSign", "[I", true)
  | 12 => ("FilmLinesModel", "room", "[I", true)
  | 13 => ("FilmLinesModel", "far", "[I", true)
  | 14 => ("FilmLinesModel", "weight", "[I", true)
  | 15 => ("FilmLinesModel", "asks", "[I", true)
  | 16 => ("FilmLinesModel", "rights", "I", false)
  | 17 => ("FilmLinesModel", "right", "[I", true)
  | 18 => ("FilmLinesModel", "seerLand", "[I", true)
  | 19 => ("FilmLinesModel", "seconds", "[Z", true)
  | 20 => ("FilmLinesModel", "times", "[I", true)
  | 21 => ("FilmLinesModel", "marks", "[I", true)
  | 22 => ("FilmLinesModel", "group", "[I", true)
  | 23 => ("FilmLinesModel", "hangs", "[I", true)
  | 24 => ("FilmLinesModel", "delay", "[I", true)
  | 25 => ("FilmLinesModel", "fallen", "[Z", true)
  | 26 => ("FilmLinesModel", "ways", "[I", true)
  | 27 => ("FilmLinesModel", "open", "[I", true)
  | 28 => ("FilmLinesModel", "bitsOf", "[I", true)
  | 29 => ("FilmLinesModel", "lossOf", "[I", true)
  | 30 => ("FilmLinesModel", "loss", "[I", true)
  | 31 => ("FilmLinesModel", "seen", "I", false)
  | 32 => ("FilmLinesModel", "still", "I", false)
  | 33 => ("FilmLinesModel", "sizes", "I", false)
  | 34 => ("FilmLinesModel", "lastSeen", "I", false)
  | 35 => ("FilmLinesModel", "shown", "[I", true)
  | _ => ("FilmLinesModel", "wished", "[I", true)
def tyX12 : Nat → FieldType := fun k => match k with
  | 0 => .int
  | 1 => .array .int
  | 2 => .array .boolean
  | 3 => .array .int
  | 4 => .int
  | 5 => .array .int
  | 6 => .int
  | 7 => .array .int
  | 8 => .int
  | 9 => .array .int
  | 10 => .int
  | 11 => .array .int
  | 12 => .array .int
  | 13 => .array .int
  | 14 => .array .int
  | 15 => .array .int
  | 16 => .int
  | 17 => .array .int
  | 18 => .array .int
  | 19 => .array .boolean
  | 20 => .array .int
  | 21 => .array .int
  | 22 => .array .int
  | 23 => .array .int
  | 24 => .array .int
  | 25 => .array .boolean
  | 26 => .array .int
  | 27 => .array .int
  | 28 => .array .int
  | 29 => .array .int
  | 30 => .array .int
  | 31 => .int
  | 32 => .int
  | 33 => .int
  | 34 => .int
  | 35 => .array .int
  | _ => .array .int
abbrev wsX120 : List Cond := u_ws RX12 TX12 37
theorem nmX12 : ∀ a, a < 37 → ∀ b, b < 37 → a ≠ b → (TX12 a).2.1 ≠ (TX12 b).2.1 := by decide +kernel
theorem tyX12_ok : ∀ k, k < 37 → parseFieldDescriptor (TX12 k).2.2.1 = some (tyX12 k) := by decide +kernel
abbrev cX12_init : ByteArray := prog_14_method_1_code
def yX12_init : MethodName := ⟨RX12, "<init>", "()V"⟩
abbrev cX12_in : ByteArray := prog_14_method_2_code
def yX12_in : MethodName := ⟨RX12, "in", "(III)Z"⟩
abbrev cX12_isFrame : ByteArray := prog_14_method_3_code
def yX12_isFrame : MethodName := ⟨RX12, "isFrame", "(I)Z"⟩
abbrev cX12_frame : ByteArray := prog_14_method_4_code
def yX12_frame : MethodName := ⟨RX12, "frame", "()I"⟩
abbrev cX12_dot : ByteArray := prog_14_method_5_code
def yX12_dot : MethodName := ⟨RX12, "dot", "(III)I"⟩
abbrev cX12_key : ByteArray := prog_14_method_6_code
def yX12_key : MethodName := ⟨RX12, "key", "(IZ)I"⟩
abbrev cX12_set : ByteArray := prog_14_method_7_code
def yX12_set : MethodName := ⟨RX12, "set", "(II)I"⟩
abbrev cX12_costOf : ByteArray := prog_14_method_8_code
def yX12_costOf : MethodName := ⟨RX12, "costOf", "(I)I"⟩
abbrev cX12_dotAt : ByteArray := prog_14_method_9_code
def yX12_dotAt : MethodName := ⟨RX12, "dotAt", "(II)I"⟩
abbrev cX12_held : ByteArray := prog_14_method_10_code
def yX12_held : MethodName := ⟨RX12, "held", "(I)I"⟩
abbrev cX12_openBy : ByteArray := prog_14_method_11_code
def yX12_openBy : MethodName := ⟨RX12, "openBy", "(IIII)I"⟩
abbrev cX12_cutFrame : ByteArray := prog_14_method_12_code
def yX12_cutFrame : MethodName := ⟨RX12, "cutFrame", "(I)V"⟩
abbrev cX12_cut : ByteArray := prog_14_method_13_code
def yX12_cut : MethodName := ⟨RX12, "cut", "(I)V"⟩
abbrev cX12_way : ByteArray := prog_14_method_14_code
def yX12_way : MethodName := ⟨RX12, "way", "(II)I"⟩
abbrev cX12_opened : ByteArray := prog_14_method_15_code
def yX12_opened : MethodName := ⟨RX12, "opened", "(II)I"⟩
abbrev cX12_unlike : ByteArray := prog_14_method_16_code
def yX12_unlike : MethodName := ⟨RX12, "unlike", "(I)I"⟩
abbrev cX12_isScene : ByteArray := prog_14_method_17_code
def yX12_isScene : MethodName := ⟨RX12, "isScene", "(I)Z"⟩
abbrev cX12_isStill : ByteArray := prog_14_method_18_code
def yX12_isStill : MethodName := ⟨RX12, "isStill", "(I)Z"⟩
abbrev cX12_of : ByteArray := prog_14_method_19_code
def yX12_of : MethodName := ⟨RX12, "of", "(II)I"⟩
abbrev cX12_pieces : ByteArray := prog_14_method_20_code
def yX12_pieces : MethodName := ⟨RX12, "pieces", "(I)I"⟩
abbrev cX12_bits : ByteArray := prog_14_method_21_code
def yX12_bits : MethodName := ⟨RX12, "bits", "(III)I"⟩
abbrev cX12_doors : ByteArray := prog_14_method_22_code
def yX12_doors : MethodName := ⟨RX12, "doors", "(I)I"⟩
abbrev cX12_line : ByteArray := prog_14_method_23_code
def yX12_line : MethodName := ⟨RX12, "line", "(III)I"⟩
abbrev cX12_say : ByteArray := prog_14_method_24_code
def yX12_say : MethodName := ⟨RX12, "say", "(I)I"⟩
abbrev cX12_wipe : ByteArray := prog_14_method_25_code
def yX12_wipe : MethodName := ⟨RX12, "wipe", "()I"⟩
abbrev cX12_faultOf : ByteArray := prog_14_method_26_code
def yX12_faultOf : MethodName := ⟨RX12, "faultOf", "()I"⟩
abbrev cX12_fault : ByteArray := prog_14_method_27_code
def yX12_fault : MethodName := ⟨RX12, "fault", "()I"⟩
abbrev cX12_rule : ByteArray := prog_14_method_28_code
def yX12_rule : MethodName := ⟨RX12, "rule", "()I"⟩
abbrev cX12_pick : ByteArray := prog_14_method_29_code
def yX12_pick : MethodName := ⟨RX12, "pick", "(IIII)I"⟩
abbrev cX12_run : ByteArray := prog_14_method_30_code
def yX12_run : MethodName := ⟨RX12, "run", "(Z)V"⟩
abbrev cX12_tell : ByteArray := prog_14_method_31_code
def yX12_tell : MethodName := ⟨RX12, "tell", "(I)I"⟩
abbrev cX12_isTold : ByteArray := prog_14_method_32_code
def yX12_isTold : MethodName := ⟨RX12, "isTold", "(I)Z"⟩
abbrev cX12_show : ByteArray := prog_14_method_33_code
def yX12_show : MethodName := ⟨RX12, "show", "(I)I"⟩
abbrev cX12_wish : ByteArray := prog_14_method_34_code
def yX12_wish : MethodName := ⟨RX12, "wish", "(I)V"⟩
abbrev cX12_best : ByteArray := prog_14_method_35_code
def yX12_best : MethodName := ⟨RX12, "best", "(I)I"⟩
abbrev cX12_isTown : ByteArray := prog_14_method_36_code
def yX12_isTown : MethodName := ⟨RX12, "isTown", "(I)Z"⟩
abbrev cX12_isFilm : ByteArray := prog_14_method_37_code
def yX12_isFilm : MethodName := ⟨RX12, "isFilm", "(I)Z"⟩
abbrev cX12_isSeer : ByteArray := prog_14_method_38_code
def yX12_isSeer : MethodName := ⟨RX12, "isSeer", "(I)Z"⟩
abbrev cX12_town : ByteArray := prog_14_method_39_code
def yX12_town : MethodName := ⟨RX12, "town", "(III)I"⟩
abbrev cX12_weight : ByteArray := prog_14_method_40_code
def yX12_weight : MethodName := ⟨RX12, "weight", "(II)I"⟩
abbrev cX12_ask : ByteArray := prog_14_method_41_code
def yX12_ask : MethodName := ⟨RX12, "ask", "(III)I"⟩
abbrev cX12_kept : ByteArray := prog_14_method_42_code
def yX12_kept : MethodName := ⟨RX12, "kept", "(II)I"⟩
abbrev cX12_right : ByteArray := prog_14_method_43_code
def yX12_right : MethodName := ⟨RX12, "right", "(IIIII)I"⟩
abbrev cX12_land : ByteArray := prog_14_method_44_code
def yX12_land : MethodName := ⟨RX12, "land", "(II)I"⟩
abbrev cX12_mayIt : ByteArray := prog_14_method_45_code
def yX12_mayIt : MethodName := ⟨RX12, "mayIt", "(III)Z"⟩
abbrev cX12_may : ByteArray := prog_14_method_46_code
def yX12_may : MethodName := ⟨RX12, "may", "(III)I"⟩
abbrev cX12_see : ByteArray := prog_14_method_47_code
def yX12_see : MethodName := ⟨RX12, "see", "(IIIII)I"⟩
abbrev cX12_seenOf : ByteArray := prog_14_method_48_code
def yX12_seenOf : MethodName := ⟨RX12, "seenOf", "(II)I"⟩
abbrev cX12_seen : ByteArray := prog_14_method_49_code
def yX12_seen : MethodName := ⟨RX12, "seen", "(III)I"⟩
abbrev cX12_owed : ByteArray := prog_14_method_50_code
def yX12_owed : MethodName := ⟨RX12, "owed", "(I)I"⟩
abbrev cX12_mark : ByteArray := prog_14_method_51_code
def yX12_mark : MethodName := ⟨RX12, "mark", "(II)I"⟩
abbrev cX12_blame : ByteArray := prog_14_method_52_code
def yX12_blame : MethodName := ⟨RX12, "blame", "(III)I"⟩
abbrev cX12_isGroup : ByteArray := prog_14_method_53_code
def yX12_isGroup : MethodName := ⟨RX12, "isGroup", "(I)Z"⟩
abbrev cX12_put : ByteArray := prog_14_method_54_code
def yX12_put : MethodName := ⟨RX12, "put", "(III)I"⟩
abbrev cX12_sum : ByteArray := prog_14_method_55_code
def yX12_sum : MethodName := ⟨RX12, "sum", "(II)I"⟩
abbrev cX12_restore : ByteArray := prog_14_method_56_code
def yX12_restore : MethodName := ⟨RX12, "restore", "(III)I"⟩
abbrev cX12_isNode : ByteArray := prog_14_method_57_code
def yX12_isNode : MethodName := ⟨RX12, "isNode", "(I)Z"⟩
abbrev cX12_hungOn : ByteArray := prog_14_method_58_code
def yX12_hungOn : MethodName := ⟨RX12, "hungOn", "(II)I"⟩
abbrev cX12_hang : ByteArray := prog_14_method_59_code
def yX12_hang : MethodName := ⟨RX12, "hang", "(III)I"⟩
abbrev cX12_behindOf : ByteArray := prog_14_method_60_code
def yX12_behindOf : MethodName := ⟨RX12, "behindOf", "(I)I"⟩
abbrev cX12_behind : ByteArray := prog_14_method_61_code
def yX12_behind : MethodName := ⟨RX12, "behind", "(I)I"⟩
abbrev cX12_isBelow : ByteArray := prog_14_method_62_code
def yX12_isBelow : MethodName := ⟨RX12, "isBelow", "(II)Z"⟩
abbrev cX12_fall : ByteArray := prog_14_method_63_code
def yX12_fall : MethodName := ⟨RX12, "fall", "(I)I"⟩
abbrev cX12_tree : ByteArray := prog_14_method_64_code
def yX12_tree : MethodName := ⟨RX12, "tree", "(I)I"⟩
abbrev cX12_told : ByteArray := prog_14_method_65_code
def yX12_told : MethodName := ⟨RX12, "told", "(I)I"⟩
def RJ6 : String := "java/lang/Integer"
def TJ6 : u_T := fun k => match k with
  | _ => ("", "", "", false)
def tyJ6 : Nat → FieldType := fun k => match k with
  | _ => .int
abbrev wsJ60 : List Cond := u_ws RJ6 TJ6 0
theorem nmJ6 : ∀ a, a < 0 → ∀ b, b < 0 → a ≠ b → (TJ6 a).2.1 ≠ (TJ6 b).2.1 := by decide +kernel
theorem tyJ6_ok : ∀ k, k < 0 → parseFieldDescriptor (TJ6 k).2.2.1 = some (tyJ6 k) := by decide +kernel
abbrev cJ6_bitCount_0f7a4 : ByteArray := prog_15_method_49_code
def yJ6_bitCount_0f7a4 : MethodName := ⟨RJ6, "bitCount", "(I)I"⟩
def RJ13 : String := "java/lang/Long"
def TJ13 : u_T := fun k => match k with
  | _ => ("", "", "", false)
def tyJ13 : Nat → FieldType := fun k => match k with
  | _ => .int
abbrev wsJ130 : List Cond := u_ws RJ13 TJ13 0
theorem nmJ13 : ∀ a, a < 0 → ∀ b, b < 0 → a ≠ b → (TJ13 a).2.1 ≠ (TJ13 b).2.1 := by decide +kernel
theorem tyJ13_ok : ∀ k, k < 0 → parseFieldDescriptor (TJ13 k).2.2.1 = some (tyJ13 k) := by decide +kernel
abbrev cJ13_bitCount_95d88 : ByteArray := prog_16_method_50_code
def yJ13_bitCount_95d88 : MethodName := ⟨RJ13, "bitCount", "(J)I"⟩
def RJ9 : String := "java/lang/Math"
def TJ9 : u_T := fun k => match k with
  | _ => ("", "", "", false)
def tyJ9 : Nat → FieldType := fun k => match k with
  | _ => .int
abbrev wsJ90 : List Cond := u_ws RJ9 TJ9 0
theorem nmJ9 : ∀ a, a < 0 → ∀ b, b < 0 → a ≠ b → (TJ9 a).2.1 ≠ (TJ9 b).2.1 := by decide +kernel
theorem tyJ9_ok : ∀ k, k < 0 → parseFieldDescriptor (TJ9 k).2.2.1 = some (tyJ9 k) := by decide +kernel
abbrev cJ9_abs_0f7a4 : ByteArray := prog_17_method_59_code
def yJ9_abs_0f7a4 : MethodName := ⟨RJ9, "abs", "(I)I"⟩
abbrev cJ9_max_7cf53 : ByteArray := prog_17_method_65_code
def yJ9_max_7cf53 : MethodName := ⟨RJ9, "max", "(II)I"⟩
abbrev cJ9_min_7cf53 : ByteArray := prog_17_method_69_code
def yJ9_min_7cf53 : MethodName := ⟨RJ9, "min", "(II)I"⟩
def RJ10 : String := "java/lang/System"
def TJ10 : u_T := fun k => match k with
  | _ => ("", "", "", false)
def tyJ10 : Nat → FieldType := fun k => match k with
  | _ => .int
abbrev wsJ100 : List Cond := u_ws RJ10 TJ10 0
theorem nmJ10 : ∀ a, a < 0 → ∀ b, b < 0 → a ≠ b → (TJ10 a).2.1 ≠ (TJ10 b).2.1 := by decide +kernel
theorem tyJ10_ok : ∀ k, k < 0 → parseFieldDescriptor (TJ10 k).2.2.1 = some (tyJ10 k) := by decide +kernel
def RL : String := "FilmLinesLaw"
abbrev cL_law : ByteArray := code
def yL_law : MethodName := ⟨RL, "law", "([I)Z"⟩
abbrev classes : List vw_C := [(RX0, TX0, 11), (RX1, TX1, 8), (RX2, TX2, 4), (RX3, TX3, 9), (RX4, TX4, 1), (RX5, TX5, 1), (RX6, TX6, 3), (RX7, TX7, 9), (RX8, TX8, 8), (RX9, TX9, 7), (RX10, TX10, 4), (RX11, TX11, 13), (RX12, TX12, 37)]
theorem inX0 : ∀ w ∈ u_ws RX0 TX0 11, w ∈ lw_tbl := by decide +kernel
theorem inX1 : ∀ w ∈ u_ws RX1 TX1 8, w ∈ lw_tbl := by decide +kernel
theorem inX2 : ∀ w ∈ u_ws RX2 TX2 4, w ∈ lw_tbl := by decide +kernel
theorem inX3 : ∀ w ∈ u_ws RX3 TX3 9, w ∈ lw_tbl := by decide +kernel
theorem inX4 : ∀ w ∈ u_ws RX4 TX4 1, w ∈ lw_tbl := by decide +kernel
theorem inX5 : ∀ w ∈ u_ws RX5 TX5 1, w ∈ lw_tbl := by decide +kernel
theorem inX6 : ∀ w ∈ u_ws RX6 TX6 3, w ∈ lw_tbl := by decide +kernel
theorem inX7 : ∀ w ∈ u_ws RX7 TX7 9, w ∈ lw_tbl := by decide +kernel
theorem inX8 : ∀ w ∈ u_ws RX8 TX8 8, w ∈ lw_tbl := by decide +kernel
theorem inX9 : ∀ w ∈ u_ws RX9 TX9 7, w ∈ lw_tbl := by decide +kernel
theorem inX10 : ∀ w ∈ u_ws RX10 TX10 4, w ∈ lw_tbl := by decide +kernel
theorem inX11 : ∀ w ∈ u_ws RX11 TX11 13, w ∈ lw_tbl := by decide +kernel
theorem inX12 : ∀ w ∈ u_ws RX12 TX12 37, w ∈ lw_tbl := by decide +kernel
end
section
/-! ===== the abstract machine: values, shapes, memory ===== -/
abbrev AV : Type := Int ⊕ (Int64 ⊕ (Nat ⊕ (Nat ⊕ Bool)))
abbrev aI (z : Int) : AV := Sum.inl z
abbrev aL (x : Int64) : AV := Sum.inr (Sum.inl x)
abbrev aR (k : Nat) : AV := Sum.inr (Sum.inr (Sum.inl k))
abbrev aS (j : Nat) : AV := Sum.inr (Sum.inr (Sum.inr (Sum.inl j)))
abbrev aN : AV := Sum.inr (Sum.inr (Sum.inr (Sum.inr false)))
abbrev aU : AV := Sum.inr (Sum.inr (Sum.inr (Sum.inr true)))
/-- lo, static arrays' addresses, class numbers and slots, array classes, the script -/
abbrev KX : Type := Nat × (Nat → Nat) × va_G × (Nat → ClassId) × Nat × (Nat → Int32)
def cvA (κ : KX) : AV → Value
  | .inl z => .int (Int32.ofInt z)
  | .inr (.inl x) => .long x
  | .inr (.inr (.inl k)) => .ref (κ.1 + k)
  | .inr (.inr (.inr (.inl j))) => .ref (κ.2.1 j)
  | .inr (.inr (.inr (.inr _))) => .null
/-- a shape: an array (0 int, 1 boolean, 2 long; its length), or an object (its class; its fields: none an int, some a reference) -/
abbrev SH : Type := (Nat × Nat) ⊕ (Nat × List (Option AV))
abbrev MM : Type := Nat → Int → Int
abbrev ML : Type := Nat → Int → Int64
def up (μ : MM) (c : Nat) (i v : Int) : MM := fun c' i' => if c' = c ∧ i' = i then v else μ c' i'
def upL (ν : ML) (c : Nat) (i : Int) (v : Int64) : ML := fun c' i' => if c' = c ∧ i' = i then v else ν c' i'
def rdF (κ : KX) (μ : MM) (k i : Nat) (f : Option AV) : Value := match f with
  | none => .int (Int32.ofInt (μ k i))
  | some v => cvA κ v
def rdA (ν : ML) (μ : MM) (k t : Nat) : (Nat → Int32) ⊕ (Nat → Int64) ⊕ (Nat → UInt32) ⊕ (Nat → UInt64) ⊕ (Nat → Option Nat) :=
  if t = 2 then .inr (.inl (fun j => ν k (j : Int))) else .inl (fun j => Int32.ofInt (μ k (j : Int)))
def rdC (κ : KX) (μ : MM) (ν : ML) (k : Nat) (sh : SH) : va_E := match sh with
  | .inl (t, n) => .inl (κ.2.2.2.1 t, n, rdA ν μ k t)
  | .inr (ci, fs) => .inr (ci, fs.mapIdx (rdF κ μ k))
def wsA (κ : KX) (S : List SH) (μ : MM) (ν : ML) : va_W := S.mapIdx (fun k sh => (κ.1 + k, rdC κ μ ν k sh))
def Wl (κ : KX) (S : List SH) (μ : MM) (ν : ML) (H : Heap) : Prop := H.size = κ.1 + S.length ∧ va_P κ.2.2.1 classes (wsA κ S μ ν) H
abbrev lwA (κ : KX) : Nat → Prop := fun q => κ.1 ≤ q
def KK (κ : KX) (U : State) : Prop := va_K κ.2.2.1 classes [(κ.2.2.2.1 0, .int), (κ.2.2.2.1 1, .boolean), (κ.2.2.2.1 2, .long)] U
def stN : Nat → String × String
  | 0 => ("FilmLines", "SETTING_LEAST")
  | 1 => ("FilmLines", "SETTING_MOST")
  | 2 => ("FilmLines$Cutter", "WAY_BITS")
  | 3 => ("FilmLines$Cutter", "BLOCK_DOT")
  | _ => ("FilmLines$Cutter", "CORNER_DOT")
def stA : Nat → List Int
  | 0 => [0, 0, 1, 0, 0, 0, 1]
  | 1 => [80, 240, 8, 100, 60, 1000, 9]
  | 2 => [6, 6, 6, 6, 1, 6, 6, 6, 6, 5, 20]
  | 3 => [0, 2, 8, 10]
  | _ => [0, 1, 4, 5]
def stv (j : Nat) (i : Int) : Int := (stA j).getD i.toNat 0
def Stt (κ : KX) (U : State) : Prop := κ.1 ≤ U.heap.size ∧
  (∀ j, j < 5 → va_Z (stN j).1 (stN j).2 "[I" (.ref (κ.2.1 j)) (lwA κ) U U.heap ∧ va_T .int (κ.2.1 j) (stA j).length (fun n => .int (Int32.ofInt ((stA j).getD n 0))) (lwA κ) U U.heap) ∧
  va_X (κ.2.1 5) κ.2.2.2.2.1 κ.2.2.2.2.2 U U.heap ∧ κ.2.1 5 < κ.1
/-- the tables' words that every call may hand on -/
def lwg : List Cond := lw_tbl.filter goodWord
/-- a method: name, bytes, locals, what it returns -/
abbrev MX : Type := MethodName × ByteArray × Nat × Option FieldType
def Fx (κ : KX) (cx : MX) (p : Program) (s : State) (m : MethodId) (args : Array Value) (meth : Method) (c : Code) : Prop :=
  p.tables.exec = Jvm.exec ∧ c.code = cx.2.1 ∧ meth.sig.returnType = cx.2.2.2 ∧ c.maxLocals = cx.2.2.1 ∧ s.vm.findClass cx.1.cls = some m.cls ∧ (∀ w ∈ lwg, w.before args s = true) ∧ meth.locks = false ∧ meth.name = cx.1.name ∧ KK κ s ∧ Stt κ s
def LH (κ : KX) (n : Nat) (lsA : Array Slot) (ls : List AV) : Prop := lsA.size = n ∧ lv_wf lsA ∧ ls.length = n ∧ ∀ (i : Nat) (v : AV), ls[i]? = some v → v ≠ aU → lsA[i]? = some (.val (cvA κ v))
def gt {α : Type} : List α → Nat → Option α
  | [], _ => none
  | a :: _, 0 => some a
  | _ :: r, n + 1 => gt r n
theorem gt_eq {α : Type} : ∀ (l : List α) (n : Nat), gt l n = l[n]?
  | [], n => by simp [gt]
  | a :: r, 0 => by simp [gt]
  | a :: r, n + 1 => by simp [gt, gt_eq r n]
def isLg : Option AV → Bool
  | some (.inr (.inl _)) => true
  | _ => false
def lset (ls : List AV) (i : Nat) (v : AV) : Option (List AV) := match Nat.blt i ls.length && !(Nat.blt 0 i && isLg (gt ls (i - 1))) with
  | true => some (ls.set i v)
  | false => none
def lset2 (ls : List AV) (i : Nat) (v : AV) : Option (List AV) := match Nat.blt (i + 1) ls.length && !(Nat.blt 0 i && isLg (gt ls (i - 1))) with
  | true => some ((ls.set i v).set (i + 1) aU)
  | false => none
def bAnd (a b : Int) : Int := (Int32.ofInt a &&& Int32.ofInt b).toInt
def bOr (a b : Int) : Int := (Int32.ofInt a ||| Int32.ofInt b).toInt
def bXor (a b : Int) : Int := (Int32.ofInt a ^^^ Int32.ofInt b).toInt
def bShl (a b : Int) : Int := (Int32.ofInt a <<< (Int32.ofInt b &&& 31)).toInt
def bShr (a b : Int) : Int := (Int32.ofInt a >>> (Int32.ofInt b &&& 31)).toInt
def bUshr (a b : Int) : Int := (((Int32.ofInt a).toUInt32 >>> ((Int32.ofInt b).toUInt32 &&& Int32.toUInt32 31)).toInt32).toInt
def bDiv (a b : Int) : Int := (Int32.ofInt a / Int32.ofInt b).toInt
def bRem (a b : Int) : Int := (Int32.ofInt a - Int32.ofInt a / Int32.ofInt b * Int32.ofInt b).toInt
def lUshr (x : Int64) (b : Int) : Int64 := (x.toUInt64 >>> ((Int32.ofInt b).toInt64.toUInt64 &&& Int64.toUInt64 63)).toInt64
def lShl (x : Int64) (b : Int) : Int64 := x <<< ((Int32.ofInt b).toInt64 &&& 63)
/-- an instruction, and what it was resolved to: a number, a class, a field or target, a type, the place of its word in lwg -/
abbrev OP : Type := Instr × Int × Nat × Nat × Nat × Nat
abbrev oi (i : Instr) : OP := (i, 0, 0, 0, 0, 0)
abbrev BR : Type := Option (List AV × List AV × MM × ML × List (Int × Int))
def sstep (ins : Instr) (z : Int) (a b t : Nat) (ls st : List AV) (S : List SH) (μ : MM) (ν : ML) (cs : List (Int × Int)) : BR :=
  match ins with
  | .iconst n => some (ls, aI n :: st, μ, ν, cs)
  | .bipush n => some (ls, aI n :: st, μ, ν, cs)
  | .sipush n => some (ls, aI n :: st, μ, ν, cs)
  | .ldc _ => some (ls, aI z :: st, μ, ν, cs)
  | .ldc_w _ => some (ls, aI z :: st, μ, ν, cs)
  | .ldc2_w _ => some (ls, aL (Int64.ofInt z) :: st, μ, ν, cs)
  | .iload_n k => match gt ls k with
    | some (.inl x) => some (ls, aI x :: st, μ, ν, cs)
    | _ => none
  | .iload k => match gt ls k with
    | some (.inl x) => some (ls, aI x :: st, μ, ν, cs)
    | _ => none
  | .lload_n k => match gt ls k with
    | some (.inr (.inl x)) => some (ls, aL x :: st, μ, ν, cs)
    | _ => none
  | .lload k => match gt ls k with
    | some (.inr (.inl x)) => some (ls, aL x :: st, μ, ν, cs)
    | _ => none
  | .aload_n k => match gt ls k with
    | some (.inr (.inr (.inl x))) => some (ls, aR x :: st, μ, ν, cs)
    | some (.inr (.inr (.inr (.inl x)))) => some (ls, aS x :: st, μ, ν, cs)
    | _ => none
  | .aload k => match gt ls k with
    | some (.inr (.inr (.inl x))) => some (ls, aR x :: st, μ, ν, cs)
    | some (.inr (.inr (.inr (.inl x)))) => some (ls, aS x :: st, μ, ν, cs)
    | _ => none
  | .istore_n k => match st with
    | .inl x :: r => match lset ls k (aI x) with
      | some ls' => some (ls', r, μ, ν, cs)
      | none => none
    | _ => none
  | .istore k => match st with
    | .inl x :: r => match lset ls k (aI x) with
      | some ls' => some (ls', r, μ, ν, cs)
      | none => none
    | _ => none
  | .lstore_n k => match st with
    | .inr (.inl x) :: r => match lset2 ls k (aL x) with
      | some ls' => some (ls', r, μ, ν, cs)
      | none => none
    | _ => none
  | .lstore k => match st with
    | .inr (.inl x) :: r => match lset2 ls k (aL x) with
      | some ls' => some (ls', r, μ, ν, cs)
      | none => none
    | _ => none
  | .astore_n k => match st with
    | .inr (.inr (.inl x)) :: r => match lset ls k (aR x) with
      | some ls' => some (ls', r, μ, ν, cs)
      | none => none
    | _ => none
  | .iinc k n => match gt ls k with
    | some (.inl x) => match lset ls k (aI (x + n)) with
      | some ls' => some (ls', st, μ, ν, cs)
      | none => none
    | _ => none
  | .iadd => match st with
    | .inl y :: .inl x :: r => some (ls, aI (x + y) :: r, μ, ν, cs)
    | _ => none
  | .isub => match st with
    | .inl y :: .inl x :: r => some (ls, aI (x - y) :: r, μ, ν, cs)
    | _ => none
  | .imul => match st with
    | .inl y :: .inl x :: r => some (ls, aI (x * y) :: r, μ, ν, cs)
    | _ => none
  | .ineg => match st with
    | .inl x :: r => some (ls, aI (-x) :: r, μ, ν, cs)
    | _ => none
  | .iand => match st with
    | .inl y :: .inl x :: r => some (ls, aI (bAnd x y) :: r, μ, ν, cs)
    | _ => none
  | .ior => match st with
    | .inl y :: .inl x :: r => some (ls, aI (bOr x y) :: r, μ, ν, cs)
    | _ => none
  | .ixor => match st with
    | .inl y :: .inl x :: r => some (ls, aI (bXor x y) :: r, μ, ν, cs)
    | _ => none
  | .ishl => match st with
    | .inl y :: .inl x :: r => some (ls, aI (bShl x y) :: r, μ, ν, cs)
    | _ => none
  | .ishr => match st with
    | .inl y :: .inl x :: r => some (ls, aI (bShr x y) :: r, μ, ν, cs)
    | _ => none
  | .iushr => match st with
    | .inl y :: .inl x :: r => some (ls, aI (bUshr x y) :: r, μ, ν, cs)
    | _ => none
  | .idiv => match st with
    | .inl y :: .inl x :: r => some (ls, aI (bDiv x y) :: r, μ, ν, (y - 1, 2147483647) :: cs)
    | _ => none
  | .irem => match st with
    | .inl y :: .inl x :: r => some (ls, aI (bRem x y) :: r, μ, ν, (y - 1, 2147483647) :: cs)
    | _ => none
  | .ladd => match st with
    | .inr (.inl y) :: .inr (.inl x) :: r => some (ls, aL (x + y) :: r, μ, ν, cs)
    | _ => none
  | .lsub => match st with
    | .inr (.inl y) :: .inr (.inl x) :: r => some (ls, aL (x - y) :: r, μ, ν, cs)
    | _ => none
  | .land => match st with
    | .inr (.inl y) :: .inr (.inl x) :: r => some (ls, aL (x &&& y) :: r, μ, ν, cs)
    | _ => none
  | .lor => match st with
    | .inr (.inl y) :: .inr (.inl x) :: r => some (ls, aL (x ||| y) :: r, μ, ν, cs)
    | _ => none
  | .lxor => match st with
    | .inr (.inl y) :: .inr (.inl x) :: r => some (ls, aL (x ^^^ y) :: r, μ, ν, cs)
    | _ => none
  | .lushr => match st with
    | .inl y :: .inr (.inl x) :: r => some (ls, aL (lUshr x y) :: r, μ, ν, cs)
    | _ => none
  | .lshl => match st with
    | .inl y :: .inr (.inl x) :: r => some (ls, aL (lShl x y) :: r, μ, ν, cs)
    | _ => none
  | .l2i => match st with
    | .inr (.inl x) :: r => some (ls, aI x.toInt32.toInt :: r, μ, ν, cs)
    | _ => none
  | .dup => match st with
    | .inl x :: r => some (ls, aI x :: aI x :: r, μ, ν, cs)
    | .inr (.inr (.inl x)) :: r => some (ls, aR x :: aR x :: r, μ, ν, cs)
    | _ => none
  | .dup2 => match st with
    | .inl y :: .inr (.inr (.inl x)) :: r => some (ls, aI y :: aR x :: aI y :: aR x :: r, μ, ν, cs)
    | _ => none
  | .goto _ => some (ls, st, μ, ν, cs)
  | .getstatic _ => some (ls, aS a :: st, μ, ν, cs)
  | .getfield _ => match st with
    | .inr (.inr (.inl x)) :: r => match gt S x with
      | some (.inr (ci, fs)) => match Nat.beq ci a with
        | true => match gt fs b with
          | some none => some (ls, aI (μ x z) :: r, μ, ν, cs)
          | some (some v) => some (ls, v :: r, μ, ν, cs)
          | none => none
        | false => none
      | _ => none
    | _ => none
  | .putfield _ => match st with
    | .inl y :: .inr (.inr (.inl x)) :: r => match gt S x with
      | some (.inr (ci, fs)) => match Nat.beq ci a with
        | true => match gt fs b with
          | some none => match t with
            | 0 => some (ls, r, up μ x z y, ν, cs)
            | _ => some (ls, r, up μ x z y, ν, (y, 2) :: cs)
          | _ => none
        | false => none
      | _ => none
    | _ => none
  | .iaload => match st with
    | .inl i :: .inr (.inr (.inl x)) :: r => match gt S x with
      | some (.inl (0, n)) => some (ls, aI (μ x i) :: r, μ, ν, (i, (n : Int)) :: cs)
      | _ => none
    | .inl i :: .inr (.inr (.inr (.inl j))) :: r => match Nat.blt j 5 with
      | true => some (ls, aI (stv j i) :: r, μ, ν, (i, ((stA j).length : Int)) :: cs)
      | false => none
    | _ => none
  | .baload => match st with
    | .inl i :: .inr (.inr (.inl x)) :: r => match gt S x with
      | some (.inl (1, n)) => some (ls, aI (μ x i) :: r, μ, ν, (i, (n : Int)) :: cs)
      | _ => none
    | _ => none
  | .laload => match st with
    | .inl i :: .inr (.inr (.inl x)) :: r => match gt S x with
      | some (.inl (2, n)) => some (ls, aL (ν x i) :: r, μ, ν, (i, (n : Int)) :: cs)
      | _ => none
    | _ => none
  | .iastore => match st with
    | .inl y :: .inl i :: .inr (.inr (.inl x)) :: r => match gt S x with
      | some (.inl (0, n)) => some (ls, r, up μ x i y, ν, (i, (n : Int)) :: cs)
      | _ => none
    | _ => none
  | .bastore => match st with
    | .inl y :: .inl i :: .inr (.inr (.inl x)) :: r => match gt S x with
      | some (.inl (1, n)) => some (ls, r, up μ x i y, ν, (y, 2) :: (i, (n : Int)) :: cs)
      | _ => none
    | _ => none
  | .lastore => match st with
    | .inr (.inl y) :: .inl i :: .inr (.inr (.inl x)) :: r => match gt S x with
      | some (.inl (2, n)) => some (ls, r, μ, upL ν x i y, (i, (n : Int)) :: cs)
      | _ => none
    | _ => none
  | _ => none
def iln : Instr → Nat
  | .bipush _ => 2
  | .sipush _ => 3
  | .ldc _ => 2
  | .ldc_w _ => 3
  | .ldc2_w _ => 3
  | .iload _ => 2
  | .lload _ => 2
  | .aload _ => 2
  | .istore _ => 2
  | .lstore _ => 2
  | .iinc _ _ => 3
  | .goto _ => 3
  | .getstatic _ => 3
  | .getfield _ => 3
  | .putfield _ => 3
  | _ => 1
def npc (ins : Instr) (b pc : Nat) : Nat := match ins with
  | .goto _ => b
  | i => pc + iln i
def brun : List OP → Nat → List AV → List AV → List SH → MM → ML → List (Int × Int) → Option (Nat × List AV × List AV × MM × ML × List (Int × Int))
  | [], pc, ls, st, _, μ, ν, cs => some (pc, ls, st, μ, ν, cs)
  | (ins, z, a, b, t, _) :: r, pc, ls, st, S, μ, ν, cs => match sstep ins z a b t ls st S μ ν cs with
    | some (ls', st', μ', ν', cs') => brun r (npc ins b pc) ls' st' S μ' ν' cs'
    | none => none
def CS : List (Int × Int) → Prop
  | [] => True
  | (i, n) :: r => (0 ≤ i ∧ i < n) ∧ CS r
def okL (pos : Nat) (w : Cond) : Bool := decide (lw_tbl[pos]? = some w) && goodWord w
def okX (cx : MX) (pc : Nat) (ins : Instr) (z : Int) (a b t pos : Nat) : Bool := match ins with
  | .bipush n => decide ((Int8.ofInt n).toInt32 = Int32.ofInt n)
  | .sipush n => decide ((Int16.ofInt n).toInt32 = Int32.ofInt n)
  | .ldc i => okL pos (.constant cx.1.cls i (Int32.ofInt z))
  | .ldc_w i => okL pos (.constant cx.1.cls i (Int32.ofInt z))
  | .ldc2_w i => okL pos (.constantLong cx.1.cls i (Int64.ofInt z))
  | .goto off => decide ((pc : Int) + off = (b : Int))
  | .getstatic i => decide (a < 5) && okL pos (.fieldLink cx.1.cls i (stN a).1 (stN a).2 "[I")
  | .getfield i => decide (z = (b : Int)) && (match classes[a]? with
    | some (_, T, N) => decide (b < N) && okL pos (.fieldLink cx.1.cls i (T b).1 (T b).2.1 (T b).2.2.1)
    | none => false)
  | .putfield i => decide (z = (b : Int)) && (match classes[a]? with
    | some (_, T, N) => decide (b < N) && okL pos (.fieldLink cx.1.cls i (T b).1 (T b).2.1 (T b).2.2.1) && decide ((T b).2.2.2 = false) && decide (parseFieldDescriptor (T b).2.2.1 = some (if t = 0 then .int else .boolean))
    | none => false)
  | _ => true
def okB (cx : MX) : Nat → List OP → Bool
  | _, [] => true
  | pc, (ins, z, a, b, t, pos) :: r => decide (decode cx.2.1 pc = .ok (ins, iln ins)) && okX cx pc ins z a b t pos && okB cx (npc ins b pc) r
end
section
/-! ===== the abstract machine's instructions are the machine's: one row each ===== -/
def MW (κ : KX) (cx : MX) (p : Program) (l : Launch) (e : Env) (R : Room) (s : State) (m : MethodId) (args : Array Value) (below : List Frame) (meth : Method) (c : Code) (cells slots : Nat) (Q : State → Prop) (S : List SH) (pc : Nat) (ls st : List AV) (μ : MM) (ν : ML) : Prop :=
  ∀ (H : Heap) (locs : List Loc) (lsA : Array Slot), va_S (lwA κ) s.heap H locs → Wl κ S μ ν H → LH κ cx.2.2.1 lsA ls → W p l e R s m args below meth c H locs cells slots Q (F0 m pc lsA (st.map (cvA κ)))
theorem wsA_at {κ : KX} {S : List SH} {μ : MM} {ν : ML} (k : Nat) : (wsA κ S μ ν)[k]? = (S[k]?).map (fun sh => (κ.1 + k, rdC κ μ ν k sh)) := by
  simp [wsA, List.getElem?_mapIdx]
theorem wsA_in {κ : KX} {S : List SH} {μ : MM} {ν : ML} {k : Nat} {sh : SH} (h : S[k]? = some sh) : (wsA κ S μ ν)[k]? = some (κ.1 + k, rdC κ μ ν k sh) := by
  rw [wsA_at, h]; rfl
theorem wsA_D {κ : KX} {S : List SH} {μ : MM} {ν : ML} : va_D (lwA κ) (wsA κ S μ ν) := by
  refine ⟨fun i j p q hp hq he => ?_, fun k q hq => ?_⟩
  · rw [wsA_at] at hp hq
    cases h1 : S[i]? with
    | none => rw [h1] at hp; cases hp
    | some x =>
      cases h2 : S[j]? with
      | none => rw [h2] at hq; cases hq
      | some y =>
        rw [h1] at hp; rw [h2] at hq
        cases hp; cases hq
        dsimp only at he
        omega
  · rw [wsA_at] at hq
    cases h1 : S[k]? with
    | none => rw [h1] at hq; cases hq
    | some x =>
      rw [h1] at hq
      cases hq
      exact Nat.le_add_right _ _
theorem Wl.put {κ : KX} {S : List SH} {μ μ' : MM} {ν ν' : ML} {H H1 : Heap} {k : Nat} {sh : SH} (hW : Wl κ S μ ν H) (hk : S[k]? = some sh) (z : H1.size = H.size) (oq : ∀ q : Nat, q ≠ κ.1 + k → H1[q]? = H[q]?) (he : va_at κ.2.2.1 classes (κ.1 + k, rdC κ μ' ν' k sh) H1)
    (ho : ∀ (k' : Nat) (sh' : SH), k' ≠ k → rdC κ μ' ν' k' sh' = rdC κ μ ν k' sh') : Wl κ S μ' ν' H1 := by
  refine ⟨z.trans hW.1, fun k' q hq => ?_⟩
  rw [wsA_at] at hq
  cases h1 : S[k']? with
  | none => rw [h1] at hq; cases hq
  | some x =>
    rw [h1] at hq
    cases hq
    by_cases hkk : k' = k
    · subst hkk
      cases hk.symm.trans h1
      exact he
    · dsimp only
      rw [ho k' x hkk]
      exact (hW.2 k' _ (wsA_in h1)).kept (oq _ (fun h => hkk (by omega)))
theorem up_cell {μ : MM} {c : Nat} {i v : Int} {c' : Nat} (h : c' ≠ c) : up μ c i v c' = μ c' := by
  funext j
  simp [up, h]
theorem upL_cell {ν : ML} {c : Nat} {i : Int} {v : Int64} {c' : Nat} (h : c' ≠ c) : upL ν c i v c' = ν c' := by
  funext j
  simp [upL, h]
theorem rdC_up {κ : KX} {μ : MM} {ν : ML} {c : Nat} {i v : Int} (k' : Nat) (sh : SH) (h : k' ≠ c) : rdC κ (up μ c i v) ν k' sh = rdC κ μ ν k' sh := by
  rcases sh with ⟨t, n⟩ | ⟨ci, fs⟩
  · simp only [rdC, rdA, up_cell h]
  · have e : rdF κ (up μ c i v) k' = rdF κ μ k' := by
      funext j f
      cases f <;> simp only [rdF, up_cell h]
    simp only [rdC, e]
theorem rdC_upL {κ : KX} {μ : MM} {ν : ML} {c : Nat} {i : Int} {v : Int64} (k' : Nat) (sh : SH) (h : k' ≠ c) : rdC κ μ (upL ν c i v) k' sh = rdC κ μ ν k' sh := by
  rcases sh with ⟨t, n⟩ | ⟨ci, fs⟩
  · simp only [rdC, rdA, upL_cell h]
  · rfl
theorem ix_in {i : Int} {n : Nat} (h0 : 0 ≤ i) (h1 : i < (n : Int)) (hn : n < 2147483648) : vp_in (Int32.ofInt i) n ∧ (Int32.ofInt i).toNatClampNeg = i.toNat := by
  have e : (Int32.ofInt i).toNatClampNeg = i.toNat := Int32.toNatClampNeg_ofInt_of_le (by omega) (by omega)
  refine ⟨fun h => ?_, e⟩
  rcases h with h | h
  · rw [Int32.lt_iff_toInt_lt, Int32.toInt_ofInt_of_le (by omega) (by omega)] at h
    simp at h
    omega
  · rw [e] at h
    omega
theorem in_g {C : String} {T : u_T} {N : Nat} (h : ∀ w ∈ u_ws C T N, w ∈ lw_tbl) : ∀ w ∈ u_ws C T N, w ∈ lwg := by
  intro w hw
  refine List.mem_filter.mpr ⟨h w hw, ?_⟩
  obtain ⟨k, -, rfl⟩ := List.mem_map.mp hw
  unfold u_lay
  split <;> rfl
theorem ty_all : ∀ (ci : Nat) (C : String) (T : u_T) (N : Nat), classes[ci]? = some (C, T, N) → (∀ w ∈ u_ws C T N, w ∈ lwg) ∧ (∃ ty0 : Nat → FieldType, ∀ k, k < N → parseFieldDescriptor (T k).2.2.1 = some (ty0 k)) ∧ ∀ a, a < N → ∀ b, b < N → a ≠ b → (T a).2.1 ≠ (T b).2.1 := by
  intro ci C T N h
  match ci, h with
  | 0, h => cases h; exact ⟨in_g inX0, ⟨tyX0, tyX0_ok⟩, nmX0⟩
  | 1, h => cases h; exact ⟨in_g inX1, ⟨tyX1, tyX1_ok⟩, nmX1⟩
  | 2, h => cases h; exact ⟨in_g inX2, ⟨tyX2, tyX2_ok⟩, nmX2⟩
  | 3, h => cases h; exact ⟨in_g inX3, ⟨tyX3, tyX3_ok⟩, nmX3⟩
  | 4, h => cases h; exact ⟨in_g inX4, ⟨tyX4, tyX4_ok⟩, nmX4⟩
  | 5, h => cases h; exact ⟨in_g inX5, ⟨tyX5, tyX5_ok⟩, nmX5⟩
  | 6, h => cases h; exact ⟨in_g inX6, ⟨tyX6, tyX6_ok⟩, nmX6⟩
  | 7, h => cases h; exact ⟨in_g inX7, ⟨tyX7, tyX7_ok⟩, nmX7⟩
  | 8, h => cases h; exact ⟨in_g inX8, ⟨tyX8, tyX8_ok⟩, nmX8⟩
  | 9, h => cases h; exact ⟨in_g inX9, ⟨tyX9, tyX9_ok⟩, nmX9⟩
  | 10, h => cases h; exact ⟨in_g inX10, ⟨tyX10, tyX10_ok⟩, nmX10⟩
  | 11, h => cases h; exact ⟨in_g inX11, ⟨tyX11, tyX11_ok⟩, nmX11⟩
  | 12, h => cases h; exact ⟨in_g inX12, ⟨tyX12, tyX12_ok⟩, nmX12⟩
  | n + 13, h => simp [classes] at h
/-! locals -/
def prs (κ : KX) (ls : List AV) : List (Nat × Value) := (List.range ls.length).filterMap (fun i => match ls[i]? with
  | some v => if v = aU then none else some (i, cvA κ v)
  | none => none)
theorem prs_mem {κ : KX} {ls : List AV} {i : Nat} {v : AV} (h : ls[i]? = some v) (hv : v ≠ aU) : (i, cvA κ v) ∈ prs κ ls := by
  refine List.mem_filterMap.mpr ⟨i, List.mem_range.mpr (List.getElem?_eq_some_iff.mp h).1, ?_⟩
  simp [h, hv]
theorem prs_of {κ : KX} {ls : List AV} {q : Nat × Value} (h : q ∈ prs κ ls) : ∃ v : AV, ls[q.1]? = some v ∧ v ≠ aU ∧ q.2 = cvA κ v := by
  obtain ⟨i, -, hi⟩ := List.mem_filterMap.mp h
  cases hl : ls[i]? with
  | none => simp [hl] at hi
  | some v =>
    simp only [hl] at hi
    by_cases hv : v = aU
    · simp [hv] at hi
    · rw [if_neg hv] at hi
      cases hi
      exact ⟨v, hl, hv, rfl⟩
theorem LH.has {κ : KX} {n : Nat} {lsA : Array Slot} {ls : List AV} (h : LH κ n lsA ls) : lv_has lsA n (prs κ ls) := by
  refine ⟨h.1, h.2.1, fun q hq => ?_⟩
  obtain ⟨v, h1, h2, h3⟩ := prs_of hq
  rw [h3]
  exact h.2.2.2 _ _ h1 h2
theorem LH.at {κ : KX} {n : Nat} {lsA : Array Slot} {ls : List AV} (h : LH κ n lsA ls) {i : Nat} {v : AV} (hv : gt ls i = some v) (hu : v ≠ aU) : lsA[i]? = some (.val (cvA κ v)) := h.2.2.2 i v (by rw [← gt_eq]; exact hv) hu
theorem lg_cat {κ : KX} {v : AV} (h : (cvA κ v).category = 2) : isLg (some v) = true := by
  rcases v with z | x | k | j | b <;> first | rfl | (exfalso; revert h; simp [cvA, Value.category])
theorem lset_spec {ls ls' : List AV} {i : Nat} {v : AV} (h : lset ls i v = some ls') : i < ls.length ∧ ls' = ls.set i v ∧ (0 < i → isLg ls[i - 1]? = false) := by
  unfold lset at h
  split at h
  · rename_i hb
    cases h
    simp only [Bool.and_eq_true, Bool.not_eq_true', Nat.blt_eq] at hb
    refine ⟨hb.1, rfl, fun h0 => ?_⟩
    have := hb.2
    rw [gt_eq] at this
    simpa [Nat.blt_eq, h0] using this
  · cases h
theorem lset2_spec {ls ls' : List AV} {i : Nat} {v : AV} (h : lset2 ls i v = some ls') : i + 1 < ls.length ∧ ls' = (ls.set i v).set (i + 1) aU ∧ (0 < i → isLg ls[i - 1]? = false) := by
  unfold lset2 at h
  split at h
  · rename_i hb
    cases h
    simp only [Bool.and_eq_true, Bool.not_eq_true', Nat.blt_eq] at hb
    refine ⟨hb.1, rfl, fun h0 => ?_⟩
    have := hb.2
    rw [gt_eq] at this
    simpa [Nat.blt_eq, h0] using this
  · cases h
theorem LH.set1 {κ : KX} {n : Nat} {lsA lsB : Array Slot} {ls ls' : List AV} {i : Nat} {v : AV} (h : LH κ n lsA ls) (hs : lset ls i v = some ls')
    (hB : lv_has lsB n ((i, cvA κ v) :: (prs κ ls).filter (fun q => !(q.1 == i) && !(q.1 + 1 == i && q.2.category == 2)))) : LH κ n lsB ls' := by
  obtain ⟨hi, rfl, hL⟩ := lset_spec hs
  refine ⟨hB.1, hB.2.1, by rw [List.length_set]; exact h.2.2.1, fun j u hj hu => ?_⟩
  by_cases hji : j = i
  · subst hji
    rw [List.getElem?_set_self hi] at hj
    cases hj
    exact hB.2.2 (j, cvA κ v) List.mem_cons_self
  · rw [List.getElem?_set_ne (Ne.symm hji)] at hj
    refine hB.2.2 (j, cvA κ u) (List.mem_cons_of_mem _ (List.mem_filter.mpr ⟨prs_mem hj hu, ?_⟩))
    simp only [Bool.and_eq_true, Bool.not_eq_true', beq_eq_false_iff_ne, ne_eq, hji, not_false_eq_true, true_and]
    rw [Bool.and_eq_false_iff]
    by_cases h1 : j + 1 = i
    · right
      have h2 := hL (by omega)
      rw [show i - 1 = j by omega, hj] at h2
      by_cases h3 : (cvA κ u).category = 2
      · rw [lg_cat h3] at h2
        cases h2
      · simpa using h3
    · left
      simpa using h1
theorem LH.set2 {κ : KX} {n : Nat} {lsA lsB : Array Slot} {ls ls' : List AV} {i : Nat} {v : AV} (h : LH κ n lsA ls) (hs : lset2 ls i v = some ls')
    (hB : lv_has lsB n ((i, cvA κ v) :: (prs κ ls).filter (fun q => !(q.1 == i) && (!(q.1 == i + 1) && !(q.1 + 1 == i && q.2.category == 2))))) : LH κ n lsB ls' := by
  obtain ⟨hi, rfl, hL⟩ := lset2_spec hs
  refine ⟨hB.1, hB.2.1, by rw [List.length_set, List.length_set]; exact h.2.2.1, fun j u hj hu => ?_⟩
  by_cases hj1 : j = i + 1
  · subst hj1
    rw [List.getElem?_set_self (by rw [List.length_set]; exact hi)] at hj
    cases hj
    exact absurd rfl hu
  · rw [List.getElem?_set_ne (Ne.symm hj1)] at hj
    by_cases hji : j = i
    · subst hji
      rw [List.getElem?_set_self (by omega)] at hj
      cases hj
      exact hB.2.2 (j, cvA κ v) List.mem_cons_self
    · rw [List.getElem?_set_ne (Ne.symm hji)] at hj
      refine hB.2.2 (j, cvA κ u) (List.mem_cons_of_mem _ (List.mem_filter.mpr ⟨prs_mem hj hu, ?_⟩))
      simp only [Bool.and_eq_true, Bool.not_eq_true', beq_eq_false_iff_ne, ne_eq, hji, hj1, not_false_eq_true, true_and]
      rw [Bool.and_eq_false_iff]
      by_cases h1 : j + 1 = i
      · right
        have h2 := hL (by omega)
        rw [show i - 1 = j by omega, hj] at h2
        by_cases h3 : (cvA κ u).category = 2
        · rw [lg_cat h3] at h2
          cases h2
        · simpa using h3
      · left
        simpa using h1
theorem nz_of {y : Int} (hy : 0 ≤ y - 1 ∧ y - 1 < 2147483647) : ¬ Int32.ofInt y = 0 := by
  intro h
  have h1 := congrArg Int32.toInt h
  rw [Int32.toInt_ofInt_of_le (by omega) (by omega)] at h1
  simp at h1
  omega
/-! instructions -/
section SND
variable {κ : KX} {cx : MX} {p : Program} {l : Launch} {e : Env} {R : Room} {s : State} {m : MethodId} {args : Array Value} {below : List Frame} {meth : Method} {c : Code} {cells slots : Nat} {Q : State → Prop} {S : List SH} {pc : Nat} {ls r : List AV} {μ : MM} {ν : ML}
theorem ss_iconst {n : Int} (F : Fx κ cx p s m args meth c) (hd : decode cx.2.1 pc = .ok (.iconst n, 1)) (k : MW κ cx p l e R s m args below meth c cells slots Q S (pc + 1) ls (aI n :: r) μ ν) : MW κ cx p l e R s m args below meth c cells slots Q S pc ls r μ ν := by
  intro H locs lsA hS hW hl
  exact lv_iconst F.1 F.2.1 hd rfl (k H locs lsA hS hW hl)
theorem ss_bipush {n : Int} (hn : (Int8.ofInt n).toInt32 = Int32.ofInt n) (F : Fx κ cx p s m args meth c) (hd : decode cx.2.1 pc = .ok (.bipush n, 2)) (k : MW κ cx p l e R s m args below meth c cells slots Q S (pc + 2) ls (aI n :: r) μ ν) : MW κ cx p l e R s m args below meth c cells slots Q S pc ls r μ ν := by
  intro H locs lsA hS hW hl
  exact lv_bipush F.1 F.2.1 hd hn (k H locs lsA hS hW hl)
theorem ss_sipush {n : Int} (hn : (Int16.ofInt n).toInt32 = Int32.ofInt n) (F : Fx κ cx p s m args meth c) (hd : decode cx.2.1 pc = .ok (.sipush n, 3)) (k : MW κ cx p l e R s m args below meth c cells slots Q S (pc + 3) ls (aI n :: r) μ ν) : MW κ cx p l e R s m args below meth c cells slots Q S pc ls r μ ν := by
  intro H locs lsA hS hW hl
  exact lv_sipush F.1 F.2.1 hd hn (k H locs lsA hS hW hl)
theorem ss_ldc {n : Int} {i : Nat} (hn : Cond.constant cx.1.cls i (Int32.ofInt n) ∈ lwg) (F : Fx κ cx p s m args meth c) (hd : decode cx.2.1 pc = .ok (.ldc i, 2)) (k : MW κ cx p l e R s m args below meth c cells slots Q S (pc + 2) ls (aI n :: r) μ ν) : MW κ cx p l e R s m args below meth c cells slots Q S pc ls r μ ν := by
  intro H locs lsA hS hW hl
  exact lv_ldc F.1 F.2.1 F.2.2.2.2.1 (F.2.2.2.2.2.1 _ hn) hd (k H locs lsA hS hW hl)
theorem ss_ldcw {n : Int} {i : Nat} (hn : Cond.constant cx.1.cls i (Int32.ofInt n) ∈ lwg) (F : Fx κ cx p s m args meth c) (hd : decode cx.2.1 pc = .ok (.ldc_w i, 3)) (k : MW κ cx p l e R s m args below meth c cells slots Q S (pc + 3) ls (aI n :: r) μ ν) : MW κ cx p l e R s m args below meth c cells slots Q S pc ls r μ ν := by
  intro H locs lsA hS hW hl
  exact lv_ldcw F.1 F.2.1 F.2.2.2.2.1 (F.2.2.2.2.2.1 _ hn) hd (k H locs lsA hS hW hl)
theorem ss_ldc2 {n : Int64} {i : Nat} (hn : Cond.constantLong cx.1.cls i n ∈ lwg) (F : Fx κ cx p s m args meth c) (hd : decode cx.2.1 pc = .ok (.ldc2_w i, 3)) (k : MW κ cx p l e R s m args below meth c cells slots Q S (pc + 3) ls (aL n :: r) μ ν) : MW κ cx p l e R s m args below meth c cells slots Q S pc ls r μ ν := by
  intro H locs lsA hS hW hl
  exact lv_ldc2 F.1 F.2.1 F.2.2.2.2.1 (F.2.2.2.2.2.1 _ hn) hd (k H locs lsA hS hW hl)
theorem ss_iload_n {i : Fin 4} {x : Int} (hg : gt ls i = some (aI x)) (F : Fx κ cx p s m args meth c) (hd : decode cx.2.1 pc = .ok (.iload_n i, 1)) (k : MW κ cx p l e R s m args below meth c cells slots Q S (pc + 1) ls (aI x :: r) μ ν) : MW κ cx p l e R s m args below meth c cells slots Q S pc ls r μ ν := by
  intro H locs lsA hS hW hl
  exact lv_iload_n F.1 F.2.1 hd rfl (hl.at hg (by simp)) (k H locs lsA hS hW hl)
theorem ss_iload {i : Nat} {x : Int} (hg : gt ls i = some (aI x)) (F : Fx κ cx p s m args meth c) (hd : decode cx.2.1 pc = .ok (.iload i, 2)) (k : MW κ cx p l e R s m args below meth c cells slots Q S (pc + 2) ls (aI x :: r) μ ν) : MW κ cx p l e R s m args below meth c cells slots Q S pc ls r μ ν := by
  intro H locs lsA hS hW hl
  exact lv_iload F.1 F.2.1 hd (hl.at hg (by simp)) (k H locs lsA hS hW hl)
theorem ss_lload_n {i : Fin 4} {x : Int64} (hg : gt ls i = some (aL x)) (F : Fx κ cx p s m args meth c) (hd : decode cx.2.1 pc = .ok (.lload_n i, 1)) (k : MW κ cx p l e R s m args below meth c cells slots Q S (pc + 1) ls (aL x :: r) μ ν) : MW κ cx p l e R s m args below meth c cells slots Q S pc ls r μ ν := by
  intro H locs lsA hS hW hl
  exact lv_lload_n F.1 F.2.1 hd rfl (hl.at hg (by simp)) (k H locs lsA hS hW hl)
theorem ss_lload {i : Nat} {x : Int64} (hg : gt ls i = some (aL x)) (F : Fx κ cx p s m args meth c) (hd : decode cx.2.1 pc = .ok (.lload i, 2)) (k : MW κ cx p l e R s m args below meth c cells slots Q S (pc + 2) ls (aL x :: r) μ ν) : MW κ cx p l e R s m args below meth c cells slots Q S pc ls r μ ν := by
  intro H locs lsA hS hW hl
  exact lv_lload F.1 F.2.1 hd (hl.at hg (by simp)) (k H locs lsA hS hW hl)
theorem ss_aload_n {i : Fin 4} {x : Nat} (hg : gt ls i = some (aR x)) (F : Fx κ cx p s m args meth c) (hd : decode cx.2.1 pc = .ok (.aload_n i, 1)) (k : MW κ cx p l e R s m args below meth c cells slots Q S (pc + 1) ls (aR x :: r) μ ν) : MW κ cx p l e R s m args below meth c cells slots Q S pc ls r μ ν := by
  intro H locs lsA hS hW hl
  exact lv_aload_n F.1 F.2.1 hd rfl (hl.at hg (by simp)) (k H locs lsA hS hW hl)
theorem ss_aload {i : Nat} {x : Nat} (hg : gt ls i = some (aR x)) (F : Fx κ cx p s m args meth c) (hd : decode cx.2.1 pc = .ok (.aload i, 2)) (k : MW κ cx p l e R s m args below meth c cells slots Q S (pc + 2) ls (aR x :: r) μ ν) : MW κ cx p l e R s m args below meth c cells slots Q S pc ls r μ ν := by
  intro H locs lsA hS hW hl
  exact lv_aload F.1 F.2.1 hd (hl.at hg (by simp)) (k H locs lsA hS hW hl)
theorem ss_aloadS_n {i : Fin 4} {x : Nat} (hg : gt ls i = some (aS x)) (F : Fx κ cx p s m args meth c) (hd : decode cx.2.1 pc = .ok (.aload_n i, 1)) (k : MW κ cx p l e R s m args below meth c cells slots Q S (pc + 1) ls (aS x :: r) μ ν) : MW κ cx p l e R s m args below meth c cells slots Q S pc ls r μ ν := by
  intro H locs lsA hS hW hl
  exact lv_aload_n F.1 F.2.1 hd rfl (hl.at hg (by simp)) (k H locs lsA hS hW hl)
theorem ss_aloadS {i : Nat} {x : Nat} (hg : gt ls i = some (aS x)) (F : Fx κ cx p s m args meth c) (hd : decode cx.2.1 pc = .ok (.aload i, 2)) (k : MW κ cx p l e R s m args below meth c cells slots Q S (pc + 2) ls (aS x :: r) μ ν) : MW κ cx p l e R s m args below meth c cells slots Q S pc ls r μ ν := by
  intro H locs lsA hS hW hl
  exact lv_aload F.1 F.2.1 hd (hl.at hg (by simp)) (k H locs lsA hS hW hl)
theorem ss_istore_n {i : Fin 4} {x : Int} {ls' : List AV} (hg : lset ls i (aI x) = some ls') (F : Fx κ cx p s m args meth c) (hd : decode cx.2.1 pc = .ok (.istore_n i, 1)) (k : MW κ cx p l e R s m args below meth c cells slots Q S (pc + 1) ls' r μ ν) : MW κ cx p l e R s m args below meth c cells slots Q S pc ls (aI x :: r) μ ν := by
  intro H locs lsA hS hW hl
  exact lv_istore_n F.1 F.2.1 hd rfl hl.has (by rw [← hl.2.2.1]; exact (lset_spec hg).1) rfl (fun lsB hB => k H locs lsB hS hW (hl.set1 hg hB))
theorem ss_istore {i : Nat} {x : Int} {ls' : List AV} (hg : lset ls i (aI x) = some ls') (F : Fx κ cx p s m args meth c) (hd : decode cx.2.1 pc = .ok (.istore i, 2)) (k : MW κ cx p l e R s m args below meth c cells slots Q S (pc + 2) ls' r μ ν) : MW κ cx p l e R s m args below meth c cells slots Q S pc ls (aI x :: r) μ ν := by
  intro H locs lsA hS hW hl
  exact lv_istore F.1 F.2.1 hd hl.has (by rw [← hl.2.2.1]; exact (lset_spec hg).1) rfl (fun lsB hB => k H locs lsB hS hW (hl.set1 hg hB))
theorem ss_astore_n {i : Fin 4} {x : Nat} {ls' : List AV} (hg : lset ls i (aR x) = some ls') (F : Fx κ cx p s m args meth c) (hd : decode cx.2.1 pc = .ok (.astore_n i, 1)) (k : MW κ cx p l e R s m args below meth c cells slots Q S (pc + 1) ls' r μ ν) : MW κ cx p l e R s m args below meth c cells slots Q S pc ls (aR x :: r) μ ν := by
  intro H locs lsA hS hW hl
  exact lv_astore_n F.1 F.2.1 hd rfl hl.has (by rw [← hl.2.2.1]; exact (lset_spec hg).1) rfl (fun lsB hB => k H locs lsB hS hW (hl.set1 hg hB))
theorem ss_astore {i : Nat} {x : Nat} {ls' : List AV} (hg : lset ls i (aR x) = some ls') (F : Fx κ cx p s m args meth c) (hd : decode cx.2.1 pc = .ok (.astore i, 2)) (k : MW κ cx p l e R s m args below meth c cells slots Q S (pc + 2) ls' r μ ν) : MW κ cx p l e R s m args below meth c cells slots Q S pc ls (aR x :: r) μ ν := by
  intro H locs lsA hS hW hl
  exact lv_astore F.1 F.2.1 hd hl.has (by rw [← hl.2.2.1]; exact (lset_spec hg).1) rfl (fun lsB hB => k H locs lsB hS hW (hl.set1 hg hB))
theorem ss_lstore_n {i : Fin 4} {x : Int64} {ls' : List AV} (hg : lset2 ls i (aL x) = some ls') (F : Fx κ cx p s m args meth c) (hd : decode cx.2.1 pc = .ok (.lstore_n i, 1)) (k : MW κ cx p l e R s m args below meth c cells slots Q S (pc + 1) ls' r μ ν) : MW κ cx p l e R s m args below meth c cells slots Q S pc ls (aL x :: r) μ ν := by
  intro H locs lsA hS hW hl
  exact lv_lstore_n F.1 F.2.1 hd rfl hl.has (by rw [← hl.2.2.1]; exact (lset2_spec hg).1) rfl (fun lsB hB => k H locs lsB hS hW (hl.set2 hg hB))
theorem ss_lstore {i : Nat} {x : Int64} {ls' : List AV} (hg : lset2 ls i (aL x) = some ls') (F : Fx κ cx p s m args meth c) (hd : decode cx.2.1 pc = .ok (.lstore i, 2)) (k : MW κ cx p l e R s m args below meth c cells slots Q S (pc + 2) ls' r μ ν) : MW κ cx p l e R s m args below meth c cells slots Q S pc ls (aL x :: r) μ ν := by
  intro H locs lsA hS hW hl
  exact lv_lstore F.1 F.2.1 hd hl.has (by rw [← hl.2.2.1]; exact (lset2_spec hg).1) rfl (fun lsB hB => k H locs lsB hS hW (hl.set2 hg hB))
theorem ss_iinc {i : Nat} {n x : Int} {ls' : List AV} (hx : gt ls i = some (aI x)) (hg : lset ls i (aI (x + n)) = some ls') (F : Fx κ cx p s m args meth c) (hd : decode cx.2.1 pc = .ok (.iinc i n, 3)) (k : MW κ cx p l e R s m args below meth c cells slots Q S (pc + 3) ls' r μ ν) : MW κ cx p l e R s m args below meth c cells slots Q S pc ls r μ ν := by
  intro H locs lsA hS hW hl
  obtain ⟨j, hj⟩ := List.getElem?_of_mem (prs_mem (κ := κ) (by rw [← gt_eq]; exact hx) (show aI x ≠ aU by simp))
  exact lv_iinc (k := j) (v := Int32.ofInt (x + n)) F.1 F.2.1 hd hl.has hj (Int32.ofInt_add x n).symm (by rw [← hl.2.2.1]; exact (lset_spec hg).1) rfl (fun lsB hB => k H locs lsB hS hW (hl.set1 hg hB))
theorem ss_iadd {x y : Int} (F : Fx κ cx p s m args meth c) (hd : decode cx.2.1 pc = .ok (.iadd, 1)) (k : MW κ cx p l e R s m args below meth c cells slots Q S (pc + 1) ls (aI (x + y) :: r) μ ν) : MW κ cx p l e R s m args below meth c cells slots Q S pc ls (aI y :: aI x :: r) μ ν := by
  intro H locs lsA hS hW hl
  refine lv_iadd F.1 F.2.1 hd ?_
  rw [← Int32.ofInt_add]
  exact k H locs lsA hS hW hl
theorem ss_isub {x y : Int} (F : Fx κ cx p s m args meth c) (hd : decode cx.2.1 pc = .ok (.isub, 1)) (k : MW κ cx p l e R s m args below meth c cells slots Q S (pc + 1) ls (aI (x - y) :: r) μ ν) : MW κ cx p l e R s m args below meth c cells slots Q S pc ls (aI y :: aI x :: r) μ ν := by
  intro H locs lsA hS hW hl
  refine lv_isub F.1 F.2.1 hd ?_
  rw [← Int32.ofInt_sub]
  exact k H locs lsA hS hW hl
theorem ss_imul {x y : Int} (F : Fx κ cx p s m args meth c) (hd : decode cx.2.1 pc = .ok (.imul, 1)) (k : MW κ cx p l e R s m args below meth c cells slots Q S (pc + 1) ls (aI (x * y) :: r) μ ν) : MW κ cx p l e R s m args below meth c cells slots Q S pc ls (aI y :: aI x :: r) μ ν := by
  intro H locs lsA hS hW hl
  refine lv_imul F.1 F.2.1 hd ?_
  rw [← Int32.ofInt_mul]
  exact k H locs lsA hS hW hl
theorem ss_ineg {x : Int} (F : Fx κ cx p s m args meth c) (hd : decode cx.2.1 pc = .ok (.ineg, 1)) (k : MW κ cx p l e R s m args below meth c cells slots Q S (pc + 1) ls (aI (-x) :: r) μ ν) : MW κ cx p l e R s m args below meth c cells slots Q S pc ls (aI x :: r) μ ν := by
  intro H locs lsA hS hW hl
  refine lv_ineg F.1 F.2.1 hd ?_
  rw [← Int32.ofInt_neg]
  exact k H locs lsA hS hW hl
theorem ss_iand {x y : Int} (F : Fx κ cx p s m args meth c) (hd : decode cx.2.1 pc = .ok (.iand, 1)) (k : MW κ cx p l e R s m args below meth c cells slots Q S (pc + 1) ls (aI (bAnd x y) :: r) μ ν) : MW κ cx p l e R s m args below meth c cells slots Q S pc ls (aI y :: aI x :: r) μ ν := by
  intro H locs lsA hS hW hl
  refine lv_iand F.1 F.2.1 hd ?_
  have k1 := k H locs lsA hS hW hl
  simp only [List.map, cvA, bAnd, Int32.ofInt_toInt] at k1
  exact k1
theorem ss_ior {x y : Int} (F : Fx κ cx p s m args meth c) (hd : decode cx.2.1 pc = .ok (.ior, 1)) (k : MW κ cx p l e R s m args below meth c cells slots Q S (pc + 1) ls (aI (bOr x y) :: r) μ ν) : MW κ cx p l e R s m args below meth c cells slots Q S pc ls (aI y :: aI x :: r) μ ν := by
  intro H locs lsA hS hW hl
  refine lv_ior F.1 F.2.1 hd ?_
  have k1 := k H locs lsA hS hW hl
  simp only [List.map, cvA, bOr, Int32.ofInt_toInt] at k1
  exact k1
theorem ss_ixor {x y : Int} (F : Fx κ cx p s m args meth c) (hd : decode cx.2.1 pc = .ok (.ixor, 1)) (k : MW κ cx p l e R s m args below meth c cells slots Q S (pc + 1) ls (aI (bXor x y) :: r) μ ν) : MW κ cx p l e R s m args below meth c cells slots Q S pc ls (aI y :: aI x :: r) μ ν := by
  intro H locs lsA hS hW hl
  refine lv_ixor F.1 F.2.1 hd ?_
  have k1 := k H locs lsA hS hW hl
  simp only [List.map, cvA, bXor, Int32.ofInt_toInt] at k1
  exact k1
theorem ss_ishl {x y : Int} (F : Fx κ cx p s m args meth c) (hd : decode cx.2.1 pc = .ok (.ishl, 1)) (k : MW κ cx p l e R s m args below meth c cells slots Q S (pc + 1) ls (aI (bShl x y) :: r) μ ν) : MW κ cx p l e R s m args below meth c cells slots Q S pc ls (aI y :: aI x :: r) μ ν := by
  intro H locs lsA hS hW hl
  refine lv_ishl F.1 F.2.1 hd ?_
  have k1 := k H locs lsA hS hW hl
  simp only [List.map, cvA, bShl, Int32.ofInt_toInt] at k1
  exact k1
theorem ss_ishr {x y : Int} (F : Fx κ cx p s m args meth c) (hd : decode cx.2.1 pc = .ok (.ishr, 1)) (k : MW κ cx p l e R s m args below meth c cells slots Q S (pc + 1) ls (aI (bShr x y) :: r) μ ν) : MW κ cx p l e R s m args below meth c cells slots Q S pc ls (aI y :: aI x :: r) μ ν := by
  intro H locs lsA hS hW hl
  refine lv_ishr F.1 F.2.1 hd ?_
  have k1 := k H locs lsA hS hW hl
  simp only [List.map, cvA, bShr, Int32.ofInt_toInt] at k1
  exact k1
theorem ss_iushr {x y : Int} (F : Fx κ cx p s m args meth c) (hd : decode cx.2.1 pc = .ok (.iushr, 1)) (k : MW κ cx p l e R s m args below meth c cells slots Q S (pc + 1) ls (aI (bUshr x y) :: r) μ ν) : MW κ cx p l e R s m args below meth c cells slots Q S pc ls (aI y :: aI x :: r) μ ν := by
  intro H locs lsA hS hW hl
  refine lv_iushr F.1 F.2.1 hd rfl ?_
  have k1 := k H locs lsA hS hW hl
  simp only [List.map, cvA, bUshr, Int32.ofInt_toInt] at k1
  exact k1
theorem ss_idiv {x y : Int} (hy : 0 ≤ y - 1 ∧ y - 1 < 2147483647) (F : Fx κ cx p s m args meth c) (hd : decode cx.2.1 pc = .ok (.idiv, 1)) (k : MW κ cx p l e R s m args below meth c cells slots Q S (pc + 1) ls (aI (bDiv x y) :: r) μ ν) : MW κ cx p l e R s m args below meth c cells slots Q S pc ls (aI y :: aI x :: r) μ ν := by
  intro H locs lsA hS hW hl
  refine lv_idiv F.1 F.2.1 hd (nz_of hy) ?_
  have k1 := k H locs lsA hS hW hl
  simp only [List.map, cvA, bDiv, Int32.ofInt_toInt] at k1
  exact k1
theorem ss_irem {x y : Int} (hy : 0 ≤ y - 1 ∧ y - 1 < 2147483647) (F : Fx κ cx p s m args meth c) (hd : decode cx.2.1 pc = .ok (.irem, 1)) (k : MW κ cx p l e R s m args below meth c cells slots Q S (pc + 1) ls (aI (bRem x y) :: r) μ ν) : MW κ cx p l e R s m args below meth c cells slots Q S pc ls (aI y :: aI x :: r) μ ν := by
  intro H locs lsA hS hW hl
  refine lv_irem F.1 F.2.1 hd (nz_of hy) ?_
  have k1 := k H locs lsA hS hW hl
  simp only [List.map, cvA, bRem, Int32.ofInt_toInt] at k1
  exact k1
theorem ss_ladd {x y : Int64} (F : Fx κ cx p s m args meth c) (hd : decode cx.2.1 pc = .ok (.ladd, 1)) (k : MW κ cx p l e R s m args below meth c cells slots Q S (pc + 1) ls (aL (x + y) :: r) μ ν) : MW κ cx p l e R s m args below meth c cells slots Q S pc ls (aL y :: aL x :: r) μ ν := by
  intro H locs lsA hS hW hl
  exact lv_ladd F.1 F.2.1 hd (k H locs lsA hS hW hl)
theorem ss_lsub {x y : Int64} (F : Fx κ cx p s m args meth c) (hd : decode cx.2.1 pc = .ok (.lsub, 1)) (k : MW κ cx p l e R s m args below meth c cells slots Q S (pc + 1) ls (aL (x - y) :: r) μ ν) : MW κ cx p l e R s m args below meth c cells slots Q S pc ls (aL y :: aL x :: r) μ ν := by
  intro H locs lsA hS hW hl
  exact lv_lsub F.1 F.2.1 hd (k H locs lsA hS hW hl)
theorem ss_land {x y : Int64} (F : Fx κ cx p s m args meth c) (hd : decode cx.2.1 pc = .ok (.land, 1)) (k : MW κ cx p l e R s m args below meth c cells slots Q S (pc + 1) ls (aL (x &&& y) :: r) μ ν) : MW κ cx p l e R s m args below meth c cells slots Q S pc ls (aL y :: aL x :: r) μ ν := by
  intro H locs lsA hS hW hl
  exact lv_land F.1 F.2.1 hd (k H locs lsA hS hW hl)
theorem ss_lor {x y : Int64} (F : Fx κ cx p s m args meth c) (hd : decode cx.2.1 pc = .ok (.lor, 1)) (k : MW κ cx p l e R s m args below meth c cells slots Q S (pc + 1) ls (aL (x ||| y) :: r) μ ν) : MW κ cx p l e R s m args below meth c cells slots Q S pc ls (aL y :: aL x :: r) μ ν := by
  intro H locs lsA hS hW hl
  exact lv_lor F.1 F.2.1 hd (k H locs lsA hS hW hl)
theorem ss_lxor {x y : Int64} (F : Fx κ cx p s m args meth c) (hd : decode cx.2.1 pc = .ok (.lxor, 1)) (k : MW κ cx p l e R s m args below meth c cells slots Q S (pc + 1) ls (aL (x ^^^ y) :: r) μ ν) : MW κ cx p l e R s m args below meth c cells slots Q S pc ls (aL y :: aL x :: r) μ ν := by
  intro H locs lsA hS hW hl
  exact lv_lxor F.1 F.2.1 hd (k H locs lsA hS hW hl)
theorem ss_lushr {x : Int64} {y : Int} (F : Fx κ cx p s m args meth c) (hd : decode cx.2.1 pc = .ok (.lushr, 1)) (k : MW κ cx p l e R s m args below meth c cells slots Q S (pc + 1) ls (aL (lUshr x y) :: r) μ ν) : MW κ cx p l e R s m args below meth c cells slots Q S pc ls (aI y :: aL x :: r) μ ν := by
  intro H locs lsA hS hW hl
  exact lv_lushr F.1 F.2.1 hd rfl (k H locs lsA hS hW hl)
theorem ss_lshl {x : Int64} {y : Int} (F : Fx κ cx p s m args meth c) (hd : decode cx.2.1 pc = .ok (.lshl, 1)) (k : MW κ cx p l e R s m args below meth c cells slots Q S (pc + 1) ls (aL (lShl x y) :: r) μ ν) : MW κ cx p l e R s m args below meth c cells slots Q S pc ls (aI y :: aL x :: r) μ ν := by
  intro H locs lsA hS hW hl
  exact lv_lshl F.1 F.2.1 hd rfl (k H locs lsA hS hW hl)
theorem ss_l2i {x : Int64} (F : Fx κ cx p s m args meth c) (hd : decode cx.2.1 pc = .ok (.l2i, 1)) (k : MW κ cx p l e R s m args below meth c cells slots Q S (pc + 1) ls (aI x.toInt32.toInt :: r) μ ν) : MW κ cx p l e R s m args below meth c cells slots Q S pc ls (aL x :: r) μ ν := by
  intro H locs lsA hS hW hl
  refine lv_l2i F.1 F.2.1 hd rfl ?_
  have k1 := k H locs lsA hS hW hl
  simp only [List.map, cvA, Int32.ofInt_toInt] at k1
  exact k1
theorem ss_dupI {x : Int} (F : Fx κ cx p s m args meth c) (hd : decode cx.2.1 pc = .ok (.dup, 1)) (k : MW κ cx p l e R s m args below meth c cells slots Q S (pc + 1) ls (aI x :: aI x :: r) μ ν) : MW κ cx p l e R s m args below meth c cells slots Q S pc ls (aI x :: r) μ ν := by
  intro H locs lsA hS hW hl
  exact lv_dup F.1 F.2.1 hd rfl (k H locs lsA hS hW hl)
theorem ss_dupR {x : Nat} (F : Fx κ cx p s m args meth c) (hd : decode cx.2.1 pc = .ok (.dup, 1)) (k : MW κ cx p l e R s m args below meth c cells slots Q S (pc + 1) ls (aR x :: aR x :: r) μ ν) : MW κ cx p l e R s m args below meth c cells slots Q S pc ls (aR x :: r) μ ν := by
  intro H locs lsA hS hW hl
  exact lv_dup F.1 F.2.1 hd rfl (k H locs lsA hS hW hl)
theorem ss_dup2 {x : Nat} {y : Int} (F : Fx κ cx p s m args meth c) (hd : decode cx.2.1 pc = .ok (.dup2, 1)) (k : MW κ cx p l e R s m args below meth c cells slots Q S (pc + 1) ls (aI y :: aR x :: aI y :: aR x :: r) μ ν) : MW κ cx p l e R s m args below meth c cells slots Q S pc ls (aI y :: aR x :: r) μ ν := by
  intro H locs lsA hS hW hl
  exact lv_dup2_11 F.1 F.2.1 hd rfl rfl (k H locs lsA hS hW hl)
theorem ss_goto {off : Int} {tgt : Nat} (ht : (pc : Int) + off = (tgt : Int)) (F : Fx κ cx p s m args meth c) (hd : decode cx.2.1 pc = .ok (.goto off, 3)) (k : MW κ cx p l e R s m args below meth c cells slots Q S tgt ls r μ ν) : MW κ cx p l e R s m args below meth c cells slots Q S pc ls r μ ν := by
  intro H locs lsA hS hW hl
  exact lv_goto F.1 F.2.1 hd ht (k H locs lsA hS hW hl)
theorem ss_getstatic {i a : Nat} (ha : a < 5) (hn : Cond.fieldLink cx.1.cls i (stN a).1 (stN a).2 "[I" ∈ lwg) (F : Fx κ cx p s m args meth c) (hd : decode cx.2.1 pc = .ok (.getstatic i, 3)) (k : MW κ cx p l e R s m args below meth c cells slots Q S (pc + 3) ls (aS a :: r) μ ν) : MW κ cx p l e R s m args below meth c cells slots Q S pc ls r μ ν := by
  intro H locs lsA hS hW hl
  obtain ⟨hx, hb, -, -, hown, hts, -, -, -, hst⟩ := F
  exact va_gets hx hb (hst.2.1 a ha).1 hS hown (hts _ hn) (fun _ h => h) hd (k H locs lsA hS hW hl)
theorem ss_getI {i a b x : Nat} {C : String} {T : u_T} {N : Nat} {fs : List (Option AV)} (hc : classes[a]? = some (C, T, N)) (hbN : b < N) (hn : Cond.fieldLink cx.1.cls i (T b).1 (T b).2.1 (T b).2.2.1 ∈ lwg) (hx : S[x]? = some (.inr (a, fs))) (hf : fs[b]? = some none) (F : Fx κ cx p s m args meth c) (hd : decode cx.2.1 pc = .ok (.getfield i, 3)) (k : MW κ cx p l e R s m args below meth c cells slots Q S (pc + 3) ls (aI (μ x (b : Int)) :: r) μ ν) : MW κ cx p l e R s m args below meth c cells slots Q S pc ls (aR x :: r) μ ν := by
  intro H locs lsA hS hW hl
  obtain ⟨hx0, hb, -, -, hown, hts, -, -, hK, -⟩ := F
  exact va_get hx0 hb hts (ty_all a C T N hc).1 hown hK hW.2 x (wsA_in hx) hc b hbN (hts _ hn) (fun _ h => h) (by rw [List.getElem?_mapIdx, hf]; rfl) hd (k H locs lsA hS hW hl)
theorem ss_getR {i a b x : Nat} {C : String} {T : u_T} {N : Nat} {fs : List (Option AV)} (hc : classes[a]? = some (C, T, N)) (hbN : b < N) (hn : Cond.fieldLink cx.1.cls i (T b).1 (T b).2.1 (T b).2.2.1 ∈ lwg) (hx : S[x]? = some (.inr (a, fs))) {v : AV} (hf : fs[b]? = some (some v)) (F : Fx κ cx p s m args meth c) (hd : decode cx.2.1 pc = .ok (.getfield i, 3)) (k : MW κ cx p l e R s m args below meth c cells slots Q S (pc + 3) ls (v :: r) μ ν) : MW κ cx p l e R s m args below meth c cells slots Q S pc ls (aR x :: r) μ ν := by
  intro H locs lsA hS hW hl
  obtain ⟨hx0, hb, -, -, hown, hts, -, -, hK, -⟩ := F
  exact va_get hx0 hb hts (ty_all a C T N hc).1 hown hK hW.2 x (wsA_in hx) hc b hbN (hts _ hn) (fun _ h => h) (by rw [List.getElem?_mapIdx, hf]; rfl) hd (k H locs lsA hS hW hl)
end SND
end
section
/-! ===== memory: arrays, fields, blocks ===== -/
theorem upd_up {μ : MM} {x : Nat} {i v : Int} (hi : 0 ≤ i) : upd (fun j : Nat => Int32.ofInt (μ x (j : Int))) i.toNat (Int32.ofInt v) = fun j : Nat => Int32.ofInt (up μ x i v x (j : Int)) := by
  funext j
  by_cases hj : j = i.toNat
  · subst hj
    have e : ((i.toNat : Nat) : Int) = i := Int.toNat_of_nonneg hi
    simp [upd, up, e]
  · have e : ¬ (j : Int) = i := fun h => hj (by omega)
    simp [upd, up, hj, e]
theorem updL_up {ν : ML} {x : Nat} {i : Int} {v : Int64} (hi : 0 ≤ i) : vp_updL (fun j : Nat => ν x (j : Int)) i.toNat v = fun j : Nat => upL ν x i v x (j : Int) := by
  funext j
  by_cases hj : j = i.toNat
  · subst hj
    have e : ((i.toNat : Nat) : Int) = i := Int.toNat_of_nonneg hi
    simp [vp_updL, upL, e]
  · have e : ¬ (j : Int) = i := fun h => hj (by omega)
    simp [vp_updL, upL, hj, e]
theorem upF_set {κ : KX} {μ : MM} {x b : Nat} {v : Int} {fs : List (Option AV)} (hf : fs[b]? = some none) : (fs.mapIdx (rdF κ μ x)).set b (.int (Int32.ofInt v)) = fs.mapIdx (rdF κ (up μ x (b : Int) v) x) := by
  apply List.ext_getElem?
  intro j
  by_cases hj : j = b
  · subst hj
    have hlt : j < (fs.mapIdx (rdF κ μ x)).length := by rw [List.length_mapIdx]; exact (List.getElem?_eq_some_iff.mp hf).1
    rw [List.getElem?_set_self hlt, List.getElem?_mapIdx, hf]
    simp [rdF, up]
  · rw [List.getElem?_set_ne (Ne.symm hj), List.getElem?_mapIdx, List.getElem?_mapIdx]
    cases fs[j]? with
    | none => rfl
    | some f =>
      have e : ¬ (j : Int) = (b : Int) := fun h => hj (by omega)
      cases f <;> simp [rdF, up, e]
section MEM
variable {κ : KX} {cx : MX} {p : Program} {l : Launch} {e : Env} {R : Room} {s : State} {m : MethodId} {args : Array Value} {below : List Frame} {meth : Method} {c : Code} {cells slots : Nat} {Q : State → Prop} {S : List SH} {pc : Nat} {ls r : List AV} {μ : MM} {ν : ML}
theorem ss_iald (F : Fx κ cx p s m args meth c) (hd : decode cx.2.1 pc = .ok (.iaload, 1)) {x n : Nat} {i : Int} (hx : S[x]? = some (.inl (0, n))) (h0 : 0 ≤ i) (h1 : i < (n : Int)) (hn : n < 2147483648) (k : MW κ cx p l e R s m args below meth c cells slots Q S (pc + 1) ls (aI (μ x i) :: r) μ ν) : MW κ cx p l e R s m args below meth c cells slots Q S pc ls (aI i :: aR x :: r) μ ν := by
  intro H locs lsA hS hW hl
  obtain ⟨hx0, hb, -, -, hown, hts, -, -, hK, -⟩ := F
  obtain ⟨hin, he⟩ := ix_in h0 h1 hn
  refine va_iald hx0 hb hK hW.2 x 0 (n := n) (f := fun j => Int32.ofInt (μ x (j : Int))) (wsA_in hx) rfl hin hd ?_
  rw [he, Int.toNat_of_nonneg h0]
  exact k H locs lsA hS hW hl
theorem ss_zald (F : Fx κ cx p s m args meth c) (hd : decode cx.2.1 pc = .ok (.baload, 1)) {x n : Nat} {i : Int} (hx : S[x]? = some (.inl (1, n))) (h0 : 0 ≤ i) (h1 : i < (n : Int)) (hn : n < 2147483648) (k : MW κ cx p l e R s m args below meth c cells slots Q S (pc + 1) ls (aI (μ x i) :: r) μ ν) : MW κ cx p l e R s m args below meth c cells slots Q S pc ls (aI i :: aR x :: r) μ ν := by
  intro H locs lsA hS hW hl
  obtain ⟨hx0, hb, -, -, hown, hts, -, -, hK, -⟩ := F
  obtain ⟨hin, he⟩ := ix_in h0 h1 hn
  refine va_zald hx0 hb hK hW.2 x 1 (n := n) (f := fun j => Int32.ofInt (μ x (j : Int))) (wsA_in hx) rfl hin hd ?_
  rw [he, Int.toNat_of_nonneg h0]
  exact k H locs lsA hS hW hl
theorem ss_lald (F : Fx κ cx p s m args meth c) (hd : decode cx.2.1 pc = .ok (.laload, 1)) {x n : Nat} {i : Int} (hx : S[x]? = some (.inl (2, n))) (h0 : 0 ≤ i) (h1 : i < (n : Int)) (hn : n < 2147483648) (k : MW κ cx p l e R s m args below meth c cells slots Q S (pc + 1) ls (aL (ν x i) :: r) μ ν) : MW κ cx p l e R s m args below meth c cells slots Q S pc ls (aI i :: aR x :: r) μ ν := by
  intro H locs lsA hS hW hl
  obtain ⟨hx0, hb, -, -, hown, hts, -, -, hK, -⟩ := F
  obtain ⟨hin, he⟩ := ix_in h0 h1 hn
  refine va_lald hx0 hb hK hW.2 x 2 (n := n) (f := fun j => ν x (j : Int)) (wsA_in hx) rfl hin hd ?_
  rw [he, Int.toNat_of_nonneg h0]
  exact k H locs lsA hS hW hl
theorem ss_sald (F : Fx κ cx p s m args meth c) (hd : decode cx.2.1 pc = .ok (.iaload, 1)) {j : Nat} {i : Int} (hj : j < 5) (h0 : 0 ≤ i) (h1 : i < ((stA j).length : Int)) (k : MW κ cx p l e R s m args below meth c cells slots Q S (pc + 1) ls (aI (stv j i) :: r) μ ν) : MW κ cx p l e R s m args below meth c cells slots Q S pc ls (aI i :: aS j :: r) μ ν := by
  intro H locs lsA hS hW hl
  obtain ⟨hx0, hb, -, -, hown, hts, -, -, hK, hst⟩ := F
  obtain ⟨cell, t1, t2, t3, t4, t5, t6, t7⟩ := (hst.2.1 j hj).2
  have hlen : (stA j).length < 2147483648 := by
    rcases (show j = 0 ∨ j = 1 ∨ j = 2 ∨ j = 3 ∨ j = 4 by omega) with rfl | rfl | rfl | rfl | rfl <;> decide
  obtain ⟨hin, he⟩ := ix_in h0 h1 hlen
  have hlt : i.toNat < (stA j).length := by omega
  refine W.iald (v := .int (Int32.ofInt (stv j i))) hx0 hb (cell := cell) (by rw [hS.2.1 _ (Array.getElem?_eq_some_iff.mp t1).1 t7]; exact t1) t2 t3 (fun h => hin (h.imp id (fun q => Nat.le_trans t4 q))) ?_ rfl rfl hd (k H locs lsA hS hW hl)
  rw [he, t6 _ hlt]
  rfl
theorem ss_iast (F : Fx κ cx p s m args meth c) (hd : decode cx.2.1 pc = .ok (.iastore, 1)) {x n : Nat} {i v : Int} (hx : S[x]? = some (.inl (0, n))) (h0 : 0 ≤ i) (h1 : i < (n : Int)) (hn : n < 2147483648) (k : MW κ cx p l e R s m args below meth c cells slots Q S (pc + 1) ls r (up μ x i v) ν) : MW κ cx p l e R s m args below meth c cells slots Q S pc ls (aI v :: aI i :: aR x :: r) μ ν := by
  intro H locs lsA hS hW hl
  obtain ⟨hx0, hb, -, -, hown, hts, -, -, hK, -⟩ := F
  obtain ⟨hin, he⟩ := ix_in h0 h1 hn
  refine W.iast hx0 hb (hW.2 x _ (wsA_in hx)) ((hK.2 0 _ rfl).1 n (fun j => .int (Int32.ofInt (μ x (j : Int))))) (fun q => by cases q) (by show ¬ (_ ∨ (arrV _ _ _).slots.size ≤ _); rw [arrV_size]; exact hin) rfl rfl hd fun H1 e1 z oq => ?_
  refine k H1 _ lsA (hS.put z oq (Nat.le_add_right _ _)) (hW.put hx z oq ?_ (fun k' sh' h => rdC_up k' sh' h)) hl
  show H1[κ.1 + x]? = some (vp_cell _ (n, rdA ν (up μ x i v) x 0))
  rw [e1, he]
  show some ((vp_cell _ (n, Sum.inl _)).setSlot _ _) = some (vp_cell _ (n, Sum.inl _))
  rw [vp_cell_i, vp_cell_i, arrV_store]
  have hq := upd_up (μ := μ) (x := x) (v := v) h0
  congr 2
  funext q
  have hq1 := congrFun hq q
  rw [← hq1]
  by_cases hqq : q = i.toNat
  · subst hqq; simp [updV, upd]
  · simp [updV, upd, hqq]
theorem nar_z {v : Int} (h0 : 0 ≤ v) (h1 : v < 2) : narrow .boolean (.int (Int32.ofInt v)) = .int (Int32.ofInt v) ∧ vp_nar .boolean (Int32.ofInt v) = Int32.ofInt v := by
  rcases (show v = 0 ∨ v = 1 by omega) with rfl | rfl <;> exact ⟨by decide, by decide⟩
theorem ss_zast (F : Fx κ cx p s m args meth c) (hd : decode cx.2.1 pc = .ok (.bastore, 1)) {x n : Nat} {i v : Int} (hx : S[x]? = some (.inl (1, n))) (h0 : 0 ≤ i) (h1 : i < (n : Int)) (hn : n < 2147483648) (hv0 : 0 ≤ v) (hv1 : v < 2) (k : MW κ cx p l e R s m args below meth c cells slots Q S (pc + 1) ls r (up μ x i v) ν) : MW κ cx p l e R s m args below meth c cells slots Q S pc ls (aI v :: aI i :: aR x :: r) μ ν := by
  intro H locs lsA hS hW hl
  obtain ⟨hx0, hb, -, -, hown, hts, -, -, hK, -⟩ := F
  obtain ⟨hin, he⟩ := ix_in h0 h1 hn
  have hnz := (nar_z hv0 hv1).1
  refine W.zast hx0 hb (hW.2 x _ (wsA_in hx)) ((hK.2 1 _ rfl).1 n (fun j => .int (Int32.ofInt (μ x (j : Int))))) (fun q => by cases q) (by show ¬ (_ ∨ (arrV _ _ _).slots.size ≤ _); rw [arrV_size]; exact hin) rfl rfl hd fun H1 e1 z oq => ?_
  refine k H1 _ lsA (hS.put z oq (Nat.le_add_right _ _)) (hW.put hx z oq ?_ (fun k' sh' h => rdC_up k' sh' h)) hl
  show H1[κ.1 + x]? = some (vp_cell _ (n, rdA ν (up μ x i v) x 1))
  rw [e1, he]
  show some ((vp_cell _ (n, Sum.inl _)).setSlot _ _) = some (vp_cell _ (n, Sum.inl _))
  rw [vp_cell_i, vp_cell_i, arrV_store]
  have hq := upd_up (μ := μ) (x := x) (v := v) h0
  congr 2
  funext q
  have hq1 := congrFun hq q
  rw [← hq1]
  by_cases hqq : q = i.toNat
  · subst hqq; simp [updV, upd, hnz]
  · simp [updV, upd, hqq]
theorem ss_last (F : Fx κ cx p s m args meth c) (hd : decode cx.2.1 pc = .ok (.lastore, 1)) {x n : Nat} {i : Int} {v : Int64} (hx : S[x]? = some (.inl (2, n))) (h0 : 0 ≤ i) (h1 : i < (n : Int)) (hn : n < 2147483648) (k : MW κ cx p l e R s m args below meth c cells slots Q S (pc + 1) ls r μ (upL ν x i v)) : MW κ cx p l e R s m args below meth c cells slots Q S pc ls (aL v :: aI i :: aR x :: r) μ ν := by
  intro H locs lsA hS hW hl
  obtain ⟨hx0, hb, -, -, hown, hts, -, -, hK, -⟩ := F
  obtain ⟨hin, he⟩ := ix_in h0 h1 hn
  refine W.last hx0 hb (hW.2 x _ (wsA_in hx)) ((hK.2 2 _ rfl).1 n (fun j => .long (ν x (j : Int)))) (fun q => by cases q) (by show ¬ (_ ∨ (arrV _ _ _).slots.size ≤ _); rw [arrV_size]; exact hin) rfl rfl hd fun H1 e1 z oq => ?_
  refine k H1 _ lsA (hS.put z oq (Nat.le_add_right _ _)) (hW.put hx z oq ?_ (fun k' sh' h => rdC_upL k' sh' h)) hl
  show H1[κ.1 + x]? = some (vp_cell _ (n, rdA (upL ν x i v) μ x 2))
  rw [e1, he]
  show some ((vp_cell _ (n, Sum.inr (Sum.inl _))).setSlot _ _) = some (vp_cell _ (n, Sum.inr (Sum.inl _)))
  rw [vp_cell_l, vp_cell_l, arrV_store]
  have hq := updL_up (ν := ν) (x := x) (v := v) h0
  congr 2
  funext q
  have hq1 := congrFun hq q
  rw [← hq1]
  by_cases hqq : q = i.toNat
  · subst hqq; simp [updV, vp_updL]
  · simp [updV, vp_updL, hqq]
theorem ss_putI (F : Fx κ cx p s m args meth c) {i a b x : Nat} {C : String} {T : u_T} {N : Nat} {fs : List (Option AV)} {v : Int} {ty : FieldType} (hd : decode cx.2.1 pc = .ok (.putfield i, 3)) (hc : classes[a]? = some (C, T, N)) (hbN : b < N) (hn : Cond.fieldLink cx.1.cls i (T b).1 (T b).2.1 (T b).2.2.1 ∈ lwg) (hfin : (T b).2.2.2 = false) (hty : parseFieldDescriptor (T b).2.2.1 = some ty)
    (hnar : narrow ty (.int (Int32.ofInt v)) = .int (Int32.ofInt v)) (hfit : fits ty (.int (Int32.ofInt v)) = true) (hx : S[x]? = some (.inr (a, fs))) (hf : fs[b]? = some none) (k : MW κ cx p l e R s m args below meth c cells slots Q S (pc + 3) ls r (up μ x (b : Int) v) ν) : MW κ cx p l e R s m args below meth c cells slots Q S pc ls (aI v :: aR x :: r) μ ν := by
  intro H locs lsA hS hW hl
  obtain ⟨hx0, hb, -, -, hown, hts, -, -, hK, -⟩ := F
  obtain ⟨hin, ⟨ty0, hty0⟩, hnm⟩ := ty_all a C T N hc
  have hap := va_apart (own := cx.1.cls) hts hin ty0 hty0 hnm hK hc
  obtain ⟨r1, h1, cell, q1, q2, q3, q4⟩ := hW.2 x _ (wsA_in hx)
  have hr : r1 = (C, T, N) := Option.some.inj (h1.symm.trans hc)
  subst hr
  obtain ⟨hSl, hfc, kC, hkC, hkind⟩ := hK.1 a _ hc
  obtain ⟨cf, kf, fi, f, hi, hsl⟩ := hSl b hbN
  have hlay := hts _ (hin _ (u_in_lay hbN))
  unfold u_lay at hlay
  rw [if_neg (by rw [hfin]; decide)] at hlay
  have hst := (u_facts hfc hkC (u_lays hts hin hbN) hi).1
  have h6 := u_store hfc hkC hkind hlay hi hty hnar hfit
  refine W.putK hx0 hb (f := f) ⟨hown, hts _ hn, ⟨_, _, _, hi⟩, hst⟩ (by rw [q2]; exact h6) q1 q3 (by rw [hsl]; exact k2_hasslot (q4 b hbN)) rfl rfl hd fun H' e1 e2 e3 => ?_
  rw [hsl] at e1 ⊢
  have hlen : b < (fs.mapIdx (rdF κ μ x)).length := by rw [List.length_mapIdx]; exact (List.getElem?_eq_some_iff.mp hf).1
  refine k H' _ lsA (hS.put e2 e3 (Nat.le_add_right _ _)) (hW.put hx e2 e3 ?_ (fun k' sh' h => rdC_up k' sh' h)) hl
  refine ⟨_, hc, t_OB.to (V := updV (vp_V (fs.mapIdx (rdF κ μ x))) b (.int (Int32.ofInt v))) ⟨_, e1, q2, q3, t_set q4 hap hbN (.int (Int32.ofInt v))⟩ (fun j _ => ?_)⟩
  rw [vp_updV_set hlen, upF_set hf]
end MEM
end
section
/-! ===== a block of instructions ===== -/
theorem okL_mem {pos : Nat} {w : Cond} (h : okL pos w = true) : w ∈ lwg := by
  simp only [okL, Bool.and_eq_true, decide_eq_true_eq] at h
  exact List.mem_filter.mpr ⟨List.mem_of_getElem? h.1, h.2⟩
def SmallS (S : List SH) : Prop := ∀ (x t n : Nat), S[x]? = some (.inl (t, n)) → n < 2147483648
theorem fit_z {v : Int} (h0 : 0 ≤ v) (h1 : v < 2) : fits .boolean (.int (Int32.ofInt v)) = true := by
  rcases (show v = 0 ∨ v = 1 by omega) with rfl | rfl <;> decide
section BLK
variable {κ : KX} {cx : MX} {p : Program} {l : Launch} {e : Env} {R : Room} {s : State} {m : MethodId} {args : Array Value} {below : List Frame} {meth : Method} {c : Code} {cells slots : Nat} {Q : State → Prop} {S : List SH}
set_option maxHeartbeats 4000000 in
theorem sstep_ok (F : Fx κ cx p s m args meth c) (hS : SmallS S) {ins : Instr} {z : Int} {a b t pos pc : Nat} {ls st ls' st' : List AV} {μ μ' : MM} {ν ν' : ML} {cs cs' : List (Int × Int)} (hd : decode cx.2.1 pc = .ok (ins, iln ins)) (hx : okX cx pc ins z a b t pos = true)
    (hs : sstep ins z a b t ls st S μ ν cs = some (ls', st', μ', ν', cs')) (hc : CS cs') (k : MW κ cx p l e R s m args below meth c cells slots Q S (npc ins b pc) ls' st' μ' ν') : CS cs ∧ MW κ cx p l e R s m args below meth c cells slots Q S pc ls st μ ν := by
  cases ins
  case iconst n => simp only [sstep] at hs; cases hs; exact ⟨hc, ss_iconst F hd k⟩
  case bipush n => simp only [sstep] at hs; cases hs; exact ⟨hc, ss_bipush (of_decide_eq_true hx) F hd k⟩
  case sipush n => simp only [sstep] at hs; cases hs; exact ⟨hc, ss_sipush (of_decide_eq_true hx) F hd k⟩
  case ldc i => simp only [sstep] at hs; cases hs; exact ⟨hc, ss_ldc (okL_mem hx) F hd k⟩
  case ldc_w i => simp only [sstep] at hs; cases hs; exact ⟨hc, ss_ldcw (okL_mem hx) F hd k⟩
  case ldc2_w i => simp only [sstep] at hs; cases hs; exact ⟨hc, ss_ldc2 (okL_mem hx) F hd k⟩
  case iload_n i =>
    simp only [sstep] at hs
    split at hs
    · rename_i x hg; cases hs; exact ⟨hc, ss_iload_n hg F hd k⟩
    · cases hs
  case iload i =>
    simp only [sstep] at hs
    split at hs
    · rename_i x hg; cases hs; exact ⟨hc, ss_iload hg F hd k⟩
    · cases hs
  case lload_n i =>
    simp only [sstep] at hs
    split at hs
    · rename_i x hg; cases hs; exact ⟨hc, ss_lload_n hg F hd k⟩
    · cases hs
  case lload i =>
    simp only [sstep] at hs
    split at hs
    · rename_i x hg; cases hs; exact ⟨hc, ss_lload hg F hd k⟩
    · cases hs
  case aload_n i =>
    simp only [sstep] at hs
    split at hs
    · rename_i x hg; cases hs; exact ⟨hc, ss_aload_n hg F hd k⟩
    · rename_i x hg; cases hs; exact ⟨hc, ss_aloadS_n hg F hd k⟩
    · cases hs
  case aload i =>
    simp only [sstep] at hs
    split at hs
    · rename_i x hg; cases hs; exact ⟨hc, ss_aload hg F hd k⟩
    · rename_i x hg; cases hs; exact ⟨hc, ss_aloadS hg F hd k⟩
    · cases hs
  case istore_n i =>
    simp only [sstep] at hs
    split at hs
    · split at hs
      · rename_i hg; cases hs; exact ⟨hc, ss_istore_n hg F hd k⟩
      · cases hs
    · cases hs
  case istore i =>
    simp only [sstep] at hs
    split at hs
    · split at hs
      · rename_i hg; cases hs; exact ⟨hc, ss_istore hg F hd k⟩
      · cases hs
    · cases hs
  case astore_n i =>
    simp only [sstep] at hs
    split at hs
    · split at hs
      · rename_i hg; cases hs; exact ⟨hc, ss_astore_n hg F hd k⟩
      · cases hs
    · cases hs
  case lstore_n i =>
    simp only [sstep] at hs
    split at hs
    · split at hs
      · rename_i hg; cases hs; exact ⟨hc, ss_lstore_n hg F hd k⟩
      · cases hs
    · cases hs
  case lstore i =>
    simp only [sstep] at hs
    split at hs
    · split at hs
      · rename_i hg; cases hs; exact ⟨hc, ss_lstore hg F hd k⟩
      · cases hs
    · cases hs
  case iinc i n =>
    simp only [sstep] at hs
    split at hs
    · rename_i x hx1
      split at hs
      · rename_i hg; cases hs; exact ⟨hc, ss_iinc hx1 hg F hd k⟩
      · cases hs
    · cases hs
  case iadd =>
    simp only [sstep] at hs
    split at hs
    · cases hs; exact ⟨hc, ss_iadd F hd k⟩
    · cases hs
  case isub =>
    simp only [sstep] at hs
    split at hs
    · cases hs; exact ⟨hc, ss_isub F hd k⟩
    · cases hs
  case imul =>
    simp only [sstep] at hs
    split at hs
    · cases hs; exact ⟨hc, ss_imul F hd k⟩
    · cases hs
  case ineg =>
    simp only [sstep] at hs
    split at hs
    · cases hs; exact ⟨hc, ss_ineg F hd k⟩
    · cases hs
  case iand =>
    simp only [sstep] at hs
    split at hs
    · cases hs; exact ⟨hc, ss_iand F hd k⟩
    · cases hs
  case ior =>
    simp only [sstep] at hs
    split at hs
    · cases hs; exact ⟨hc, ss_ior F hd k⟩
    · cases hs
  case ixor =>
    simp only [sstep] at hs
    split at hs
    · cases hs; exact ⟨hc, ss_ixor F hd k⟩
    · cases hs
  case ishl =>
    simp only [sstep] at hs
    split at hs
    · cases hs; exact ⟨hc, ss_ishl F hd k⟩
    · cases hs
  case ishr =>
    simp only [sstep] at hs
    split at hs
    · cases hs; exact ⟨hc, ss_ishr F hd k⟩
    · cases hs
  case iushr =>
    simp only [sstep] at hs
    split at hs
    · cases hs; exact ⟨hc, ss_iushr F hd k⟩
    · cases hs
  case ladd =>
    simp only [sstep] at hs
    split at hs
    · cases hs; exact ⟨hc, ss_ladd F hd k⟩
    · cases hs
  case lsub =>
    simp only [sstep] at hs
    split at hs
    · cases hs; exact ⟨hc, ss_lsub F hd k⟩
    · cases hs
  case land =>
    simp only [sstep] at hs
    split at hs
    · cases hs; exact ⟨hc, ss_land F hd k⟩
    · cases hs
  case lor =>
    simp only [sstep] at hs
    split at hs
    · cases hs; exact ⟨hc, ss_lor F hd k⟩
    · cases hs
  case lxor =>
    simp only [sstep] at hs
    split at hs
    · cases hs; exact ⟨hc, ss_lxor F hd k⟩
    · cases hs
  case lushr =>
    simp only [sstep] at hs
    split at hs
    · cases hs; exact ⟨hc, ss_lushr F hd k⟩
    · cases hs
  case lshl =>
    simp only [sstep] at hs
    split at hs
    · cases hs; exact ⟨hc, ss_lshl F hd k⟩
    · cases hs
  case l2i =>
    simp only [sstep] at hs
    split at hs
    · cases hs; exact ⟨hc, ss_l2i F hd k⟩
    · cases hs
  case dup2 =>
    simp only [sstep] at hs
    split at hs
    · cases hs; exact ⟨hc, ss_dup2 F hd k⟩
    · cases hs
  case idiv =>
    simp only [sstep] at hs
    split at hs
    · cases hs; exact ⟨hc.2, ss_idiv hc.1 F hd k⟩
    · cases hs
  case irem =>
    simp only [sstep] at hs
    split at hs
    · cases hs; exact ⟨hc.2, ss_irem hc.1 F hd k⟩
    · cases hs
  case dup =>
    simp only [sstep] at hs
    split at hs
    · cases hs; exact ⟨hc, ss_dupI F hd k⟩
    · cases hs; exact ⟨hc, ss_dupR F hd k⟩
    · cases hs
  case goto off => simp only [sstep] at hs; cases hs; exact ⟨hc, ss_goto (of_decide_eq_true hx) F hd k⟩
  case getstatic i =>
    simp only [sstep] at hs
    cases hs
    simp only [okX, Bool.and_eq_true] at hx
    exact ⟨hc, ss_getstatic (of_decide_eq_true hx.1) (okL_mem hx.2) F hd k⟩
  case getfield i =>
    simp only [sstep] at hs
    simp only [okX, Bool.and_eq_true, decide_eq_true_eq] at hx
    obtain ⟨rfl, hx⟩ := hx
    cases hcl : classes[a]? with
    | none => rw [hcl] at hx; cases hx
    | some q =>
      obtain ⟨C, T, N⟩ := q
      rw [hcl] at hx
      simp only [Bool.and_eq_true, decide_eq_true_eq] at hx
      split at hs
      · split at hs
        · rename_i hsh
          split at hs
          · rename_i hbeq
            have hbe := Nat.eq_of_beq_eq_true hbeq
            subst hbe
            rw [gt_eq] at hsh
            split at hs
            · rename_i hf
              rw [gt_eq] at hf
              cases hs
              exact ⟨hc, ss_getI hcl hx.1 (okL_mem hx.2) hsh hf F hd k⟩
            · rename_i hf
              rw [gt_eq] at hf
              cases hs
              exact ⟨hc, ss_getR hcl hx.1 (okL_mem hx.2) hsh hf F hd k⟩
            · cases hs
          · cases hs
        · cases hs
      · cases hs
  case putfield i =>
    simp only [sstep] at hs
    simp only [okX, Bool.and_eq_true, decide_eq_true_eq] at hx
    obtain ⟨rfl, hx⟩ := hx
    cases hcl : classes[a]? with
    | none => rw [hcl] at hx; cases hx
    | some q =>
      obtain ⟨C, T, N⟩ := q
      rw [hcl] at hx
      simp only [Bool.and_eq_true, decide_eq_true_eq] at hx
      obtain ⟨⟨⟨hx1, hx2⟩, hx3⟩, hx4⟩ := hx
      split at hs
      · split at hs
        · rename_i hsh
          split at hs
          · rename_i hbeq
            have hbe := Nat.eq_of_beq_eq_true hbeq
            subst hbe
            rw [gt_eq] at hsh
            split at hs
            · rename_i hf
              rw [gt_eq] at hf
              split at hs
              · cases hs
                exact ⟨hc, ss_putI F hd hcl hx1 (okL_mem hx2) hx3 hx4 rfl rfl hsh hf k⟩
              · rename_i ht
                cases hs
                rw [if_neg ht] at hx4
                exact ⟨hc.2, ss_putI F hd hcl hx1 (okL_mem hx2) hx3 hx4 (nar_z hc.1.1 hc.1.2).1 (fit_z hc.1.1 hc.1.2) hsh hf k⟩
            · cases hs
          · cases hs
        · cases hs
      · cases hs
  case iaload =>
    simp only [sstep] at hs
    split at hs
    · split at hs
      · rename_i hsh
        rw [gt_eq] at hsh
        cases hs
        exact ⟨hc.2, ss_iald F hd hsh hc.1.1 hc.1.2 (hS _ _ _ hsh) k⟩
      · cases hs
    · split at hs
      · rename_i hj
        cases hs
        exact ⟨hc.2, ss_sald F hd (by simpa using hj) hc.1.1 hc.1.2 k⟩
      · cases hs
    · cases hs
  case baload =>
    simp only [sstep] at hs
    split at hs
    · split at hs
      · rename_i hsh
        rw [gt_eq] at hsh
        cases hs
        exact ⟨hc.2, ss_zald F hd hsh hc.1.1 hc.1.2 (hS _ _ _ hsh) k⟩
      · cases hs
    · cases hs
  case laload =>
    simp only [sstep] at hs
    split at hs
    · split at hs
      · rename_i hsh
        rw [gt_eq] at hsh
        cases hs
        exact ⟨hc.2, ss_lald F hd hsh hc.1.1 hc.1.2 (hS _ _ _ hsh) k⟩
      · cases hs
    · cases hs
  case iastore =>
    simp only [sstep] at hs
    split at hs
    · split at hs
      · rename_i hsh
        rw [gt_eq] at hsh
        cases hs
        exact ⟨hc.2, ss_iast F hd hsh hc.1.1 hc.1.2 (hS _ _ _ hsh) k⟩
      · cases hs
    · cases hs
  case bastore =>
    simp only [sstep] at hs
    split at hs
    · split at hs
      · rename_i hsh
        rw [gt_eq] at hsh
        cases hs
        exact ⟨hc.2.2, ss_zast F hd hsh hc.2.1.1 hc.2.1.2 (hS _ _ _ hsh) hc.1.1 hc.1.2 k⟩
      · cases hs
    · cases hs
  case lastore =>
    simp only [sstep] at hs
    split at hs
    · split at hs
      · rename_i hsh
        rw [gt_eq] at hsh
        cases hs
        exact ⟨hc.2, ss_last F hd hsh hc.1.1 hc.1.2 (hS _ _ _ hsh) k⟩
      · cases hs
    · cases hs
  all_goals (exfalso; simp only [sstep] at hs; cases hs)
theorem brun_ok (F : Fx κ cx p s m args meth c) (hS : SmallS S) : ∀ (ops : List OP) {pc pc' : Nat} {ls st ls' st' : List AV} {μ μ' : MM} {ν ν' : ML} {cs cs' : List (Int × Int)}, okB cx pc ops = true → brun ops pc ls st S μ ν cs = some (pc', ls', st', μ', ν', cs') → CS cs' → MW κ cx p l e R s m args below meth c cells slots Q S pc' ls' st' μ' ν' → CS cs ∧ MW κ cx p l e R s m args below meth c cells slots Q S pc ls st μ ν
  | [], pc, pc', ls, st, ls', st', μ, μ', ν, ν', cs, cs', _, hr, hc, k => by
    simp only [brun] at hr
    cases hr
    exact ⟨hc, k⟩
  | (ins, z, a, b, t, pos) :: r, pc, pc', ls, st, ls', st', μ, μ', ν, ν', cs, cs', ho, hr, hc, k => by
    simp only [brun] at hr
    simp only [okB, Bool.and_eq_true] at ho
    split at hr
    · rename_i ls1 st1 μ1 ν1 cs1 hs
      obtain ⟨hc1, k1⟩ := brun_ok F hS r ho.2 hr hc k
      exact sstep_ok F hS (of_decide_eq_true ho.1.1) ho.1.2 hs hc1 k1
    · cases hr
end BLK
end
section
/-! ===== the abstract goal AW, branches, returns, calls, contracts ===== -/
abbrev R32 (x : Int) : Prop := -2147483648 ≤ x ∧ x < 2147483648
theorem ti32 {x : Int} (h : R32 x) : (Int32.ofInt x).toInt = x := Int32.toInt_ofInt_of_le (by omega) (by omega)
theorem lt32 {x y : Int} (hx : R32 x) (hy : R32 y) : Int32.ofInt x < Int32.ofInt y ↔ x < y := by rw [Int32.lt_iff_toInt_lt, ti32 hx, ti32 hy]
theorem le32 {x y : Int} (hx : R32 x) (hy : R32 y) : Int32.ofInt x ≤ Int32.ofInt y ↔ x ≤ y := by rw [Int32.le_iff_toInt_le, ti32 hx, ti32 hy]
theorem eq32 {x y : Int} (hx : R32 x) (hy : R32 y) : Int32.ofInt x = Int32.ofInt y ↔ x = y := by rw [← Int32.toInt_inj, ti32 hx, ti32 hy]
theorem z32 : (0 : Int32) = Int32.ofInt 0 := rfl
theorem r0 : R32 0 := by decide
def AW (κ : KX) (cx : MX) (R : Room) (Qf : List Frame → Array Value → State → State → Prop) (cells slots : Nat) (S : List SH) (pc : Nat) (ls st : List AV) (μ : MM) (ν : ML) : Prop :=
  SmallS S → ∀ (p : Program) (l : Launch) (e : Env) (s : State) (m : MethodId) (args : Array Value) (below : List Frame) (meth : Method) (c : Code), Fx κ cx p s m args meth c → MW κ cx p l e R s m args below meth c cells slots (Qf below args s) S pc ls st μ ν
def QQ (κ : KX) (Post : Option AV → List SH → MM → ML → Prop) : Array Value → State → Outcome → State → Prop := fun _ st oc t => (∃ (r : Option AV) (S : List SH) (μ : MM) (ν : ML), oc = .returned (r.map (cvA κ)) ∧ Post r S μ ν ∧ Wl κ S μ ν t.heap ∧ SmallS S) ∧ va_F (lwA κ) st t
def mq (κ : KX) (Post : Option AV → List SH → MM → ML → Prop) (mc ms : Nat) : List Frame → Array Value → State → State → Prop := fun below args s => MQ below (QQ κ Post) args s mc ms (lwA κ)
def wsM (cy : MX) : List Cond := Cond.code cy.1 cy.2.1 cy.2.2.1 cy.2.2.2 :: lwg
def rmv (d mc ms : Nat) : Room := { frames := d, cells := mc, slots := ms, locals := 64 * d }
def AMet (κ : KX) (d : Nat) (cy : MX) (As : List AV) (S : List SH) (μ : MM) (ν : ML) (Post : Option AV → List SH → MM → ML → Prop) (mc ms : Nat) : Prop :=
  SmallS S → ∀ l : Launch, Met l cy.1 (wsM cy) (rmv d mc ms) (va_Pc (As.map (cvA κ)) (fun U => KK κ U ∧ Stt κ U ∧ Wl κ S μ ν U.heap)) (QQ κ Post) mc ms (lwA κ)
section AWS
variable {κ : KX} {cx : MX} {R : Room} {Qf : List Frame → Array Value → State → State → Prop} {cells slots : Nat} {S : List SH} {pc : Nat} {ls r : List AV} {μ : MM} {ν : ML}
theorem aw_blk {ops : List OP} {pc' : Nat} {st ls' st' : List AV} {μ' : MM} {ν' : ML} {cs : List (Int × Int)} (ho : okB cx pc ops = true) (hr : brun ops pc ls st S μ ν [] = some (pc', ls', st', μ', ν', cs)) (hc : CS cs) (k : AW κ cx R Qf cells slots S pc' ls' st' μ' ν') : AW κ cx R Qf cells slots S pc ls st μ ν :=
  fun hS p l e s m args below meth c F => (brun_ok F hS ops ho hr hc (k hS p l e s m args below meth c F)).2
theorem aw_icmp_eq {x y off : Int} {tgt : Nat} (hd : decode cx.2.1 pc = .ok (.if_icmp .eq off, 3)) (ht : (pc : Int) + off = (tgt : Int)) (hx : R32 x) (hy : R32 y) (kt : x = y → AW κ cx R Qf cells slots S tgt ls r μ ν) (kf : ¬ x = y → AW κ cx R Qf cells slots S (pc + 3) ls r μ ν) : AW κ cx R Qf cells slots S pc ls (aI y :: aI x :: r) μ ν := by
  intro hS p l e s m args below meth c F H locs lsA hs hW hl
  exact lv_icmp_eq F.1 F.2.1 hd ht (fun h => kt ((eq32 hx hy).mp h) hS p l e s m args below meth c F H locs lsA hs hW hl) (fun h => kf (fun q => h ((eq32 hx hy).mpr q)) hS p l e s m args below meth c F H locs lsA hs hW hl)
theorem aw_if_eq {x off : Int} {tgt : Nat} (hd : decode cx.2.1 pc = .ok (.ifCond .eq off, 3)) (ht : (pc : Int) + off = (tgt : Int)) (hx : R32 x) (kt : x = 0 → AW κ cx R Qf cells slots S tgt ls r μ ν) (kf : ¬ x = 0 → AW κ cx R Qf cells slots S (pc + 3) ls r μ ν) : AW κ cx R Qf cells slots S pc ls (aI x :: r) μ ν := by
  intro hS p l e s m args below meth c F H locs lsA hs hW hl
  exact lv_if_eq F.1 F.2.1 hd ht (fun h => kt ((eq32 hx r0).mp h) hS p l e s m args below meth c F H locs lsA hs hW hl) (fun h => kf (fun q => h ((eq32 hx r0).mpr q)) hS p l e s m args below meth c F H locs lsA hs hW hl)
theorem aw_icmp_ne {x y off : Int} {tgt : Nat} (hd : decode cx.2.1 pc = .ok (.if_icmp .ne off, 3)) (ht : (pc : Int) + off = (tgt : Int)) (hx : R32 x) (hy : R32 y) (kt : ¬ x = y → AW κ cx R Qf cells slots S tgt ls r μ ν) (kf : x = y → AW κ cx R Qf cells slots S (pc + 3) ls r μ ν) : AW κ cx R Qf cells slots S pc ls (aI y :: aI x :: r) μ ν := by
  intro hS p l e s m args below meth c F H locs lsA hs hW hl
  exact lv_icmp_ne F.1 F.2.1 hd ht (fun h => kt (fun q => h ((eq32 hx hy).mpr q)) hS p l e s m args below meth c F H locs lsA hs hW hl) (fun h => kf ((eq32 hx hy).mp h) hS p l e s m args below meth c F H locs lsA hs hW hl)
theorem aw_if_ne {x off : Int} {tgt : Nat} (hd : decode cx.2.1 pc = .ok (.ifCond .ne off, 3)) (ht : (pc : Int) + off = (tgt : Int)) (hx : R32 x) (kt : ¬ x = 0 → AW κ cx R Qf cells slots S tgt ls r μ ν) (kf : x = 0 → AW κ cx R Qf cells slots S (pc + 3) ls r μ ν) : AW κ cx R Qf cells slots S pc ls (aI x :: r) μ ν := by
  intro hS p l e s m args below meth c F H locs lsA hs hW hl
  exact lv_if_ne F.1 F.2.1 hd ht (fun h => kt (fun q => h ((eq32 hx r0).mpr q)) hS p l e s m args below meth c F H locs lsA hs hW hl) (fun h => kf ((eq32 hx r0).mp h) hS p l e s m args below meth c F H locs lsA hs hW hl)
theorem aw_icmp_lt {x y off : Int} {tgt : Nat} (hd : decode cx.2.1 pc = .ok (.if_icmp .lt off, 3)) (ht : (pc : Int) + off = (tgt : Int)) (hx : R32 x) (hy : R32 y) (kt : x < y → AW κ cx R Qf cells slots S tgt ls r μ ν) (kf : ¬ x < y → AW κ cx R Qf cells slots S (pc + 3) ls r μ ν) : AW κ cx R Qf cells slots S pc ls (aI y :: aI x :: r) μ ν := by
  intro hS p l e s m args below meth c F H locs lsA hs hW hl
  exact lv_icmp_lt F.1 F.2.1 hd ht (fun h => kt ((lt32 hx hy).mp h) hS p l e s m args below meth c F H locs lsA hs hW hl) (fun h => kf (fun q => h ((lt32 hx hy).mpr q)) hS p l e s m args below meth c F H locs lsA hs hW hl)
theorem aw_if_lt {x off : Int} {tgt : Nat} (hd : decode cx.2.1 pc = .ok (.ifCond .lt off, 3)) (ht : (pc : Int) + off = (tgt : Int)) (hx : R32 x) (kt : x < 0 → AW κ cx R Qf cells slots S tgt ls r μ ν) (kf : ¬ x < 0 → AW κ cx R Qf cells slots S (pc + 3) ls r μ ν) : AW κ cx R Qf cells slots S pc ls (aI x :: r) μ ν := by
  intro hS p l e s m args below meth c F H locs lsA hs hW hl
  exact lv_if_lt F.1 F.2.1 hd ht (fun h => kt ((lt32 hx r0).mp h) hS p l e s m args below meth c F H locs lsA hs hW hl) (fun h => kf (fun q => h ((lt32 hx r0).mpr q)) hS p l e s m args below meth c F H locs lsA hs hW hl)
theorem aw_icmp_ge {x y off : Int} {tgt : Nat} (hd : decode cx.2.1 pc = .ok (.if_icmp .ge off, 3)) (ht : (pc : Int) + off = (tgt : Int)) (hx : R32 x) (hy : R32 y) (kt : y ≤ x → AW κ cx R Qf cells slots S tgt ls r μ ν) (kf : ¬ y ≤ x → AW κ cx R Qf cells slots S (pc + 3) ls r μ ν) : AW κ cx R Qf cells slots S pc ls (aI y :: aI x :: r) μ ν := by
  intro hS p l e s m args below meth c F H locs lsA hs hW hl
  exact lv_icmp_ge F.1 F.2.1 hd ht (fun h => kt ((le32 hy hx).mp h) hS p l e s m args below meth c F H locs lsA hs hW hl) (fun h => kf (fun q => h ((le32 hy hx).mpr q)) hS p l e s m args below meth c F H locs lsA hs hW hl)
theorem aw_if_ge {x off : Int} {tgt : Nat} (hd : decode cx.2.1 pc = .ok (.ifCond .ge off, 3)) (ht : (pc : Int) + off = (tgt : Int)) (hx : R32 x) (kt : 0 ≤ x → AW κ cx R Qf cells slots S tgt ls r μ ν) (kf : ¬ 0 ≤ x → AW κ cx R Qf cells slots S (pc + 3) ls r μ ν) : AW κ cx R Qf cells slots S pc ls (aI x :: r) μ ν := by
  intro hS p l e s m args below meth c F H locs lsA hs hW hl
  exact lv_if_ge F.1 F.2.1 hd ht (fun h => kt ((le32 r0 hx).mp h) hS p l e s m args below meth c F H locs lsA hs hW hl) (fun h => kf (fun q => h ((le32 r0 hx).mpr q)) hS p l e s m args below meth c F H locs lsA hs hW hl)
theorem aw_icmp_gt {x y off : Int} {tgt : Nat} (hd : decode cx.2.1 pc = .ok (.if_icmp .gt off, 3)) (ht : (pc : Int) + off = (tgt : Int)) (hx : R32 x) (hy : R32 y) (kt : y < x → AW κ cx R Qf cells slots S tgt ls r μ ν) (kf : ¬ y < x → AW κ cx R Qf cells slots S (pc + 3) ls r μ ν) : AW κ cx R Qf cells slots S pc ls (aI y :: aI x :: r) μ ν := by
  intro hS p l e s m args below meth c F H locs lsA hs hW hl
  exact lv_icmp_gt F.1 F.2.1 hd ht (fun h => kt ((lt32 hy hx).mp h) hS p l e s m args below meth c F H locs lsA hs hW hl) (fun h => kf (fun q => h ((lt32 hy hx).mpr q)) hS p l e s m args below meth c F H locs lsA hs hW hl)
theorem aw_if_gt {x off : Int} {tgt : Nat} (hd : decode cx.2.1 pc = .ok (.ifCond .gt off, 3)) (ht : (pc : Int) + off = (tgt : Int)) (hx : R32 x) (kt : 0 < x → AW κ cx R Qf cells slots S tgt ls r μ ν) (kf : ¬ 0 < x → AW κ cx R Qf cells slots S (pc + 3) ls r μ ν) : AW κ cx R Qf cells slots S pc ls (aI x :: r) μ ν := by
  intro hS p l e s m args below meth c F H locs lsA hs hW hl
  exact lv_if_gt F.1 F.2.1 hd ht (fun h => kt ((lt32 r0 hx).mp h) hS p l e s m args below meth c F H locs lsA hs hW hl) (fun h => kf (fun q => h ((lt32 r0 hx).mpr q)) hS p l e s m args below meth c F H locs lsA hs hW hl)
theorem aw_icmp_le {x y off : Int} {tgt : Nat} (hd : decode cx.2.1 pc = .ok (.if_icmp .le off, 3)) (ht : (pc : Int) + off = (tgt : Int)) (hx : R32 x) (hy : R32 y) (kt : x ≤ y → AW κ cx R Qf cells slots S tgt ls r μ ν) (kf : ¬ x ≤ y → AW κ cx R Qf cells slots S (pc + 3) ls r μ ν) : AW κ cx R Qf cells slots S pc ls (aI y :: aI x :: r) μ ν := by
  intro hS p l e s m args below meth c F H locs lsA hs hW hl
  exact lv_icmp_le F.1 F.2.1 hd ht (fun h => kt ((le32 hx hy).mp h) hS p l e s m args below meth c F H locs lsA hs hW hl) (fun h => kf (fun q => h ((le32 hx hy).mpr q)) hS p l e s m args below meth c F H locs lsA hs hW hl)
theorem aw_if_le {x off : Int} {tgt : Nat} (hd : decode cx.2.1 pc = .ok (.ifCond .le off, 3)) (ht : (pc : Int) + off = (tgt : Int)) (hx : R32 x) (kt : x ≤ 0 → AW κ cx R Qf cells slots S tgt ls r μ ν) (kf : ¬ x ≤ 0 → AW κ cx R Qf cells slots S (pc + 3) ls r μ ν) : AW κ cx R Qf cells slots S pc ls (aI x :: r) μ ν := by
  intro hS p l e s m args below meth c F H locs lsA hs hW hl
  exact lv_if_le F.1 F.2.1 hd ht (fun h => kt ((le32 hx r0).mp h) hS p l e s m args below meth c F H locs lsA hs hW hl) (fun h => kf (fun q => h ((le32 hx r0).mpr q)) hS p l e s m args below meth c F H locs lsA hs hW hl)
theorem aw_tswIn {x dflt lo hi off : Int} {offs : Array Int} {len tgt : Nat} (hd : decode cx.2.1 pc = .ok (.tableswitch dflt lo hi offs, len)) (hx : R32 x) (h1 : lo ≤ x) (h2 : x ≤ hi) (ho : offs[(x - lo).toNat]? = some off) (ht : (pc : Int) + off = (tgt : Int)) (k : AW κ cx R Qf cells slots S tgt ls r μ ν) : AW κ cx R Qf cells slots S pc ls (aI x :: r) μ ν := by
  intro hS p l e s m args below meth c F H locs lsA hs hW hl
  exact lv_tableIn F.1 F.2.1 hd (by rw [ti32 hx]; omega) (by rw [ti32 hx]; omega) (by rw [ti32 hx]; exact ho) ht (k hS p l e s m args below meth c F H locs lsA hs hW hl)
theorem aw_tswOut {x dflt lo hi : Int} {offs : Array Int} {len tgt : Nat} (hd : decode cx.2.1 pc = .ok (.tableswitch dflt lo hi offs, len)) (hx : R32 x) (h : x < lo ∨ hi < x) (ht : (pc : Int) + dflt = (tgt : Int)) (k : AW κ cx R Qf cells slots S tgt ls r μ ν) : AW κ cx R Qf cells slots S pc ls (aI x :: r) μ ν := by
  intro hS p l e s m args below meth c F H locs lsA hs hW hl
  exact lv_tableOut F.1 F.2.1 hd (by rw [ti32 hx]; exact h) ht (k hS p l e s m args below meth c F H locs lsA hs hW hl)
theorem aw_iret {Post : Option AV → List SH → MM → ML → Prop} {mc ms : Nat} {z : Int} (hd : decode cx.2.1 pc = .ok (.ireturn, 1)) (hret : cx.2.2.2 = some .int) (hc : cells ≤ mc) (hs : slots ≤ ms) (hp : Post (some (aI z)) S μ ν) : AW κ cx R (mq κ Post mc ms) cells slots S pc ls [aI z] μ ν := by
  intro hS p l e s m args below meth c F H locs lsA hs1 hW hl
  refine W.widen hc hs ?_
  exact W.iret F.1 F.2.1 (F.2.2.1.trans hret) (fun t ht _ => ⟨⟨some (aI z), S, μ, ν, rfl, hp, by rw [ht]; exact hW, hS⟩, hs1.F ht⟩) hs1.2.2 hd F.2.2.2.2.2.2.1
theorem aw_zret {Post : Option AV → List SH → MM → ML → Prop} {mc ms : Nat} {z : Int} (hd : decode cx.2.1 pc = .ok (.ireturn, 1)) (hret : cx.2.2.2 = some .boolean) (hz : 0 ≤ z ∧ z < 2) (hc : cells ≤ mc) (hs : slots ≤ ms) (hp : Post (some (aI z)) S μ ν) : AW κ cx R (mq κ Post mc ms) cells slots S pc ls [aI z] μ ν := by
  intro hS p l e s m args below meth c F H locs lsA hs1 hW hl
  refine W.widen hc hs ?_
  exact W.zret F.1 F.2.1 (F.2.2.1.trans hret) (nar_z hz.1 hz.2).1 (fun t ht _ => ⟨⟨some (aI z), S, μ, ν, rfl, hp, by rw [ht]; exact hW, hS⟩, hs1.F ht⟩) hs1.2.2 hd F.2.2.2.2.2.2.1
theorem aw_vret {Post : Option AV → List SH → MM → ML → Prop} {mc ms : Nat} (hd : decode cx.2.1 pc = .ok (.return_, 1)) (hret : cx.2.2.2 = none) (hc : cells ≤ mc) (hs : slots ≤ ms) (hp : Post none S μ ν) : AW κ cx R (mq κ Post mc ms) cells slots S pc ls [] μ ν := by
  intro hS p l e s m args below meth c F H locs lsA hs1 hW hl
  refine W.widen hc hs ?_
  exact W.vret F.1 F.2.1 (F.2.2.1.trans hret) (fun t ht _ => ⟨⟨none, S, μ, ν, rfl, hp, by rw [ht]; exact hW, hS⟩, hs1.F ht⟩) hs1.2.2 hd F.2.2.2.2.2.2.1
end AWS
theorem gAll : GoodIn lwg lwg := by
  exact fun w hw => ⟨hw, good_of_word (List.mem_filter.mp hw).2⟩
theorem Stt.moved {κ : KX} {s U : State} {H : Heap} {locs : List Loc} (h : Stt κ s) (hvm : s.vm.Alike U.vm) (hS : va_S (lwA κ) s.heap H locs) (hU : U.heap = H) : Stt κ U := by
  subst hU
  refine ⟨Nat.le_trans h.1 hS.1, fun j hj => ⟨((h.2.1 j hj).1.moved hvm).kept (fun a h1 h2 => hS.2.1 a h1 h2), ((h.2.1 j hj).2.moved hvm).kept (fun a h1 h2 => hS.2.1 a h1 h2)⟩, (h.2.2.1.moved hvm).kept (hS.2.1 _ (Nat.lt_of_lt_of_le h.2.2.2 h.1) (Nat.not_le.mpr h.2.2.2)), h.2.2.2⟩
theorem Pc_blind {κ : KX} {As : List AV} {S : List SH} {μ : MM} {ν : ML} : FrameBlind (va_Pc (As.map (cvA κ)) (fun U => KK κ U ∧ Stt κ U ∧ Wl κ S μ ν U.heap)) := by
  intro a U g mk h
  obtain ⟨h1, h2, h3, h4⟩ := h
  exact ⟨h1, va_K.moved (u := U) (U := U.calling g mk a) (Vm.Alike.refl U.vm) h2, Stt.moved (s := U) (U := U.calling g mk a) h3 (Vm.Alike.refl U.vm) (va_S.rf) rfl, h4⟩
theorem aw_run {κ : KX} {Post : Option AV → List SH → MM → ML → Prop} {p : Program} {l : Launch} {e : Env} {R : Room} {s : State} {m : MethodId} {args : Array Value} {below : List Frame} {meth : Method} {c : Code} {H : Heap} {locs : List Loc} {cells slots mc ms : Nat} {Q : State → Prop} {pc : Nat} {lsA : Array Slot} {st0 rest : List Value} {a : Array Value}
    (hr : va_Run p l e R s m args below meth c H locs cells slots mc ms (F0 m pc lsA st0) rest (QQ κ Post a) (lwA κ)) (hS : va_S (lwA κ) s.heap H locs)
    (kk : ∀ (r : Option AV) (S : List SH) (μ : MM) (ν : ML) (H1 : Heap) (locs1 : List Loc), Post r S μ ν → SmallS S → Wl κ S μ ν H1 → va_S (lwA κ) s.heap H1 locs1 → W p l e R s m args below meth c H1 locs1 (cells + mc) (slots + ms) Q (F0 m (pc + 3) lsA ((r.map (cvA κ)).toList ++ rest))) : W p l e R s m args below meth c H locs cells slots Q (F0 m pc lsA st0) := by
  intro T hT X
  obtain ⟨v, st₀, t, T', L, h0, X', hL, e1, e2, ⟨⟨r, S, μ, ν, hv, hp, hw, hsm⟩, hz, hk⟩, st⟩ := hr T hT X
  cases hv
  rw [h0] at hz hk
  obtain ⟨t2, a1, b1⟩ := kk r S μ ν T'.heap (locs ++ L) hp hsm (by rw [e1]; exact hw)
    ⟨Nat.le_trans hS.1 (by rw [e1]; exact hz), fun q h1 h2 => by rw [e1, hk q (Nat.lt_of_lt_of_le h1 hS.1) h2]; exact hS.2.1 q h1 h2, fun q hq => by
      rcases List.mem_append.mp hq with h | h
      · exact hS.2.2 q h
      · exact hL q h⟩ T' rfl X'
  exact ⟨t2, st t2 a1, b1⟩
/-- what the tables say of a method: n its parameters -/
def MokB (cy : MX) (n : Nat) : Prop := Cond.initialized cy.1.cls ∈ lwg ∧ Cond.code cy.1 cy.2.1 cy.2.2.1 cy.2.2.2 ∈ lwg ∧ (cy.1.cls ≠ "java/lang/invoke/MethodHandle" ∧ cy.1.cls ≠ "java/lang/invoke/VarHandle" ∧ (parseMethodDescriptor cy.1.desc).map (fun d => d.parameters.length) = some n) ∧ plainName cy.1.cls = true
def mokB (cy : MX) (n p1 : Nat) : Bool := okL p1 (.initialized cy.1.cls) && decide (cy.1.cls ≠ "java/lang/invoke/MethodHandle" ∧ cy.1.cls ≠ "java/lang/invoke/VarHandle" ∧ (parseMethodDescriptor cy.1.desc).map (fun d => d.parameters.length) = some n) && plainName cy.1.cls
theorem mokB_of {cy : MX} {n p1 p2 : Nat} (hc : lw_tbl[p2]? = some (.code cy.1 cy.2.1 cy.2.2.1 cy.2.2.2)) (h : mokB cy n p1 = true) : MokB cy n := by
  simp only [mokB, Bool.and_eq_true] at h
  exact ⟨okL_mem h.1.1, List.mem_filter.mpr ⟨List.mem_of_getElem? hc, rfl⟩, of_decide_eq_true h.1.2, h.2⟩
def MokV (cy : MX) (n : Nat) : Prop := MokB cy n ∧ Cond.instanceMethod cy.1 ∈ lwg ∧ Cond.selects cy.1.cls cy.1 cy.1 ∈ lwg
def MokS (cy : MX) (n : Nat) : Prop := MokB cy n ∧ Cond.static cy.1 ∈ lwg
theorem mokV_of {cy : MX} {n p1 p2 p3 p4 : Nat} (hc : lw_tbl[p2]? = some (.code cy.1 cy.2.1 cy.2.2.1 cy.2.2.2)) (h : mokB cy n p1 = true) (h3 : okL p3 (.instanceMethod cy.1) = true) (h4 : okL p4 (.selects cy.1.cls cy.1 cy.1) = true) : MokV cy n := ⟨mokB_of hc h, okL_mem h3, okL_mem h4⟩
theorem mokS_of {cy : MX} {n p1 p2 p3 : Nat} (hc : lw_tbl[p2]? = some (.code cy.1 cy.2.1 cy.2.2.1 cy.2.2.2)) (h : mokB cy n p1 = true) (h3 : okL p3 (.static cy.1) = true) : MokS cy n := ⟨mokB_of hc h, okL_mem h3⟩
theorem gV {own : String} {idx n : Nat} {cy : MX} (h : MokV cy n) (hl : Cond.methodLink own idx cy.1 ∈ lwg) : GoodIn lwg (wsV own idx cy.1.cls cy.1 (wsM cy)) := by
  intro w hw
  refine gAll w ?_
  unfold wsV wsM at hw
  simp only [List.mem_append, List.mem_cons, List.not_mem_nil, or_false] at hw
  rcases hw with (rfl | rfl | rfl | rfl) | rfl | hw
  · exact hl
  · exact h.2.1
  · exact h.2.2
  · exact h.1.1
  · exact h.1.2.1
  · exact hw
theorem gS {own : String} {idx n : Nat} {cy : MX} (h : MokS cy n) (hl : Cond.methodLink own idx cy.1 ∈ lwg) : GoodIn lwg (va_wsS own idx cy.1 (wsM cy)) := by
  intro w hw
  refine gAll w ?_
  unfold va_wsS wsM at hw
  simp only [List.mem_append, List.mem_cons, List.not_mem_nil, or_false] at hw
  rcases hw with (rfl | rfl | rfl) | rfl | hw
  · exact hl
  · exact h.2
  · exact h.1.1
  · exact h.1.2.1
  · exact hw
section AWC
variable {κ : KX} {cx : MX} {R : Room} {Qf : List Frame → Array Value → State → State → Prop} {cells slots : Nat} {S : List SH} {pc : Nat} {ls r : List AV} {μ : MM} {ν : ML}
theorem rest_ok {κ : KX} {rest : List AV} {m : MethodId} {pc : Nat} {lsA : Array Slot} {st : List Value} (h : 2 * rest.length ≤ 8) : 2 * (F0 m pc lsA st).monitorRoom + ((rest.map (cvA κ)).map fun v => v.category).sum ≤ 8 := by
  refine lv_room ?_
  have : ∀ l : List AV, ((l.map (cvA κ)).map fun v => v.category).sum ≤ 2 * l.length := by
    intro l
    induction l with
    | nil => simp
    | cons a t ih =>
      simp only [List.map_cons, List.sum_cons, List.length_cons]
      have : (cvA κ a).category ≤ 2 := by rcases lv_cat (cvA κ a) with h | h <;> omega
      omega
  exact Nat.le_trans (this rest) h
theorem aw_callV {cy : MX} {d mc ms n idx b a p1 : Nat} {As rest : List AV} {fs : List (Option AV)} {Post : Option AV → List SH → MM → ML → Prop} (hM : AMet κ d cy (aR b :: As) S μ ν Post mc ms) (hm : MokV cy n) (hd : decode cx.2.1 pc = .ok (.invokevirtual idx, 3)) (hl : okL p1 (.methodLink cx.1.cls idx cy.1) = true) (hob : gt S b = some (.inr (a, fs))) (hcl : (gt classes a).map (fun q => q.1) = some cy.1.cls) (hn : As.length = n) (hrest : 2 * rest.length ≤ 8) (hR : d + 1 ≤ R.frames ∧ 8 + (cy.2.2.1 + 11) + 64 * d ≤ R.locals) (hf : cells + mc ≤ R.cells ∧ slots + ms ≤ R.slots)
    (k : ∀ (r : Option AV) (S' : List SH) (μ' : MM) (ν' : ML), Post r S' μ' ν' → AW κ cx R Qf (cells + mc) (slots + ms) S' (pc + 3) ls (r.toList ++ rest) μ' ν') : AW κ cx R Qf cells slots S pc ls (As.reverse ++ aR b :: rest) μ ν := by
  intro hS p l e s m args below meth c F H locs lsA hs hW hl0
  obtain ⟨hx, hb, -, hml, hown, hts, -, -, hK, hst⟩ := id F
  have hlink := okL_mem hl
  rw [gt_eq] at hob
  rw [gt_eq] at hcl
  cases hcc : classes[a]? with
  | none => rw [hcc] at hcl; cases hcl
  | some q =>
    rw [hcc] at hcl
    have hcl : q.1 = cy.1.cls := Option.some.inj hcl
    have hrecv := va_recv hK hW.2 hcc (wsA_in hob)
    rw [hcl] at hrecv
    refine aw_run (va_runV (As := As.map (cvA κ)) (rest := rest.map (cvA κ)) ⟨hx, hb, hml, hown, hts⟩ (hM hS l) (cwV n hts (gV hm hlink) rfl rfl rfl ⟨rfl, hm.1.2.2.1⟩ hR) ⟨Pc_blind, hrecv, fun U hU hWm => ⟨rfl, va_K.moved hWm.alike hK, hst.moved hWm.alike hs hU, by rw [hU]; exact hW⟩⟩ rfl (by rw [List.length_map]; exact hn) hl0.1 (by simp [List.map_append, List.map_reverse]; rfl) (rest_ok hrest) hd hf) hs (fun r S' μ' ν' H1 locs1 hp hsm hw1 hs1 => ?_)
    have := k r S' μ' ν' hp hsm p l e s m args below meth c F H1 locs1 lsA hs1 hw1 hl0
    rw [List.map_append] at this
    cases r <;> exact this
theorem aw_callS {cy : MX} {d mc ms n idx p1 : Nat} {As rest : List AV} {Post : Option AV → List SH → MM → ML → Prop} (hM : AMet κ d cy As S μ ν Post mc ms) (hm : MokS cy n) (hd : decode cx.2.1 pc = .ok (.invokestatic idx, 3)) (hl : okL p1 (.methodLink cx.1.cls idx cy.1) = true) (hn : As.length = n) (hrest : 2 * rest.length ≤ 8) (hR : d + 1 ≤ R.frames ∧ 8 + (cy.2.2.1 + 11) + 64 * d ≤ R.locals) (hf : cells + mc ≤ R.cells ∧ slots + ms ≤ R.slots)
    (k : ∀ (r : Option AV) (S' : List SH) (μ' : MM) (ν' : ML), Post r S' μ' ν' → AW κ cx R Qf (cells + mc) (slots + ms) S' (pc + 3) ls (r.toList ++ rest) μ' ν') : AW κ cx R Qf cells slots S pc ls (As.reverse ++ rest) μ ν := by
  intro hS p l e s m args below meth c F H locs lsA hs hW hl0
  obtain ⟨hx, hb, -, hml, hown, hts, -, -, hK, hst⟩ := id F
  have hlink := okL_mem hl
  refine aw_run (va_runS (As := As.map (cvA κ)) (rest := rest.map (cvA κ)) ⟨hx, hb, hml, hown, hts⟩ (hM hS l) (va_cwS n hts (gS hm hlink) rfl rfl rfl hm.1.2.2.1 hR) ⟨Pc_blind, fun U hU hWm => ⟨rfl, va_K.moved hWm.alike hK, hst.moved hWm.alike hs hU, by rw [hU]; exact hW⟩⟩ rfl (by rw [List.length_map]; exact hn) hl0.1 (by simp [List.map_append, List.map_reverse]) (rest_ok hrest) hd hf) hs (fun r S' μ' ν' H1 locs1 hp hsm hw1 hs1 => ?_)
  have := k r S' μ' ν' hp hsm p l e s m args below meth c F H1 locs1 lsA hs1 hw1 hl0
  rw [List.map_append] at this
  cases r <;> exact this
end AWC
/-! a contract out of a walk from the entry -/
def flatA : List AV → List AV
  | [] => []
  | .inr (.inl x) :: r => aL x :: aU :: flatA r
  | v :: r => v :: flatA r
def entL (As : List AV) (n : Nat) : List AV := flatA As ++ List.replicate (n - (flatA As).length) aU
theorem flat_len (κ : KX) : ∀ As : List AV, (lg_sl (As.map (cvA κ))).length = (flatA As).length
  | [] => rfl
  | .inl z :: r => by have := flat_len κ r; simp [lg_sl, flatA, cvA, Value.category] at this ⊢; exact this
  | .inr (.inl x) :: r => by have := flat_len κ r; simp [lg_sl, flatA, cvA, Value.category] at this ⊢; omega
  | .inr (.inr (.inl x)) :: r => by have := flat_len κ r; simp [lg_sl, flatA, cvA, Value.category] at this ⊢; exact this
  | .inr (.inr (.inr (.inl x))) :: r => by have := flat_len κ r; simp [lg_sl, flatA, cvA, Value.category] at this ⊢; exact this
  | .inr (.inr (.inr (.inr x))) :: r => by have := flat_len κ r; simp [lg_sl, flatA, cvA, Value.category] at this ⊢; exact this
theorem flat_at (κ : KX) : ∀ (As : List AV) (o i : Nat) (v : AV), (flatA As)[i]? = some v → v ≠ aU → (o + i, cvA κ v) ∈ lv_args o (As.map (cvA κ))
  | [], o, i, v, h, _ => by simp [flatA] at h
  | .inl z :: r, o, i, v, h, hv => by
    cases i with
    | zero => simp [flatA] at h; subst h; exact List.mem_cons_self
    | succ i =>
      simp [flatA] at h
      have := flat_at κ r (o + 1) i v h hv
      refine List.mem_cons_of_mem _ ?_
      rw [show o + (i + 1) = o + 1 + i by omega]
      simpa [cvA, Value.category] using this
  | .inr (.inl x) :: r, o, i, v, h, hv => by
    cases i with
    | zero => simp [flatA] at h; subst h; exact List.mem_cons_self
    | succ i =>
      cases i with
      | zero => simp [flatA] at h; exact absurd h.symm hv
      | succ i =>
        simp [flatA] at h
        have := flat_at κ r (o + 2) i v h hv
        refine List.mem_cons_of_mem _ ?_
        rw [show o + (i + 1 + 1) = o + 2 + i by omega]
        simpa [cvA, Value.category] using this
  | .inr (.inr w) :: r, o, i, v, h, hv => by
    cases i with
    | zero => simp [flatA] at h; subst h; exact List.mem_cons_self
    | succ i =>
      simp [flatA] at h
      have := flat_at κ r (o + 1) i v h hv
      refine List.mem_cons_of_mem _ ?_
      rw [show o + (i + 1) = o + 1 + i by omega]
      have hc : (cvA κ (.inr (.inr w))).category = 1 := by rcases w with w | w | w <;> rfl
      rw [if_neg (by rw [hc]; decide)]
      exact this
theorem LH.entry {κ : KX} {As : List AV} {n : Nat} (h : (flatA As).length ≤ n) : LH κ n ((lg_sl (As.map (cvA κ)) ++ List.replicate (n - (lg_sl (As.map (cvA κ))).length) Slot.unset).toArray) (entL As n) := by
  have hh := lv_entry (As.map (cvA κ)) (n := n) (by rw [flat_len]; exact h)
  refine ⟨hh.1, hh.2.1, by simp [entL]; omega, fun i v hi hv => ?_⟩
  unfold entL at hi
  by_cases hlt : i < (flatA As).length
  · rw [List.getElem?_append_left hlt] at hi
    have := flat_at κ As 0 i v hi hv
    rw [Nat.zero_add] at this
    exact hh.2.2 _ this
  · rw [List.getElem?_append_right (by omega), List.getElem?_replicate] at hi
    split at hi
    · exact absurd (Option.some.inj hi).symm hv
    · cases hi
theorem AMet.of {κ : KX} {d : Nat} {cy : MX} {As ls : List AV} {S : List SH} {μ : MM} {ν : ML} {Post : Option AV → List SH → MM → ML → Prop} {mc ms n : Nat} (hm : MokB cy n) (hle : (flatA As).length ≤ cy.2.2.1) (hls : entL As cy.2.2.1 = ls) (k : AW κ cy (rmv d mc ms) (mq κ Post mc ms) 0 0 S 0 ls [] μ ν) : AMet κ d cy As S μ ν Post mc ms := by
  intro hS l
  refine Met.ofW (cc := cy.2.1) (maxL := cy.2.2.1) (ret := cy.2.2.2) hm.2.2.2 rfl ?_
  intro p e s m args below meth c s₁ B hml hv
  obtain ⟨rfl, hK, hSt, hW⟩ := hv
  have hts := atoms_spec (ws := wsM cy) B.pre
  rw [lg_entry_eq]
  subst hls
  exact k hS p l e s m _ below meth c ⟨B.exec, B.bytes, B.returns, hml, findClass_of_methodNamed B.named, fun w hw => hts w (List.mem_cons_of_mem _ hw), B.notSynchronized, (name_of_methodNamed B.named B.method).1, hK, hSt⟩ s.heap [] _ va_S.rf hW (LH.entry hle)
end
section
/-! ===== making: new objects and arrays, references put into final fields, constructors called ===== -/
def clr (μ : MM) (n : Nat) : MM := fun c i => if c = n then 0 else μ c i
def clrL (ν : ML) (n : Nat) : ML := fun c i => if c = n then 0 else ν c i
def dflT (T : u_T) (N : Nat) : List (Option AV) := (List.range N).map (fun j => if (T j).2.2.1 = "I" ∨ (T j).2.2.1 = "Z" then none else some aN)
def dfl (ci : Nat) : List (Option AV) := match gt classes ci with
  | some (_, T, N) => dflT T N
  | none => []
def shSz (sh : SH) : Nat := match sh with
  | .inl (_, n) => n
  | .inr (_, fs) => fs.length
def szS : List SH → Nat
  | [] => 0
  | sh :: r => shSz sh + szS r
theorem szS_app (S : List SH) (sh : SH) : szS (S ++ [sh]) = szS S + shSz sh := by
  induction S with
  | nil => simp [szS]
  | cons a t ih => simp [szS, ih]; omega
theorem szS_set : ∀ (S : List SH) (x : Nat) (sh sh' : SH), S[x]? = some sh → shSz sh' = shSz sh → szS (S.set x sh') = szS S
  | [], _, _, _, h, _ => by simp at h
  | a :: t, 0, sh, sh', h, he => by simp at h; subst h; simp [szS, he]
  | a :: t, x + 1, sh, sh', h, he => by simp at h; simp [szS, szS_set t x sh sh' h he]
theorem rdC_clr {κ : KX} {μ : MM} {ν : ML} {n : Nat} (k' : Nat) (sh : SH) (h : k' ≠ n) : rdC κ (clr μ n) (clrL ν n) k' sh = rdC κ μ ν k' sh := by
  have e1 : clr μ n k' = μ k' := by funext i; simp [clr, h]
  have e2 : clrL ν n k' = ν k' := by funext i; simp [clrL, h]
  rcases sh with ⟨t, m⟩ | ⟨ci, fs⟩
  · simp only [rdC, rdA, e1, e2]
  · have e : rdF κ (clr μ n) k' = rdF κ μ k' := by
      funext j f
      cases f <;> simp only [rdF, e1]
    simp only [rdC, e]
theorem Wl.push {κ : KX} {S : List SH} {μ : MM} {ν : ML} {H H1 : Heap} {sh : SH} (hW : Wl κ S μ ν H) (z : H1.size = H.size + 1) (oq : ∀ q : Nat, q < H.size → H1[q]? = H[q]?) (he : va_at κ.2.2.1 classes (κ.1 + S.length, rdC κ (clr μ S.length) (clrL ν S.length) S.length sh) H1) : Wl κ (S ++ [sh]) (clr μ S.length) (clrL ν S.length) H1 := by
  refine ⟨by rw [z, hW.1]; simp; omega, fun k' q hq => ?_⟩
  rw [wsA_at] at hq
  by_cases hk : k' < S.length
  · rw [List.getElem?_append_left hk] at hq
    cases h1 : S[k']? with
    | none => rw [h1] at hq; cases hq
    | some x =>
      rw [h1] at hq
      cases hq
      dsimp only
      rw [rdC_clr k' x (by omega)]
      exact (hW.2 k' _ (wsA_in h1)).kept (oq _ (by rw [hW.1]; omega))
  · rw [List.getElem?_append_right (by omega)] at hq
    have hz : k' - S.length < 1 := by
      cases h1 : [sh][k' - S.length]? with
      | none => rw [h1] at hq; cases hq
      | some x => exact (List.getElem?_eq_some_iff.mp h1).1
    have hk2 : k' = S.length := by omega
    subst hk2
    rw [Nat.sub_self] at hq
    cases hq
    exact he
theorem dfl_ok : ∀ (ci : Nat) (C : String) (T : u_T) (N : Nat), classes[ci]? = some (C, T, N) → ∀ j, j < N → (parseFieldDescriptor (T j).2.2.1).map defaultValue = some (if (T j).2.2.1 = "I" ∨ (T j).2.2.1 = "Z" then Value.int 0 else Value.null) := by
  intro ci C T N h
  match ci, h with
  | 0, h => cases h; decide +kernel
  | 1, h => cases h; decide +kernel
  | 2, h => cases h; decide +kernel
  | 3, h => cases h; decide +kernel
  | 4, h => cases h; decide +kernel
  | 5, h => cases h; decide +kernel
  | 6, h => cases h; decide +kernel
  | 7, h => cases h; decide +kernel
  | 8, h => cases h; decide +kernel
  | 9, h => cases h; decide +kernel
  | 10, h => cases h; decide +kernel
  | 11, h => cases h; decide +kernel
  | 12, h => cases h; decide +kernel
  | n + 13, h => simp [classes] at h
section MK
variable {κ : KX} {cx : MX} {p : Program} {l : Launch} {e : Env} {R : Room} {s : State} {m : MethodId} {args : Array Value} {below : List Frame} {meth : Method} {c : Code} {cells slots : Nat} {Q : State → Prop} {S : List SH} {pc : Nat} {ls r : List AV} {μ : MM} {ν : ML}
theorem ss_new (F : Fx κ cx p s m args meth c) {i ci N : Nat} {C : String} {T : u_T} (hd : decode cx.2.1 pc = .ok (.new i, 3)) (hc : classes[ci]? = some (C, T, N)) (h1 : Cond.classLink cx.1.cls i C ∈ lwg) (h2 : Cond.instantiable C N ∈ lwg) (h3 : Cond.initialized C ∈ lwg) (hcells : cells + 1 ≤ R.cells) (hslots : slots + N ≤ R.slots)
    (k : MW κ cx p l e R s m args below meth c (cells + 1) (slots + N) Q (S ++ [.inr (ci, dflT T N)]) (pc + 3) ls (aR S.length :: r) (clr μ S.length) (clrL ν S.length)) : MW κ cx p l e R s m args below meth c cells slots Q S pc ls r μ ν := by
  intro H locs lsA hS hW hl
  obtain ⟨hx0, hb, -, -, hown, hts, -, -, hK, -⟩ := F
  obtain ⟨hin, ⟨ty0, hty0⟩, hnm⟩ := ty_all ci C T N hc
  have hKn := hK.1 ci _ hc
  refine W.newcK hx0 hb hown (hts _ h1) (hts _ h2) (hts _ h3) rfl hd hcells hslots hKn.2.1 hW.1 fun H1 kC hkC e1 z1 o1 => ?_
  refine k H1 locs lsA ⟨Nat.le_trans hS.1 (by rw [z1, ← hW.1]; exact Nat.le_succ _), fun x g1 g2 => (o1 x (by rw [← hW.1]; exact Nat.lt_of_lt_of_le g1 hS.1)).trans (hS.2.1 x g1 g2), hS.2.2⟩ (hW.push (by rw [z1, hW.1]) (fun q hq => o1 q (by rw [← hW.1]; exact hq)) ?_) hl
  refine ⟨_, hc, (u_born ty0 hts hin hKn hkC e1 hty0).to (fun j hj => ?_)⟩
  have hd1 := dfl_ok ci C T N hc j hj
  rw [hty0 j hj] at hd1
  have hd2 := Option.some.inj hd1
  rw [hd2]
  have hlen : j < (dflT T N).length := by simp [dflT, hj]
  simp only [vp_V, List.getD_eq_getElem?_getD, List.getElem?_mapIdx]
  have he : (dflT T N)[j]? = some (if (T j).2.2.1 = "I" ∨ (T j).2.2.1 = "Z" then none else some aN) := by simp [dflT, hj]
  rw [he]
  by_cases hI : (T j).2.2.1 = "I" ∨ (T j).2.2.1 = "Z"
  · simp only [if_pos hI]
    simp [rdF, clr]
  · simp only [if_neg hI]
    simp [rdF, cvA]
def atyp : Nat → ArrayType
  | 0 => .int
  | 1 => .boolean
  | _ => .long
theorem ss_newa (F : Fx κ cx p s m args meth c) {t : Nat} {n : Int} (ht : t < 3) (hd : decode cx.2.1 pc = .ok (.newarray (atyp t), 2)) (h1 : Cond.arrayClass (newarray.typeOf (atyp t)) ∈ lwg) (hn0 : 0 ≤ n) (hn1 : n < 10000) (hcells : cells + 1 ≤ R.cells) (hslots : slots + n.toNat ≤ R.slots)
    (k : MW κ cx p l e R s m args below meth c (cells + 1) (slots + n.toNat) Q (S ++ [.inl (t, n.toNat)]) (pc + 2) ls (aR S.length :: r) (clr μ S.length) (clrL ν S.length)) : MW κ cx p l e R s m args below meth c cells slots Q S pc ls (aI n :: r) μ ν := by
  intro H locs lsA hS hW hl
  obtain ⟨hx0, hb, -, -, hown, hts, -, -, hK, -⟩ := F
  have e32 : (Int32.ofInt n).toInt = n := Int32.toInt_ofInt_of_le (by omega) (by omega)
  have hneg : ¬ Int32.ofInt n < 0 := by rw [Int32.lt_iff_toInt_lt, e32]; simp; omega
  have hcl : (Int32.ofInt n).toNatClampNeg = n.toNat := Int32.toNatClampNeg_ofInt_of_le (by omega) (by omega)
  refine va_newaK hx0 hb (hts _ h1) rfl hd rfl hneg hcl ?_ hcells hslots hW.1 fun H1 cA e1 z1 o1 hAr hNm => ?_
  · have : componentBytes (newarray.typeOf (atyp t)) ≤ 8 := by
      rcases (show t = 0 ∨ t = 1 ∨ t = 2 by omega) with rfl | rfl | rfl <;> decide
    have h2 : n.toNat ≤ 10000 := by omega
    calc n.toNat * componentBytes (newarray.typeOf (atyp t)) ≤ 10000 * 8 := Nat.mul_le_mul h2 this
      _ ≤ 536870912 := by decide
  · refine k H1 locs lsA ⟨Nat.le_trans hS.1 (by rw [z1, ← hW.1]; exact Nat.le_succ _), fun x g1 g2 => (o1 x (by rw [← hW.1]; exact Nat.lt_of_lt_of_le g1 hS.1)).trans (hS.2.1 x g1 g2), hS.2.2⟩ (hW.push (by rw [z1, hW.1]) (fun q hq => o1 q (by rw [← hW.1]; exact hq)) ?_) hl
    have hcA : cA = κ.2.2.2.1 t := by
      rcases (show t = 0 ∨ t = 1 ∨ t = 2 by omega) with rfl | rfl | rfl
      · exact Option.some.inj (hNm.symm.trans (hK.2 0 _ rfl).2)
      · exact Option.some.inj (hNm.symm.trans (hK.2 1 _ rfl).2)
      · exact Option.some.inj (hNm.symm.trans (hK.2 2 _ rfl).2)
    subst hcA
    show H1[κ.1 + S.length]? = some (vp_cell (κ.2.2.2.1 t) (n.toNat, rdA (clrL ν S.length) (clr μ S.length) S.length t))
    rw [e1]
    congr 1
    rcases (show t = 0 ∨ t = 1 ∨ t = 2 by omega) with rfl | rfl | rfl
    · simp [rdA, vp_cell, clr]; rfl
    · simp [rdA, vp_cell, clr]; rfl
    · simp [rdA, vp_cell, clrL]; rfl
theorem rdC_set {κ : KX} {μ : MM} {x b : Nat} {v : AV} {fs : List (Option AV)} : (fs.mapIdx (rdF κ μ x)).set b (cvA κ v) = (fs.set b (some v)).mapIdx (rdF κ μ x) := by
  apply List.ext_getElem?
  intro j
  by_cases hj : j = b
  · subst hj
    by_cases hlt : j < fs.length
    · rw [List.getElem?_set_self (by rw [List.length_mapIdx]; exact hlt), List.getElem?_mapIdx, List.getElem?_set_self hlt]
      rfl
    · rw [List.getElem?_eq_none (by simp; omega), List.getElem?_eq_none (by simp; omega)]
  · rw [List.getElem?_set_ne (Ne.symm hj), List.getElem?_mapIdx, List.getElem?_mapIdx, List.getElem?_set_ne (Ne.symm hj)]
theorem Wl.setR {κ : KX} {S : List SH} {μ : MM} {ν : ML} {H H1 : Heap} {x : Nat} {sh sh' : SH} (hW : Wl κ S μ ν H) (hx : S[x]? = some sh) (z : H1.size = H.size) (oq : ∀ q : Nat, q ≠ κ.1 + x → H1[q]? = H[q]?) (he : va_at κ.2.2.1 classes (κ.1 + x, rdC κ μ ν x sh') H1) : Wl κ (S.set x sh') μ ν H1 := by
  refine ⟨by rw [z, hW.1, List.length_set], fun k' q hq => ?_⟩
  rw [wsA_at] at hq
  by_cases hkk : k' = x
  · subst hkk
    rw [List.getElem?_set_self (List.getElem?_eq_some_iff.mp hx).1] at hq
    cases hq
    exact he
  · rw [List.getElem?_set_ne (Ne.symm hkk)] at hq
    cases h1 : S[k']? with
    | none => rw [h1] at hq; cases hq
    | some y =>
      rw [h1] at hq
      cases hq
      exact (hW.2 k' _ (wsA_in h1)).kept (oq _ (fun h => hkk (by omega)))
theorem ss_putR (F : Fx κ cx p s m args meth c) {i a b x : Nat} {C : String} {T : u_T} {N : Nat} {fs : List (Option AV)} {v : AV} {ty : FieldType} (hd : decode cx.2.1 pc = .ok (.putfield i, 3)) (hc : classes[a]? = some (C, T, N)) (hbN : b < N) (hn : Cond.fieldLink cx.1.cls i (T b).1 (T b).2.1 (T b).2.2.1 ∈ lwg) (hfin : (T b).2.2.2 = true) (hinit : cx.1.name = "<init>") (hdecl : (T b).1 = cx.1.cls) (hty : parseFieldDescriptor (T b).2.2.1 = some ty)
    (hnar : narrow ty (cvA κ v) = cvA κ v) (hfit : fits ty (cvA κ v) = true) (hx : S[x]? = some (.inr (a, fs))) (hbl : b < fs.length) (k : MW κ cx p l e R s m args below meth c cells slots Q (S.set x (.inr (a, fs.set b (some v)))) (pc + 3) ls r μ ν) : MW κ cx p l e R s m args below meth c cells slots Q S pc ls (v :: aR x :: r) μ ν := by
  intro H locs lsA hS hW hl
  obtain ⟨hx0, hb, -, -, hown, hts, -, hmn, hK, -⟩ := F
  obtain ⟨hin, ⟨ty0, hty0⟩, hnm⟩ := ty_all a C T N hc
  have hap := va_apart (own := cx.1.cls) hts hin ty0 hty0 hnm hK hc
  obtain ⟨r1, h1, cell, q1, q2, q3, q4⟩ := hW.2 x _ (wsA_in hx)
  have hr : r1 = (C, T, N) := Option.some.inj (h1.symm.trans hc)
  subst hr
  obtain ⟨hSl, hfc, kC, hkC, hkind⟩ := hK.1 a _ hc
  obtain ⟨cf, kf, fi, f, hi, hsl⟩ := hSl b hbN
  have hlay := hts _ (hin _ (u_in_lay hbN))
  unfold u_lay at hlay
  rw [if_pos hfin] at hlay
  have hst := (u_facts hfc hkC (u_lays hts hin hbN) hi).1
  have hcf : m.cls = cf := by
    obtain ⟨_, _, c', _, _, _, -, -, hf', -, -, -, hown2, -⟩ := Cond.laysFinal_spec hlay
    have e1 : c' = cf := by have := hi.symm.trans hf'; simp at this; exact this.1.symm
    rw [hdecl] at hown2
    rw [← e1]; exact Option.some.inj (hown.symm.trans hown2)
  have h6 := u_fits hfc hkC hkind (Or.inr hlay) hi hty hnar hfit
  have hlen : b < (fs.mapIdx (rdF κ μ x)).length := by rw [List.length_mapIdx]; exact hbl
  refine W.putFinK hx0 hb hown (hts _ hn) hi hst hcf (hmn.trans hinit) (by rw [q2]; exact h6) q1 q3 (by rw [hsl]; exact k2_hasslot (q4 b hbN)) rfl rfl hd fun H' e1 e2 e3 => ?_
  rw [hsl] at e1 ⊢
  refine k H' _ lsA (hS.put e2 e3 (Nat.le_add_right _ _)) (hW.setR hx e2 e3 ?_) hl
  refine ⟨_, hc, t_OB.to (V := updV (vp_V (fs.mapIdx (rdF κ μ x))) b (cvA κ v)) ⟨_, e1, q2, q3, t_set q4 hap hbN (cvA κ v)⟩ (fun j _ => ?_)⟩
  rw [vp_updV_set hlen, rdC_set]
theorem ss_objInit (F : Fx κ cx p s m args meth c) {i x : Nat} (hd : decode cx.2.1 pc = .ok (.invokespecial i, 3)) (h1 : Cond.methodLink cx.1.cls i objectInit ∈ lwg) (h2 : Cond.instanceMethod objectInit ∈ lwg) (h3 : Cond.code objectInit ⟨#[0xb1]⟩ 1 none ∈ lwg) (hrest : 2 * r.length ≤ 8) (hfr : 1 ≤ R.frames) (hlo : 20 ≤ R.locals) (k : MW κ cx p l e R s m args below meth c cells slots Q S (pc + 3) ls r μ ν) : MW κ cx p l e R s m args below meth c cells slots Q S pc ls (aR x :: r) μ ν := by
  intro H locs lsA hS hW hl
  obtain ⟨hx0, hb, -, hml, hown, hts, -, -, hK, -⟩ := F
  refine W.objInit hx0 hb hown (hts _ h1) (hts _ h2) (hts _ h3) rfl (by rw [hml]; exact hl.1) rfl hd hfr ?_ (k H locs lsA hS hW hl)
  have := rest_ok (κ := κ) (m := m) (pc := pc) (lsA := lsA) (st := []) hrest
  exact Nat.le_trans (Nat.add_le_add_right this 12) hlo
theorem ss_callI (F : Fx κ cx p s m args meth c) (hSm : SmallS S) {cy : MX} {d mc ms i b : Nat} {rest : List AV} {Post : Option AV → List SH → MM → ML → Prop} (hM : AMet κ d cy [aR b] S μ ν Post mc ms) (hm : MokB cy 0) (hin : Cond.instanceMethod cy.1 ∈ lwg) (hnm : cy.1.name = "<init>") (hret : cy.2.2.2 = none) (hd : decode cx.2.1 pc = .ok (.invokespecial i, 3)) (hl : Cond.methodLink cx.1.cls i cy.1 ∈ lwg) (hrest : 2 * rest.length ≤ 8) (hR : d + 1 ≤ R.frames ∧ 8 + (cy.2.2.1 + 11) + 64 * d ≤ R.locals) (hf : cells + mc ≤ R.cells ∧ slots + ms ≤ R.slots)
    (k : ∀ (r : Option AV) (S' : List SH) (μ' : MM) (ν' : ML), Post r S' μ' ν' → SmallS S' → MW κ cx p l e R s m args below meth c (cells + mc) (slots + ms) Q S' (pc + 3) ls (r.toList ++ rest) μ' ν') : MW κ cx p l e R s m args below meth c cells slots Q S pc ls (aR b :: rest) μ ν := by
  intro H locs lsA hs hW hl0
  obtain ⟨hx, hb, -, hml, hown, hts, -, -, hK, hst⟩ := id F
  have hG : GoodIn lwg (wsM cy) := by
    intro w hw
    rcases List.mem_cons.mp hw with rfl | hw
    · exact gAll _ hm.2.1
    · exact gAll _ hw
  refine aw_run (va_runI (As := []) (rest := rest.map (cvA κ)) (bytes := cy.2.1) (maxL := cy.2.2.1) ⟨hx, hb, hml, hown, hts⟩ (hM hSm l) (cwI 0 hts hG (by unfold wsM; rw [hret]) rfl rfl (hts _ hm.1) (hts _ hl) (hts _ hin) hnm hm.2.2.1 hR) ⟨Pc_blind, fun U hU hWm => ⟨rfl, va_K.moved hWm.alike hK, hst.moved hWm.alike hs hU, by rw [hU]; exact hW⟩⟩ rfl rfl hl0.1 rfl (rest_ok hrest) hd hf) hs (fun r S' μ' ν' H1 locs1 hp hsm hw1 hs1 => ?_)
  have := k r S' μ' ν' hp hsm H1 locs1 lsA hs1 hw1 hl0
  rw [List.map_append] at this
  cases r <;> exact this
end MK
end
section
/-! ===== the constructors, run by an interpreter ===== -/
def cd0 : List (Nat × OP) := [
  (0, oi (.aload_n 0)),
  (1, (.invokespecial 3, 0, 999, 0, 0, 239)),
  (4, oi (.aload_n 0)),
  (5, (.new 9, 0, 9, 202, 46, 240)),
  (8, oi .dup),
  (9, (.invokespecial 11, 0, 9, 0, 0, 241)),
  (12, (.putfield 12, 0, 0, 0, 2, 242)),
  (15, oi (.aload_n 0)),
  (16, oi (.bipush 60)),
  (18, (.newarray .int, 0, 0, 0, 0, 103)),
  (20, (.putfield 20, 1, 0, 1, 2, 244)),
  (23, oi (.aload_n 0)),
  (24, oi (.bipush 8)),
  (26, (.newarray .int, 0, 0, 0, 0, 103)),
  (28, (.putfield 24, 2, 0, 2, 2, 245)),
  (31, oi (.aload_n 0)),
  (32, oi (.bipush 8)),
  (34, (.newarray .int, 0, 0, 0, 0, 103)),
  (36, (.putfield 27, 3, 0, 3, 2, 246)),
  (39, oi (.aload_n 0)),
  (40, oi (.bipush 8)),
  (42, (.newarray .int, 0, 0, 0, 0, 103)),
  (44, (.putfield 30, 4, 0, 4, 2, 247)),
  (47, oi (.aload_n 0)),
  (48, oi (.bipush 8)),
  (50, (.newarray .int, 0, 0, 0, 0, 103)),
  (52, (.putfield 33, 5, 0, 5, 2, 248)),
  (55, oi .return_)]
def cd1 : List (Nat × OP) := [
  (0, oi (.aload_n 0)),
  (1, (.invokespecial 1, 0, 999, 0, 0, 77)),
  (4, oi (.aload_n 0)),
  (5, oi (.bipush 44)),
  (7, (.newarray .int, 0, 0, 0, 0, 103)),
  (9, (.putfield 11, 0, 1, 0, 2, 78)),
  (12, oi (.aload_n 0)),
  (13, oi (.bipush 16)),
  (15, (.newarray .int, 0, 0, 0, 0, 103)),
  (17, (.putfield 15, 1, 1, 1, 2, 79)),
  (20, oi (.aload_n 0)),
  (21, oi (.iconst 4)),
  (22, (.newarray .int, 0, 0, 0, 0, 103)),
  (24, (.putfield 18, 2, 1, 2, 2, 80)),
  (27, oi (.aload_n 0)),
  (28, oi (.iconst 4)),
  (29, (.newarray .int, 0, 0, 0, 0, 103)),
  (31, (.putfield 21, 3, 1, 3, 2, 81)),
  (34, oi .return_)]
def cd2 : List (Nat × OP) := [
  (0, oi (.aload_n 0)),
  (1, (.invokespecial 1, 0, 999, 0, 0, 149)),
  (4, oi (.aload_n 0)),
  (5, oi (.bipush 60)),
  (7, (.newarray .int, 0, 0, 0, 0, 103)),
  (9, (.putfield 9, 0, 2, 0, 2, 150)),
  (12, oi (.aload_n 0)),
  (13, oi (.bipush 24)),
  (15, (.newarray .int, 0, 0, 0, 0, 103)),
  (17, (.putfield 13, 1, 2, 1, 2, 153)),
  (20, oi (.aload_n 0)),
  (21, oi (.bipush 8)),
  (23, (.putfield 16, 2, 2, 2, 0, 154)),
  (26, oi (.aload_n 0)),
  (27, oi (.sipush 255)),
  (30, (.putfield 20, 3, 2, 3, 0, 158)),
  (33, oi (.iconst 0)),
  (34, oi (.istore_n 1)),
  (35, oi (.iload_n 1)),
  (36, oi (.bipush 60)),
  (38, (.if_icmp .ge 17, 0, 0, 55, 0, 0)),
  (41, oi (.aload_n 0)),
  (42, (.getfield 9, 0, 2, 0, 2, 150)),
  (45, oi (.iload_n 1)),
  (46, oi (.bipush 40)),
  (48, oi .iastore),
  (49, oi (.iinc 1 1)),
  (52, (.goto (-17), 0, 0, 35, 0, 0)),
  (55, oi (.iconst 0)),
  (56, oi (.istore_n 1)),
  (57, oi (.iload_n 1)),
  (58, oi (.bipush 24)),
  (60, (.if_icmp .ge 21, 0, 0, 81, 0, 0)),
  (63, oi (.aload_n 0)),
  (64, (.getfield 13, 1, 2, 1, 2, 153)),
  (67, oi (.iload_n 1)),
  (68, oi (.bipush 20)),
  (70, oi (.iload_n 1)),
  (71, oi (.iconst 3)),
  (72, oi .irem),
  (73, oi .ishl),
  (74, oi .iastore),
  (75, oi (.iinc 1 1)),
  (78, (.goto (-21), 0, 0, 57, 0, 0)),
  (81, oi .return_)]
def cd3 : List (Nat × OP) := [
  (0, oi (.aload_n 0)),
  (1, (.invokespecial 1, 0, 999, 0, 0, 71)),
  (4, oi (.aload_n 0)),
  (5, oi (.sipush 160)),
  (8, (.newarray .int, 0, 0, 0, 0, 103)),
  (10, (.putfield 9, 0, 3, 0, 2, 105)),
  (13, oi (.aload_n 0)),
  (14, oi (.sipush 160)),
  (17, (.newarray .int, 0, 0, 0, 0, 103)),
  (19, (.putfield 13, 1, 3, 1, 2, 107)),
  (22, oi (.aload_n 0)),
  (23, oi (.bipush 10)),
  (25, (.newarray .boolean, 0, 0, 0, 1, 104)),
  (27, (.putfield 16, 2, 3, 2, 2, 110)),
  (30, oi (.aload_n 0)),
  (31, oi (.bipush 40)),
  (33, (.newarray .int, 0, 0, 0, 0, 103)),
  (35, (.putfield 20, 3, 3, 3, 2, 112)),
  (38, oi (.aload_n 0)),
  (39, oi (.bipush 10)),
  (41, (.newarray .int, 0, 0, 0, 0, 103)),
  (43, (.putfield 23, 4, 3, 4, 2, 115)),
  (46, oi (.aload_n 0)),
  (47, oi (.bipush 10)),
  (49, (.newarray .int, 0, 0, 0, 0, 103)),
  (51, (.putfield 26, 5, 3, 5, 2, 118)),
  (54, oi (.aload_n 0)),
  (55, (.new 29, 0, 1, 73, 43, 72)),
  (58, oi .dup),
  (59, (.invokespecial 31, 0, 1, 0, 0, 74)),
  (62, (.putfield 32, 6, 3, 6, 2, 121)),
  (65, oi .return_)]
def cd4 : List (Nat × OP) := [
  (0, oi (.aload_n 0)),
  (1, (.invokespecial 1, 0, 999, 0, 0, 347)),
  (4, oi (.aload_n 0)),
  (5, oi (.bipush 24)),
  (7, (.newarray .int, 0, 0, 0, 0, 103)),
  (9, (.putfield 9, 0, 4, 0, 2, 348)),
  (12, oi .return_)]
def cd5 : List (Nat × OP) := [
  (0, oi (.aload_n 0)),
  (1, (.invokespecial 3, 0, 999, 0, 0, 337)),
  (4, oi (.aload_n 0)),
  (5, oi (.bipush 8)),
  (7, (.newarray .int, 0, 0, 0, 0, 103)),
  (9, (.putfield 11, 0, 5, 0, 2, 338)),
  (12, oi .return_)]
def cd6 : List (Nat × OP) := [
  (0, oi (.aload_n 0)),
  (1, (.invokespecial 3, 0, 999, 0, 0, 357)),
  (4, oi (.aload_n 0)),
  (5, oi (.bipush 10)),
  (7, (.newarray .int, 0, 0, 0, 0, 103)),
  (9, oi .dup),
  (10, oi (.iconst 0)),
  (11, oi (.iconst 0)),
  (12, oi .iastore),
  (13, oi .dup),
  (14, oi (.iconst 1)),
  (15, oi (.iconst 0)),
  (16, oi .iastore),
  (17, oi .dup),
  (18, oi (.iconst 2)),
  (19, oi (.iconst 0)),
  (20, oi .iastore),
  (21, oi .dup),
  (22, oi (.iconst 3)),
  (23, oi (.iconst 1)),
  (24, oi .iastore),
  (25, oi .dup),
  (26, oi (.iconst 4)),
  (27, oi (.iconst 1)),
  (28, oi .iastore),
  (29, oi .dup),
  (30, oi (.iconst 5)),
  (31, oi (.iconst 2)),
  (32, oi .iastore),
  (33, oi .dup),
  (34, oi (.bipush 6)),
  (36, oi (.iconst 2)),
  (37, oi .iastore),
  (38, oi .dup),
  (39, oi (.bipush 7)),
  (41, oi (.iconst 3)),
  (42, oi .iastore),
  (43, oi .dup),
  (44, oi (.bipush 8)),
  (46, oi (.iconst 3)),
  (47, oi .iastore),
  (48, oi .dup),
  (49, oi (.bipush 9)),
  (51, oi (.iconst 4)),
  (52, oi .iastore),
  (53, (.putfield 9, 0, 6, 0, 2, 358)),
  (56, oi (.aload_n 0)),
  (57, oi (.bipush 10)),
  (59, (.newarray .int, 0, 0, 0, 0, 103)),
  (61, oi .dup),
  (62, oi (.iconst 0)),
  (63, oi (.iconst 0)),
  (64, oi .iastore),
  (65, oi .dup),
  (66, oi (.iconst 1)),
  (67, oi (.bipush 10)),
  (69, oi .iastore),
  (70, oi .dup),
  (71, oi (.iconst 2)),
  (72, oi (.bipush 10)),
  (74, oi .iastore),
  (75, oi .dup),
  (76, oi (.iconst 3)),
  (77, oi (.bipush 10)),
  (79, oi .iastore),
  (80, oi .dup),
  (81, oi (.iconst 4)),
  (82, oi (.bipush 10)),
  (84, oi .iastore),
  (85, oi .dup),
  (86, oi (.iconst 5)),
  (87, oi (.bipush 10)),
  (89, oi .iastore),
  (90, oi .dup),
  (91, oi (.bipush 6)),
  (93, oi (.bipush 10)),
  (95, oi .iastore),
  (96, oi .dup),
  (97, oi (.bipush 7)),
  (99, oi (.bipush 10)),
  (101, oi .iastore),
  (102, oi .dup),
  (103, oi (.bipush 8)),
  (105, oi (.bipush 10)),
  (107, oi .iastore),
  (108, oi .dup),
  (109, oi (.bipush 9)),
  (111, oi (.bipush 10)),
  (113, oi .iastore),
  (114, (.putfield 15, 1, 6, 1, 2, 359)),
  (117, oi (.aload_n 0)),
  (118, oi (.bipush 10)),
  (120, (.newarray .boolean, 0, 0, 0, 1, 104)),
  (122, (.putfield 18, 2, 6, 2, 2, 360)),
  (125, oi .return_)]
def cd7 : List (Nat × OP) := [
  (0, oi (.aload_n 0)),
  (1, (.invokespecial 1, 0, 999, 0, 0, 301)),
  (4, oi (.aload_n 0)),
  (5, oi (.bipush 12)),
  (7, (.newarray .int, 0, 0, 0, 0, 103)),
  (9, (.putfield 9, 0, 7, 0, 2, 302)),
  (12, oi (.aload_n 0)),
  (13, oi (.bipush 12)),
  (15, (.newarray .int, 0, 0, 0, 0, 103)),
  (17, (.putfield 13, 1, 7, 1, 2, 303)),
  (20, oi (.aload_n 0)),
  (21, oi (.bipush 12)),
  (23, (.newarray .int, 0, 0, 0, 0, 103)),
  (25, (.putfield 16, 2, 7, 2, 2, 304)),
  (28, oi (.aload_n 0)),
  (29, oi (.bipush 12)),
  (31, (.newarray .int, 0, 0, 0, 0, 103)),
  (33, (.putfield 19, 3, 7, 3, 2, 305)),
  (36, oi (.aload_n 0)),
  (37, oi (.bipush 12)),
  (39, (.newarray .int, 0, 0, 0, 0, 103)),
  (41, (.putfield 22, 4, 7, 4, 2, 306)),
  (44, oi (.aload_n 0)),
  (45, oi (.bipush 8)),
  (47, (.newarray .int, 0, 0, 0, 0, 103)),
  (49, (.putfield 25, 6, 7, 6, 2, 309)),
  (52, oi (.aload_n 0)),
  (53, oi (.bipush 48)),
  (55, (.newarray .long, 0, 0, 0, 2, 331)),
  (57, (.putfield 30, 7, 7, 7, 2, 310)),
  (60, oi (.aload_n 0)),
  (61, oi (.bipush 48)),
  (63, (.newarray .int, 0, 0, 0, 0, 103)),
  (65, (.putfield 34, 8, 7, 8, 2, 311)),
  (68, oi .return_)]
def cd8 : List (Nat × OP) := [
  (0, oi (.aload_n 0)),
  (1, (.invokespecial 5, 0, 999, 0, 0, 174)),
  (4, oi (.aload_n 0)),
  (5, oi (.bipush 40)),
  (7, (.newarray .int, 0, 0, 0, 0, 103)),
  (9, (.putfield 11, 0, 8, 0, 2, 175)),
  (12, oi (.aload_n 0)),
  (13, oi (.bipush 6)),
  (15, (.newarray .int, 0, 0, 0, 0, 103)),
  (17, (.putfield 15, 2, 8, 2, 2, 178)),
  (20, oi (.aload_n 0)),
  (21, oi (.bipush 6)),
  (23, (.newarray .boolean, 0, 0, 0, 1, 104)),
  (25, (.putfield 18, 3, 8, 3, 2, 179)),
  (28, oi (.aload_n 0)),
  (29, oi (.bipush 6)),
  (31, (.newarray .int, 0, 0, 0, 0, 103)),
  (33, (.putfield 22, 4, 8, 4, 2, 180)),
  (36, oi (.aload_n 0)),
  (37, oi (.bipush 6)),
  (39, (.newarray .int, 0, 0, 0, 0, 103)),
  (41, (.putfield 25, 5, 8, 5, 2, 181)),
  (44, oi .return_)]
def cd9 : List (Nat × OP) := [
  (0, oi (.aload_n 0)),
  (1, (.invokespecial 3, 0, 999, 0, 0, 206)),
  (4, oi (.aload_n 0)),
  (5, oi (.bipush 8)),
  (7, (.newarray .int, 0, 0, 0, 0, 103)),
  (9, (.putfield 11, 0, 9, 0, 2, 207)),
  (12, oi .return_)]
def cd10 : List (Nat × OP) := [
  (0, oi (.aload_n 0)),
  (1, (.invokespecial 1, 0, 999, 0, 0, 282)),
  (4, oi (.aload_n 0)),
  (5, oi (.iconst 4)),
  (6, (.newarray .int, 0, 0, 0, 0, 103)),
  (8, oi .dup),
  (9, oi (.iconst 0)),
  (10, oi (.bipush 10)),
  (12, oi .iastore),
  (13, oi .dup),
  (14, oi (.iconst 1)),
  (15, oi (.bipush 10)),
  (17, oi .iastore),
  (18, oi .dup),
  (19, oi (.iconst 2)),
  (20, oi (.bipush 10)),
  (22, oi .iastore),
  (23, oi .dup),
  (24, oi (.iconst 3)),
  (25, oi (.bipush 10)),
  (27, oi .iastore),
  (28, (.putfield 7, 0, 10, 0, 2, 283)),
  (31, oi (.aload_n 0)),
  (32, oi (.iconst 4)),
  (33, (.newarray .int, 0, 0, 0, 0, 103)),
  (35, oi .dup),
  (36, oi (.iconst 0)),
  (37, oi (.bipush 10)),
  (39, oi .iastore),
  (40, oi .dup),
  (41, oi (.iconst 1)),
  (42, oi (.bipush 10)),
  (44, oi .iastore),
  (45, oi .dup),
  (46, oi (.iconst 2)),
  (47, oi (.bipush 10)),
  (49, oi .iastore),
  (50, oi .dup),
  (51, oi (.iconst 3)),
  (52, oi (.bipush 10)),
  (54, oi .iastore),
  (55, (.putfield 13, 1, 10, 1, 2, 284)),
  (58, oi (.aload_n 0)),
  (59, oi (.bipush 6)),
  (61, (.newarray .int, 0, 0, 0, 0, 103)),
  (63, oi .dup),
  (64, oi (.iconst 0)),
  (65, oi (.iconst 5)),
  (66, oi .iastore),
  (67, oi .dup),
  (68, oi (.iconst 1)),
  (69, oi (.iconst 5)),
  (70, oi .iastore),
  (71, oi .dup),
  (72, oi (.iconst 2)),
  (73, oi (.iconst 5)),
  (74, oi .iastore),
  (75, oi .dup),
  (76, oi (.iconst 3)),
  (77, oi (.iconst 5)),
  (78, oi .iastore),
  (79, oi .dup),
  (80, oi (.iconst 4)),
  (81, oi (.iconst 5)),
  (82, oi .iastore),
  (83, oi .dup),
  (84, oi (.iconst 5)),
  (85, oi (.iconst 5)),
  (86, oi .iastore),
  (87, (.putfield 16, 2, 10, 2, 2, 285)),
  (90, oi (.aload_n 0)),
  (91, oi (.bipush 24)),
  (93, (.newarray .int, 0, 0, 0, 0, 103)),
  (95, (.putfield 19, 3, 10, 3, 2, 286)),
  (98, oi .return_)]
def cd11 : List (Nat × OP) := [
  (0, oi (.aload_n 0)),
  (1, (.invokespecial 1, 0, 999, 0, 0, 63)),
  (4, oi (.aload_n 0)),
  (5, oi (.bipush 7)),
  (7, (.newarray .int, 0, 0, 0, 0, 103)),
  (9, oi .dup),
  (10, oi (.iconst 0)),
  (11, oi (.bipush 30)),
  (13, oi .iastore),
  (14, oi .dup),
  (15, oi (.iconst 1)),
  (16, oi (.bipush 60)),
  (18, oi .iastore),
  (19, oi .dup),
  (20, oi (.iconst 2)),
  (21, oi (.iconst 2)),
  (22, oi .iastore),
  (23, oi .dup),
  (24, oi (.iconst 3)),
  (25, oi (.iconst 3)),
  (26, oi .iastore),
  (27, oi .dup),
  (28, oi (.iconst 4)),
  (29, oi (.iconst 5)),
  (30, oi .iastore),
  (31, oi .dup),
  (32, oi (.iconst 5)),
  (33, oi (.bipush 30)),
  (35, oi .iastore),
  (36, oi .dup),
  (37, oi (.bipush 6)),
  (39, oi (.iconst 2)),
  (40, oi .iastore),
  (41, (.putfield 7, 0, 11, 0, 2, 369)),
  (44, oi (.aload_n 0)),
  (45, (.new 13, 0, 3, 67, 42, 66)),
  (48, oi .dup),
  (49, (.invokespecial 15, 0, 3, 0, 0, 68)),
  (52, (.putfield 16, 1, 11, 1, 2, 370)),
  (55, oi (.aload_n 0)),
  (56, (.new 20, 0, 2, 145, 44, 144)),
  (59, oi .dup),
  (60, (.invokespecial 22, 0, 2, 0, 0, 146)),
  (63, (.putfield 23, 2, 11, 2, 2, 371)),
  (66, oi (.aload_n 0)),
  (67, (.new 27, 0, 8, 170, 45, 169)),
  (70, oi .dup),
  (71, (.invokespecial 29, 0, 8, 0, 0, 171)),
  (74, (.putfield 30, 3, 11, 3, 2, 372)),
  (77, oi (.aload_n 0)),
  (78, (.new 34, 0, 9, 202, 46, 201)),
  (81, oi .dup),
  (82, (.invokespecial 36, 0, 9, 0, 0, 203)),
  (85, (.putfield 37, 4, 11, 4, 2, 373)),
  (88, oi (.aload_n 0)),
  (89, (.new 41, 0, 0, 235, 47, 234)),
  (92, oi .dup),
  (93, (.invokespecial 43, 0, 0, 0, 0, 236)),
  (96, (.putfield 44, 5, 11, 5, 2, 374)),
  (99, oi (.aload_n 0)),
  (100, (.new 48, 0, 10, 278, 48, 277)),
  (103, oi .dup),
  (104, (.invokespecial 50, 0, 10, 0, 0, 279)),
  (107, (.putfield 51, 6, 11, 6, 2, 375)),
  (110, oi (.aload_n 0)),
  (111, (.new 55, 0, 7, 297, 49, 296)),
  (114, oi .dup),
  (115, (.invokespecial 57, 0, 7, 0, 0, 298)),
  (118, (.putfield 58, 7, 11, 7, 2, 376)),
  (121, oi (.aload_n 0)),
  (122, (.new 62, 0, 5, 333, 50, 332)),
  (125, oi .dup),
  (126, (.invokespecial 64, 0, 5, 0, 0, 334)),
  (129, (.putfield 65, 8, 11, 8, 2, 377)),
  (132, oi (.aload_n 0)),
  (133, (.new 69, 0, 4, 343, 51, 342)),
  (136, oi .dup),
  (137, (.invokespecial 71, 0, 4, 0, 0, 344)),
  (140, (.putfield 72, 9, 11, 9, 2, 378)),
  (143, oi (.aload_n 0)),
  (144, (.new 76, 0, 6, 353, 52, 352)),
  (147, oi .dup),
  (148, (.invokespecial 78, 0, 6, 0, 0, 354)),
  (151, (.putfield 79, 10, 11, 10, 2, 379)),
  (154, oi .return_)]
def cd12 : List (Nat × OP) := [
  (0, oi (.aload_n 0)),
  (1, (.invokespecial 1, 0, 999, 0, 0, 966)),
  (4, oi (.aload_n 0)),
  (5, oi (.sipush 160)),
  (8, (.newarray .int, 0, 0, 0, 0, 103)),
  (10, (.putfield 7, 1, 12, 1, 2, 968)),
  (13, oi (.aload_n 0)),
  (14, oi (.bipush 10)),
  (16, (.newarray .boolean, 0, 0, 0, 1, 104)),
  (18, (.putfield 13, 2, 12, 2, 2, 969)),
  (21, oi (.aload_n 0)),
  (22, oi (.bipush 7)),
  (24, (.newarray .int, 0, 0, 0, 0, 103)),
  (26, (.putfield 17, 3, 12, 3, 2, 970)),
  (29, oi (.aload_n 0)),
  (30, oi (.bipush 24)),
  (32, (.newarray .int, 0, 0, 0, 0, 103)),
  (34, (.putfield 20, 5, 12, 5, 2, 972)),
  (37, oi (.aload_n 0)),
  (38, oi (.bipush 60)),
  (40, (.newarray .int, 0, 0, 0, 0, 103)),
  (42, (.putfield 23, 7, 12, 7, 2, 974)),
  (45, oi (.aload_n 0)),
  (46, oi (.bipush 40)),
  (48, (.newarray .int, 0, 0, 0, 0, 103)),
  (50, (.putfield 26, 9, 12, 9, 2, 976)),
  (53, oi (.aload_n 0)),
  (54, oi (.bipush 40)),
  (56, (.newarray .int, 0, 0, 0, 0, 103)),
  (58, (.putfield 29, 11, 12, 11, 2, 978)),
  (61, oi (.aload_n 0)),
  (62, oi (.iconst 4)),
  (63, (.newarray .int, 0, 0, 0, 0, 103)),
  (65, (.putfield 32, 12, 12, 12, 2, 979)),
  (68, oi (.aload_n 0)),
  (69, oi (.iconst 4)),
  (70, (.newarray .int, 0, 0, 0, 0, 103)),
  (72, (.putfield 35, 13, 12, 13, 2, 980)),
  (75, oi (.aload_n 0)),
  (76, oi (.bipush 6)),
  (78, (.newarray .int, 0, 0, 0, 0, 103)),
  (80, (.putfield 38, 14, 12, 14, 2, 981)),
  (83, oi (.aload_n 0)),
  (84, oi (.bipush 24)),
  (86, (.newarray .int, 0, 0, 0, 0, 103)),
  (88, (.putfield 41, 15, 12, 15, 2, 982)),
  (91, oi (.aload_n 0)),
  (92, oi (.bipush 60)),
  (94, (.newarray .int, 0, 0, 0, 0, 103)),
  (96, (.putfield 44, 17, 12, 17, 2, 984)),
  (99, oi (.aload_n 0)),
  (100, oi (.bipush 8)),
  (102, (.newarray .int, 0, 0, 0, 0, 103)),
  (104, (.putfield 47, 18, 12, 18, 2, 985)),
  (107, oi (.aload_n 0)),
  (108, oi (.sipush 2880)),
  (111, (.newarray .boolean, 0, 0, 0, 1, 104)),
  (113, (.putfield 50, 19, 12, 19, 2, 986)),
  (116, oi (.aload_n 0)),
  (117, oi (.bipush 48)),
  (119, (.newarray .int, 0, 0, 0, 0, 103)),
  (121, (.putfield 53, 20, 12, 20, 2, 987)),
  (124, oi (.aload_n 0)),
  (125, oi (.bipush 8)),
  (127, (.newarray .int, 0, 0, 0, 0, 103)),
  (129, (.putfield 56, 21, 12, 21, 2, 988)),
  (132, oi (.aload_n 0)),
  (133, oi (.bipush 24)),
  (135, (.newarray .int, 0, 0, 0, 0, 103)),
  (137, (.putfield 59, 22, 12, 22, 2, 989)),
  (140, oi (.aload_n 0)),
  (141, oi (.bipush 10)),
  (143, (.newarray .int, 0, 0, 0, 0, 103)),
  (145, (.putfield 62, 23, 12, 23, 2, 990)),
  (148, oi (.aload_n 0)),
  (149, oi (.bipush 10)),
  (151, (.newarray .int, 0, 0, 0, 0, 103)),
  (153, (.putfield 65, 24, 12, 24, 2, 991)),
  (156, oi (.aload_n 0)),
  (157, oi (.bipush 10)),
  (159, (.newarray .boolean, 0, 0, 0, 1, 104)),
  (161, (.putfield 68, 25, 12, 25, 2, 992)),
  (164, oi (.aload_n 0)),
  (165, oi (.bipush 40)),
  (167, (.newarray .int, 0, 0, 0, 0, 103)),
  (169, (.putfield 71, 26, 12, 26, 2, 993)),
  (172, oi (.aload_n 0)),
  (173, oi (.sipush 160)),
  (176, (.newarray .int, 0, 0, 0, 0, 103)),
  (178, (.putfield 74, 27, 12, 27, 2, 994)),
  (181, oi (.aload_n 0)),
  (182, oi (.bipush 10)),
  (184, (.newarray .int, 0, 0, 0, 0, 103)),
  (186, (.putfield 77, 28, 12, 28, 2, 995)),
  (189, oi (.aload_n 0)),
  (190, oi (.bipush 10)),
  (192, (.newarray .int, 0, 0, 0, 0, 103)),
  (194, (.putfield 80, 29, 12, 29, 2, 996)),
  (197, oi (.aload_n 0)),
  (198, oi (.bipush 44)),
  (200, (.newarray .int, 0, 0, 0, 0, 103)),
  (202, (.putfield 83, 30, 12, 30, 2, 997)),
  (205, oi (.aload_n 0)),
  (206, oi (.bipush 8)),
  (208, (.newarray .int, 0, 0, 0, 0, 103)),
  (210, (.putfield 86, 35, 12, 35, 2, 1002)),
  (213, oi (.aload_n 0)),
  (214, oi (.bipush 8)),
  (216, (.newarray .int, 0, 0, 0, 0, 103)),
  (218, (.putfield 89, 36, 12, 36, 2, 1003)),
  (221, oi (.aload_n 0)),
  (222, (.getfield 17, 3, 12, 3, 2, 970)),
  (225, oi (.iconst 0)),
  (226, oi (.bipush 30)),
  (228, oi .iastore),
  (229, oi (.aload_n 0)),
  (230, (.getfield 17, 3, 12, 3, 2, 970)),
  (233, oi (.iconst 1)),
  (234, oi (.bipush 60)),
  (236, oi .iastore),
  (237, oi (.aload_n 0)),
  (238, (.getfield 17, 3, 12, 3, 2, 970)),
  (241, oi (.iconst 2)),
  (242, oi (.iconst 2)),
  (243, oi .iastore),
  (244, oi (.aload_n 0)),
  (245, (.getfield 17, 3, 12, 3, 2, 970)),
  (248, oi (.iconst 3)),
  (249, oi (.iconst 3)),
  (250, oi .iastore),
  (251, oi (.aload_n 0)),
  (252, (.getfield 17, 3, 12, 3, 2, 970)),
  (255, oi (.iconst 4)),
  (256, oi (.iconst 5)),
  (257, oi .iastore),
  (258, oi (.aload_n 0)),
  (259, (.getfield 17, 3, 12, 3, 2, 970)),
  (262, oi (.iconst 5)),
  (263, oi (.bipush 30)),
  (265, oi .iastore),
  (266, oi (.aload_n 0)),
  (267, (.getfield 17, 3, 12, 3, 2, 970)),
  (270, oi (.bipush 6)),
  (272, oi (.iconst 2)),
  (273, oi .iastore),
  (274, oi (.aload_n 0)),
  (275, oi (.bipush 8)),
  (277, (.putfield 92, 4, 12, 4, 0, 971)),
  (280, oi (.aload_n 0)),
  (281, oi (.sipush 255)),
  (284, (.putfield 96, 6, 12, 6, 0, 973)),
  (287, oi (.iconst 0)),
  (288, oi (.istore_n 1)),
  (289, oi (.iload_n 1)),
  (290, oi (.bipush 8)),
  (292, (.if_icmp .ge 43, 0, 0, 335, 0, 0)),
  (295, oi (.aload_n 0)),
  (296, (.getfield 20, 5, 12, 5, 2, 972)),
  (299, oi (.iconst 3)),
  (300, oi (.iload_n 1)),
  (301, oi .imul),
  (302, oi (.bipush 20)),
  (304, oi .iastore),
  (305, oi (.aload_n 0)),
  (306, (.getfield 20, 5, 12, 5, 2, 972)),
  (309, oi (.iconst 3)),
  (310, oi (.iload_n 1)),
  (311, oi .imul),
  (312, oi (.iconst 1)),
  (313, oi .iadd),
  (314, oi (.bipush 40)),
  (316, oi .iastore),
  (317, oi (.aload_n 0)),
  (318, (.getfield 20, 5, 12, 5, 2, 972)),
  (321, oi (.iconst 3)),
  (322, oi (.iload_n 1)),
  (323, oi .imul),
  (324, oi (.iconst 2)),
  (325, oi .iadd),
  (326, oi (.bipush 80)),
  (328, oi .iastore),
  (329, oi (.iinc 1 1)),
  (332, (.goto (-43), 0, 0, 289, 0, 0)),
  (335, oi (.iconst 0)),
  (336, oi (.istore_n 1)),
  (337, oi (.iload_n 1)),
  (338, oi (.bipush 60)),
  (340, (.if_icmp .ge 17, 0, 0, 357, 0, 0)),
  (343, oi (.aload_n 0)),
  (344, (.getfield 23, 7, 12, 7, 2, 974)),
  (347, oi (.iload_n 1)),
  (348, oi (.bipush 40)),
  (350, oi .iastore),
  (351, oi (.iinc 1 1)),
  (354, (.goto (-17), 0, 0, 337, 0, 0)),
  (357, oi (.iconst 0)),
  (358, oi (.istore_n 1)),
  (359, oi (.iload_n 1)),
  (360, oi (.iconst 4)),
  (361, (.if_icmp .ge 25, 0, 0, 386, 0, 0)),
  (364, oi (.aload_n 0)),
  (365, (.getfield 32, 12, 12, 12, 2, 979)),
  (368, oi (.iload_n 1)),
  (369, oi (.bipush 10)),
  (371, oi .iastore),
  (372, oi (.aload_n 0)),
  (373, (.getfield 35, 13, 12, 13, 2, 980)),
  (376, oi (.iload_n 1)),
  (377, oi (.bipush 10)),
  (379, oi .iastore),
  (380, oi (.iinc 1 1)),
  (383, (.goto (-24), 0, 0, 359, 0, 0)),
  (386, oi (.iconst 0)),
  (387, oi (.istore_n 1)),
  (388, oi (.iload_n 1)),
  (389, oi (.bipush 6)),
  (391, (.if_icmp .ge 16, 0, 0, 407, 0, 0)),
  (394, oi (.aload_n 0)),
  (395, (.getfield 38, 14, 12, 14, 2, 981)),
  (398, oi (.iload_n 1)),
  (399, oi (.iconst 5)),
  (400, oi .iastore),
  (401, oi (.iinc 1 1)),
  (404, (.goto (-16), 0, 0, 388, 0, 0)),
  (407, oi (.iconst 0)),
  (408, oi (.istore_n 1)),
  (409, oi (.iload_n 1)),
  (410, oi (.bipush 10)),
  (412, (.if_icmp .ge 37, 0, 0, 449, 0, 0)),
  (415, oi (.aload_n 0)),
  (416, (.getfield 62, 23, 12, 23, 2, 990)),
  (419, oi (.iload_n 1)),
  (420, oi (.iload_n 1)),
  (421, (.ifCond .ne 8, 0, 0, 429, 0, 0)),
  (424, oi (.bipush (-6))),
  (426, (.goto 8, 0, 0, 434, 0, 0)),
  (429, oi (.iload_n 1)),
  (430, oi (.iconst 1)),
  (431, oi .isub),
  (432, oi (.iconst 2)),
  (433, oi .idiv),
  (434, oi .iastore),
  (435, oi (.aload_n 0)),
  (436, (.getfield 65, 24, 12, 24, 2, 991)),
  (439, oi (.iload_n 1)),
  (440, oi (.bipush 10)),
  (442, oi .iastore),
  (443, oi (.iinc 1 1)),
  (446, (.goto (-37), 0, 0, 409, 0, 0)),
  (449, oi .return_)]
def ccd : Nat → List (Nat × OP)
  | 0 => cd0
  | 1 => cd1
  | 2 => cd2
  | 3 => cd3
  | 4 => cd4
  | 5 => cd5
  | 6 => cd6
  | 7 => cd7
  | 8 => cd8
  | 9 => cd9
  | 10 => cd10
  | 11 => cd11
  | _ => cd12
def cxC : Nat → MX
  | 0 => (yX0_init, cX0_init, 1, none)
  | 1 => (yX1_init, cX1_init, 1, none)
  | 2 => (yX2_init, cX2_init, 2, none)
  | 3 => (yX3_init, cX3_init, 1, none)
  | 4 => (yX4_init, cX4_init, 1, none)
  | 5 => (yX5_init, cX5_init, 1, none)
  | 6 => (yX6_init, cX6_init, 1, none)
  | 7 => (yX7_init, cX7_init, 1, none)
  | 8 => (yX8_init, cX8_init, 1, none)
  | 9 => (yX9_init, cX9_init, 1, none)
  | 10 => (yX10_init, cX10_init, 1, none)
  | 11 => (yX11_init, cX11_init, 1, none)
  | _ => (yX12_init, cX12_init, 2, none)
def cfind : List (Nat × OP) → Nat → Option OP
  | [], _ => none
  | (q, x) :: r, pc => match Nat.beq q pc with
    | true => some x
    | false => cfind r pc
def isRefTy : Option FieldType → Bool
  | some (.array _) => true
  | some (.object _) => true
  | _ => false
def okC (cx : MX) (pc : Nat) (ins : Instr) (z : Int) (a b t pos : Nat) : Bool := match ins with
  | .return_ => decide (decode cx.2.1 pc = .ok (.return_, 1))
  | .new i => decide (decode cx.2.1 pc = .ok (.new i, 3)) && (match gt classes a with
    | some (C, _, N) => okL pos (.classLink cx.1.cls i C) && okL b (.instantiable C N) && okL t (.initialized C)
    | none => false)
  | .newarray ty => decide (decode cx.2.1 pc = .ok (.newarray ty, 2)) && decide (ty = atyp t) && decide (t < 3) && okL pos (.arrayClass (newarray.typeOf ty))
  | .invokespecial i => decide (decode cx.2.1 pc = .ok (.invokespecial i, 3)) && (match Nat.beq a 999 with
    | true => okL pos (.methodLink cx.1.cls i objectInit)
    | false => okL pos (.methodLink cx.1.cls i (cxC a).1) && decide (a < 13))
  | .if_icmp c off => decide (decode cx.2.1 pc = .ok (.if_icmp c off, 3)) && decide ((pc : Int) + off = (b : Int))
  | .ifCond c off => decide (decode cx.2.1 pc = .ok (.ifCond c off, 3)) && decide ((pc : Int) + off = (b : Int))
  | .putfield i => match Nat.beq t 2 with
    | true => decide (decode cx.2.1 pc = .ok (.putfield i, 3)) && (match gt classes a with
      | some (_, T, N) => decide (b < N) && okL pos (.fieldLink cx.1.cls i (T b).1 (T b).2.1 (T b).2.2.1) && decide ((T b).2.2.2 = true) && decide (cx.1.name = "<init>") && decide ((T b).1 = cx.1.cls) && isRefTy (parseFieldDescriptor (T b).2.2.1)
      | none => false)
    | false => decide (decode cx.2.1 pc = .ok (ins, iln ins)) && okX cx pc ins z a b t pos
  | _ => decide (decode cx.2.1 pc = .ok (ins, iln ins)) && okX cx pc ins z a b t pos
def okCs (cx : MX) : List (Nat × OP) → Bool
  | [] => true
  | (pc, ins, z, a, b, t, pos) :: r => okC cx pc ins z a b t pos && okCs cx r
theorem okc0 : okCs (cxC 0) cd0 = true := by decide +kernel
theorem okc1 : okCs (cxC 1) cd1 = true := by decide +kernel
theorem okc2 : okCs (cxC 2) cd2 = true := by decide +kernel
theorem okc3 : okCs (cxC 3) cd3 = true := by decide +kernel
theorem okc4 : okCs (cxC 4) cd4 = true := by decide +kernel
theorem okc5 : okCs (cxC 5) cd5 = true := by decide +kernel
theorem okc6 : okCs (cxC 6) cd6 = true := by decide +kernel
theorem okc7 : okCs (cxC 7) cd7 = true := by decide +kernel
theorem okc8 : okCs (cxC 8) cd8 = true := by decide +kernel
theorem okc9 : okCs (cxC 9) cd9 = true := by decide +kernel
theorem okc10 : okCs (cxC 10) cd10 = true := by decide +kernel
theorem okc11 : okCs (cxC 11) cd11 = true := by decide +kernel
theorem okc12 : okCs (cxC 12) cd12 = true := by decide +kernel
theorem okc_all : ∀ mi, mi < 13 → okCs (cxC mi) (ccd mi) = true := by
  intro mi h
  match mi, h with
  | 0, _ => exact okc0
  | 1, _ => exact okc1
  | 2, _ => exact okc2
  | 3, _ => exact okc3
  | 4, _ => exact okc4
  | 5, _ => exact okc5
  | 6, _ => exact okc6
  | 7, _ => exact okc7
  | 8, _ => exact okc8
  | 9, _ => exact okc9
  | 10, _ => exact okc10
  | 11, _ => exact okc11
  | 12, _ => exact okc12
  | n + 13, h => omega
theorem okCs_find {cx : MX} : ∀ (l : List (Nat × OP)) {pc : Nat} {ins : Instr} {z : Int} {a b t pos : Nat}, okCs cx l = true → cfind l pc = some (ins, z, a, b, t, pos) → okC cx pc ins z a b t pos = true
  | [], _, _, _, _, _, _, _, _, h => by cases h
  | (q, i2, z2, a2, b2, t2, p2) :: r, pc, ins, z, a, b, t, pos, ho, h => by
    simp only [okCs, Bool.and_eq_true] at ho
    simp only [cfind] at h
    split at h
    · rename_i hq
      have := Nat.eq_of_beq_eq_true hq
      subst this
      cases h
      exact ho.1
    · exact okCs_find r ho.2 h
def mkI : Nat → Nat × Nat × Nat
  | 0 => (47, 238, 237)
  | 1 => (43, 76, 75)
  | 2 => (44, 148, 147)
  | 3 => (42, 70, 69)
  | 4 => (51, 346, 345)
  | 5 => (50, 336, 335)
  | 6 => (52, 356, 355)
  | 7 => (49, 300, 299)
  | 8 => (45, 173, 172)
  | 9 => (46, 205, 204)
  | 10 => (48, 281, 280)
  | 11 => (41, 62, 61)
  | _ => (53, 965, 964)
set_option maxRecDepth 100000 in
theorem mkI_ok : ∀ mi, mi < 13 → MokB (cxC mi) 0 ∧ Cond.instanceMethod (cxC mi).1 ∈ lwg ∧ (cxC mi).1.name = "<init>" ∧ (cxC mi).2.2.2 = none ∧ 8 + ((cxC mi).2.2.1 + 11) ≤ 64 ∧ 1 ≤ (cxC mi).2.2.1 := by
  intro mi h
  have hb : mokB (cxC mi) 0 (mkI mi).1 = true ∧ okL (mkI mi).2.2 (.instanceMethod (cxC mi).1) = true ∧ (cxC mi).1.name = "<init>" ∧ (cxC mi).2.2.2 = none ∧ 8 + ((cxC mi).2.2.1 + 11) ≤ 64 ∧ 1 ≤ (cxC mi).2.2.1 := by
    revert mi
    decide +kernel
  have hc : lw_tbl[(mkI mi).2.1]? = some (.code (cxC mi).1 (cxC mi).2.1 (cxC mi).2.2.1 (cxC mi).2.2.2) := by
    match mi, h with
    | 0, _ => rfl
    | 1, _ => rfl
    | 2, _ => rfl
    | 3, _ => rfl
    | 4, _ => rfl
    | 5, _ => rfl
    | 6, _ => rfl
    | 7, _ => rfl
    | 8, _ => rfl
    | 9, _ => rfl
    | 10, _ => rfl
    | 11, _ => rfl
    | 12, _ => rfl
    | n + 13, h => omega
  exact ⟨mokB_of hc hb.1, okL_mem hb.2.1, hb.2.2⟩
def cmpb : Jvm.ClassFile.Cond → Int → Int → Bool
  | .eq, x, y => decide (x = y)
  | .ne, x, y => decide (¬ x = y)
  | .lt, x, y => decide (x < y)
  | .ge, x, y => decide (y ≤ x)
  | .gt, x, y => decide (y < x)
  | .le, x, y => decide (x ≤ y)
def r32b (x : Int) : Bool := decide (R32 x)
def csb : List (Int × Int) → Bool
  | [] => true
  | (i, n) :: r => decide (0 ≤ i) && decide (i < n) && csb r
theorem csb_ok : ∀ (l : List (Int × Int)), csb l = true → CS l
  | [], _ => trivial
  | (i, n) :: r, h => by
    simp only [csb, Bool.and_eq_true, decide_eq_true_eq] at h
    exact ⟨h.1, csb_ok r h.2⟩
def crun : Nat → Nat → Nat → Nat → List AV → List AV → List SH → MM → ML → Option (List SH × MM × ML)
  | 0, _, _, _, _, _, _, _, _ => none
  | f + 1, d, mi, pc, ls, st, S, μ, ν => match cfind (ccd mi) pc with
    | none => none
    | some (ins, z, a, b, t, _) => match ins with
      | .return_ => match st with
        | [] => some (S, μ, ν)
        | _ => none
      | .new _ => match gt classes a with
        | some (_, T, N) => crun f d mi (pc + 3) ls (aR S.length :: st) (S ++ [.inr (a, dflT T N)]) (clr μ S.length) (clrL ν S.length)
        | none => none
      | .newarray _ => match st with
        | .inl n :: r => match decide (0 ≤ n) && decide (n < 10000) with
          | true => crun f d mi (pc + 2) ls (aR S.length :: r) (S ++ [.inl (t, n.toNat)]) (clr μ S.length) (clrL ν S.length)
          | false => none
        | _ => none
      | .invokespecial _ => match st with
        | .inr (.inr (.inl x)) :: r => match Nat.ble (2 * r.length) 8 with
          | true => match d with
            | 0 => none
            | d' + 1 => match Nat.beq a 999 with
              | true => crun f (d' + 1) mi (pc + 3) ls r S μ ν
              | false => match crun f d' a 0 (entL [aR x] (cxC a).2.2.1) [] S μ ν with
                | some (S1, μ1, ν1) => crun f (d' + 1) mi (pc + 3) ls r S1 μ1 ν1
                | none => none
          | false => none
        | _ => none
      | .if_icmp c _ => match st with
        | .inl y :: .inl x :: r => match r32b x && r32b y with
          | true => crun f d mi (if cmpb c x y = true then b else pc + 3) ls r S μ ν
          | false => none
        | _ => none
      | .ifCond c _ => match st with
        | .inl x :: r => match r32b x with
          | true => crun f d mi (if cmpb c x 0 = true then b else pc + 3) ls r S μ ν
          | false => none
        | _ => none
      | .putfield i => match Nat.beq t 2 with
        | true => match st with
          | .inr (.inr (.inl y)) :: .inr (.inr (.inl x)) :: r => match gt S x with
            | some (.inr (ci, fs)) => match Nat.beq ci a && Nat.blt b fs.length with
              | true => crun f d mi (pc + 3) ls r (S.set x (.inr (a, fs.set b (some (aR y))))) μ ν
              | false => none
            | _ => none
          | _ => none
        | false => match sstep (.putfield i) z a b t ls st S μ ν [] with
          | some (ls', st', μ', ν', cs) => match csb cs with
            | true => crun f d mi (npc (.putfield i) b pc) ls' st' S μ' ν'
            | false => none
          | none => none
      | i => match sstep i z a b t ls st S μ ν [] with
        | some (ls', st', μ', ν', cs) => match csb cs with
          | true => crun f d mi (npc i b pc) ls' st' S μ' ν'
          | false => none
        | none => none
def PostEq (S1 : List SH) (μ1 : MM) (ν1 : ML) : Option AV → List SH → MM → ML → Prop := fun r S μ ν => r = none ∧ S = S1 ∧ μ = μ1 ∧ ν = ν1
theorem SmallS.push {S : List SH} {sh : SH} (h : SmallS S) (hs : ∀ t n, sh = .inl (t, n) → n < 2147483648) : SmallS (S ++ [sh]) := by
  intro x t n hx
  by_cases hl : x < S.length
  · rw [List.getElem?_append_left hl] at hx
    exact h x t n hx
  · rw [List.getElem?_append_right (by omega)] at hx
    have := List.mem_of_getElem? hx
    exact hs t n (List.mem_singleton.mp this).symm
theorem SmallS.set {S : List SH} {x ci : Nat} {fs : List (Option AV)} (h : SmallS S) : SmallS (S.set x (.inr (ci, fs))) := by
  intro y t n hy
  by_cases hxy : x = y
  · subst hxy
    by_cases hl : x < S.length
    · rw [List.getElem?_set_self hl] at hy
      cases hy
    · rw [List.getElem?_eq_none (by simp; omega)] at hy
      cases hy
  · rw [List.getElem?_set_ne hxy] at hy
    exact h y t n hy
set_option maxHeartbeats 4000000 in
theorem crun_ok (κ : KX) : ∀ (f d mi pc : Nat) (ls st : List AV) (S S1 : List SH) (μ μ1 : MM) (ν ν1 : ML), mi < 13 → crun f d mi pc ls st S μ ν = some (S1, μ1, ν1) → S.length ≤ S1.length ∧ szS S ≤ szS S1 ∧ ∀ cells slots mc ms : Nat, cells + (S1.length - S.length) = mc → slots + (szS S1 - szS S) = ms → AW κ (cxC mi) (rmv d mc ms) (mq κ (PostEq S1 μ1 ν1) mc ms) cells slots S pc ls st μ ν := by
  intro f
  induction f with
  | zero => intro d mi pc ls st S S1 μ μ1 ν ν1 _ h; cases h
  | succ f ih =>
    intro d mi pc ls st S S1 μ μ1 ν ν1 hmi h
    simp only [crun] at h
    split at h
    · cases h
    · rename_i ins z a b t pos hf
      have hok := okCs_find (ccd mi) (okc_all mi hmi) hf
      split at h
      · -- return
        split at h
        · cases h
          refine ⟨Nat.le_refl _, Nat.le_refl _, fun cells slots mc ms h1 h2 => ?_⟩
          exact aw_vret (of_decide_eq_true hok) (mkI_ok mi hmi).2.2.2.1 (by omega) (by omega) ⟨rfl, rfl, rfl, rfl⟩
        · cases h
      · -- new
        rename_i i
        simp only [okC, Bool.and_eq_true] at hok
        split at h
        · rename_i C T N hg
          rw [hg] at hok
          simp only [Bool.and_eq_true] at hok
          rw [gt_eq] at hg
          obtain ⟨h1, h2, h3⟩ := ih d mi _ _ _ _ _ _ _ _ _ hmi h
          have hz : szS (S ++ [Sum.inr (a, dflT T N)]) = szS S + N := by rw [szS_app]; simp [shSz, dflT]
          rw [hz] at h2
          rw [List.length_append, List.length_singleton] at h1
          refine ⟨by omega, by omega, fun cells slots mc ms hc hs => ?_⟩
          intro hSm p l e s m args below meth c F
          refine ss_new F (of_decide_eq_true hok.1) hg (okL_mem hok.2.1.1) (okL_mem hok.2.1.2) (okL_mem hok.2.2) (by show cells + 1 ≤ mc; omega) (by show slots + N ≤ ms; omega) ?_
          exact h3 (cells + 1) (slots + N) mc ms (by rw [List.length_append, List.length_singleton]; omega) (by rw [hz]; omega) (hSm.push (fun t n he => by cases he)) p l e s m args below meth c F
        · cases h
      · -- newarray
        rename_i ty
        simp only [okC, Bool.and_eq_true, decide_eq_true_eq] at hok
        obtain ⟨⟨⟨ho1, ho2⟩, ho3⟩, ho4⟩ := hok
        subst ho2
        split at h
        · rename_i n r
          split at h
          · rename_i hn
            simp only [Bool.and_eq_true, decide_eq_true_eq] at hn
            obtain ⟨h1, h2, h3⟩ := ih d mi _ _ _ _ _ _ _ _ _ hmi h
            have hz : szS (S ++ [Sum.inl (t, n.toNat)]) = szS S + n.toNat := by rw [szS_app]; simp [shSz]
            rw [hz] at h2
            rw [List.length_append, List.length_singleton] at h1
            refine ⟨by omega, by omega, fun cells slots mc ms hc hs => ?_⟩
            intro hSm p l e s m args below meth c F
            refine ss_newa F ho3 ho1 (okL_mem ho4) hn.1 hn.2 (by show cells + 1 ≤ mc; omega) (by show slots + n.toNat ≤ ms; omega) ?_
            exact h3 (cells + 1) (slots + n.toNat) mc ms (by rw [List.length_append, List.length_singleton]; omega) (by rw [hz]; omega) (hSm.push (fun t n he => by cases he; omega)) p l e s m args below meth c F
          · cases h
        · cases h
      · -- invokespecial
        rename_i i
        simp only [okC, Bool.and_eq_true, decide_eq_true_eq] at hok
        split at h
        · rename_i x r
          split at h
          · rename_i hr
            have hr := Nat.le_of_ble_eq_true hr
            split at h
            · cases h
            · rename_i d'
              split at h
              · rename_i ha
                rw [ha] at hok
                obtain ⟨h1, h2, h3⟩ := ih _ mi _ _ _ _ _ _ _ _ _ hmi h
                refine ⟨h1, h2, fun cells slots mc ms hc hs => ?_⟩
                intro hSm p l e s m args below meth c F
                refine ss_objInit F hok.1 (okL_mem hok.2) (okL_mem (pos := 64) (by decide +kernel)) (okL_mem (pos := 65) (by decide +kernel)) hr (by show 1 ≤ d' + 1; omega) (by show 20 ≤ 64 * (d' + 1); omega) ?_
                exact h3 cells slots mc ms hc hs hSm p l e s m args below meth c F
              · rename_i ha
                rw [ha] at hok
                simp only [Bool.and_eq_true, decide_eq_true_eq] at hok
                obtain ⟨hk1, hk2, hk3, hk4, hk5, hk6⟩ := mkI_ok a hok.2.2
                split at h
                · rename_i S2 μ2 ν2 hcall
                  obtain ⟨g1, g2, g3⟩ := ih _ a _ _ _ _ _ _ _ _ _ hok.2.2 hcall
                  obtain ⟨h1, h2, h3⟩ := ih _ mi _ _ _ _ _ _ _ _ _ hmi h
                  refine ⟨by omega, by omega, fun cells slots mc ms hc hs => ?_⟩
                  intro hSm p l e s m args below meth c F
                  have hM : AMet κ d' (cxC a) [aR x] S μ ν (PostEq S2 μ2 ν2) (S2.length - S.length) (szS S2 - szS S) := AMet.of hk1 (by simp [flatA]; exact hk6) rfl (g3 0 0 _ _ (by omega) (by omega))
                  refine ss_callI F hSm hM hk1 hk2 hk3 hk4 hok.1 (okL_mem hok.2.1) hr ⟨by show d' + 1 ≤ d' + 1; omega, by show 8 + ((cxC a).2.2.1 + 11) + 64 * d' ≤ 64 * (d' + 1); omega⟩ ⟨by show cells + _ ≤ mc; omega, by show slots + _ ≤ ms; omega⟩ ?_
                  intro r2 S3 μ3 ν3 hp hsm
                  obtain ⟨rfl, rfl, rfl, rfl⟩ := hp
                  exact h3 _ _ mc ms (by omega) (by omega) hsm p l e s m args below meth c F
                · cases h
          · cases h
        · cases h
      · -- if_icmp
        rename_i cc off
        simp only [okC, Bool.and_eq_true, decide_eq_true_eq] at hok
        split at h
        · rename_i y x r
          split at h
          · rename_i hr
            simp only [r32b, Bool.and_eq_true, decide_eq_true_eq] at hr
            obtain ⟨h1, h2, h3⟩ := ih d mi _ _ _ _ _ _ _ _ _ hmi h
            refine ⟨h1, h2, fun cells slots mc ms hc hs => ?_⟩
            have h4 := h3 cells slots mc ms hc hs
            cases cc
            · exact aw_icmp_eq hok.1 hok.2 hr.1 hr.2 (fun q => by simpa [cmpb, q] using h4) (fun q => by simpa [cmpb, q] using h4)
            · exact aw_icmp_ne hok.1 hok.2 hr.1 hr.2 (fun q => by simpa [cmpb, q] using h4) (fun q => by simpa [cmpb, q] using h4)
            · exact aw_icmp_lt hok.1 hok.2 hr.1 hr.2 (fun q => by simpa [cmpb, q] using h4) (fun q => by simp only [cmpb, q, decide_false, Bool.false_eq_true, if_false] at h4; exact h4)
            · exact aw_icmp_ge hok.1 hok.2 hr.1 hr.2 (fun q => by simpa [cmpb, q] using h4) (fun q => by simp only [cmpb, q, decide_false, Bool.false_eq_true, if_false] at h4; exact h4)
            · exact aw_icmp_gt hok.1 hok.2 hr.1 hr.2 (fun q => by simpa [cmpb, q] using h4) (fun q => by simp only [cmpb, q, decide_false, Bool.false_eq_true, if_false] at h4; exact h4)
            · exact aw_icmp_le hok.1 hok.2 hr.1 hr.2 (fun q => by simpa [cmpb, q] using h4) (fun q => by simp only [cmpb, q, decide_false, Bool.false_eq_true, if_false] at h4; exact h4)
          · cases h
        · cases h
      · -- ifCond
        rename_i cc off
        simp only [okC, Bool.and_eq_true, decide_eq_true_eq] at hok
        split at h
        · rename_i x r
          split at h
          · rename_i hr
            simp only [r32b, decide_eq_true_eq] at hr
            obtain ⟨h1, h2, h3⟩ := ih d mi _ _ _ _ _ _ _ _ _ hmi h
            refine ⟨h1, h2, fun cells slots mc ms hc hs => ?_⟩
            have h4 := h3 cells slots mc ms hc hs
            cases cc
            · exact aw_if_eq hok.1 hok.2 hr (fun q => by simpa [cmpb, q] using h4) (fun q => by simpa [cmpb, q] using h4)
            · exact aw_if_ne hok.1 hok.2 hr (fun q => by simpa [cmpb, q] using h4) (fun q => by simpa [cmpb, q] using h4)
            · exact aw_if_lt hok.1 hok.2 hr (fun q => by simpa [cmpb, q] using h4) (fun q => by simp only [cmpb, q, decide_false, Bool.false_eq_true, if_false] at h4; exact h4)
            · exact aw_if_ge hok.1 hok.2 hr (fun q => by simpa [cmpb, q] using h4) (fun q => by simp only [cmpb, q, decide_false, Bool.false_eq_true, if_false] at h4; exact h4)
            · exact aw_if_gt hok.1 hok.2 hr (fun q => by simpa [cmpb, q] using h4) (fun q => by simp only [cmpb, q, decide_false, Bool.false_eq_true, if_false] at h4; exact h4)
            · exact aw_if_le hok.1 hok.2 hr (fun q => by simpa [cmpb, q] using h4) (fun q => by simp only [cmpb, q, decide_false, Bool.false_eq_true, if_false] at h4; exact h4)
          · cases h
        · cases h
      · -- putfield
        rename_i i
        simp only [okC] at hok
        split at h
        · rename_i ht
          rw [ht] at hok
          simp only [Bool.and_eq_true, decide_eq_true_eq] at hok
          split at h
          · rename_i y x r
            split at h
            · rename_i ci fs hsh
              rw [gt_eq] at hsh
              split at h
              · rename_i hb
                simp only [Bool.and_eq_true, Nat.blt_eq] at hb
                have hci := Nat.eq_of_beq_eq_true hb.1
                subst hci
                cases hg : gt classes ci with
                | none => rw [hg] at hok; cases hok.2
                | some q =>
                  obtain ⟨C, T, N⟩ := q
                  rw [hg] at hok
                  simp only [Bool.and_eq_true, decide_eq_true_eq] at hok
                  rw [gt_eq] at hg
                  obtain ⟨ho1, ⟨⟨⟨⟨ho2, ho3⟩, ho4⟩, ho5⟩, ho6⟩, ho7⟩ := hok
                  obtain ⟨h1, h2, h3⟩ := ih d mi _ _ _ _ _ _ _ _ _ hmi h
                  rw [List.length_set] at h1
                  have hz : szS (S.set x (.inr (ci, fs.set b (some (aR y))))) = szS S := szS_set S x _ _ hsh (by simp [shSz])
                  rw [hz] at h2
                  refine ⟨h1, h2, fun cells slots mc ms hc hs => ?_⟩
                  intro hSm p l e s m args below meth c F
                  cases hty : parseFieldDescriptor (T b).2.2.1 with
                  | none => rw [hty] at ho7; cases ho7
                  | some ty =>
                    rw [hty] at ho7
                    have hnf : narrow ty (cvA κ (aR y)) = cvA κ (aR y) ∧ fits ty (cvA κ (aR y)) = true := by
                      cases ty <;> first | exact ⟨rfl, rfl⟩ | cases ho7
                    refine ss_putR F ho1 hg ho2 (okL_mem ho3) ho4 ho5 ho6 hty hnf.1 hnf.2 hsh hb.2 ?_
                    exact h3 cells slots mc ms (by rw [List.length_set]; exact hc) (by rw [hz]; exact hs) hSm.set p l e s m args below meth c F
              · cases h
            · cases h
          · cases h
        · rename_i ht
          rw [ht] at hok
          simp only [Bool.and_eq_true, decide_eq_true_eq] at hok
          split at h
          · rename_i ls2 st2 μ2 ν2 cs hs
            split at h
            · rename_i hcs
              obtain ⟨h1, h2, h3⟩ := ih d mi _ _ _ _ _ _ _ _ _ hmi h
              refine ⟨h1, h2, fun cells slots mc ms hc hsl => ?_⟩
              intro hSm p l e s m args below meth c F
              exact (sstep_ok F hSm hok.1 hok.2 hs (csb_ok cs hcs) (h3 cells slots mc ms hc hsl hSm p l e s m args below meth c F)).2
            · cases h
          · cases h
      · -- the rest
        rename_i h1 h2 h3 h4 h5 h6 h7
        have hok2 : decode (cxC mi).2.1 pc = .ok (ins, iln ins) ∧ okX (cxC mi) pc ins z a b t pos = true := by
          cases ins
          case return_ => exact absurd rfl h1
          case new i => exact absurd rfl (h2 i)
          case newarray i => exact absurd rfl (h3 i)
          case invokespecial i => exact absurd rfl (h4 i)
          case if_icmp i j => exact absurd rfl (h5 i j)
          case ifCond i j => exact absurd rfl (h6 i j)
          case putfield i => exact absurd rfl (h7 i)
          all_goals (simp only [okC, Bool.and_eq_true, decide_eq_true_eq] at hok; exact hok)
        split at h
        · rename_i ls2 st2 μ2 ν2 cs hs
          split at h
          · rename_i hcs
            obtain ⟨h1, h2, h3⟩ := ih d mi _ _ _ _ _ _ _ _ _ hmi h
            refine ⟨h1, h2, fun cells slots mc ms hc hsl => ?_⟩
            intro hSm p l e s m args below meth c F
            exact (sstep_ok F hSm hok2.1 hok2.2 hs (csb_ok cs hcs) (h3 cells slots mc ms hc hsl hSm p l e s m args below meth c F)).2
          · cases h
        · cases h
end
section
/-! ===== the heap behind the two constructors ===== -/
abbrev muZ : MM := fun _ _ => 0
abbrev nuZ : ML := fun _ _ => 0
def SX : List SH := [.inr (11, [some (aR 1), some (aR 2), some (aR 14), some (aR 17), some (aR 23), some (aR 25), some (aR 33), some (aR 38), some (aR 47), some (aR 49), some (aR 51), none, none]),
  .inl (0, 7),
  .inr (3, [some (aR 3), some (aR 4), some (aR 5), some (aR 6), some (aR 7), some (aR 8), some (aR 9), none, none]),
  .inl (0, 160),
  .inl (0, 160),
  .inl (1, 10),
  .inl (0, 40),
  .inl (0, 10),
  .inl (0, 10),
  .inr (1, [some (aR 10), some (aR 11), some (aR 12), some (aR 13), none, none, none, none]),
  .inl (0, 44),
  .inl (0, 16),
  .inl (0, 4),
  .inl (0, 4),
  .inr (2, [some (aR 15), some (aR 16), none, none]),
  .inl (0, 60),
  .inl (0, 24),
  .inr (8, [some (aR 18), none, some (aR 19), some (aR 20), some (aR 21), some (aR 22), none, none]),
  .inl (0, 40),
  .inl (0, 6),
  .inl (1, 6),
  .inl (0, 6),
  .inl (0, 6),
  .inr (9, [some (aR 24), none, none, none, none, none, none]),
  .inl (0, 8),
  .inr (0, [some (aR 26), some (aR 28), some (aR 29), some (aR 30), some (aR 31), some (aR 32), none, none, none, none, none]),
  .inr (9, [some (aR 27), none, none, none, none, none, none]),
  .inl (0, 8),
  .inl (0, 60),
  .inl (0, 8),
  .inl (0, 8),
  .inl (0, 8),
  .inl (0, 8),
  .inr (10, [some (aR 34), some (aR 35), some (aR 36), some (aR 37)]),
  .inl (0, 4),
  .inl (0, 4),
  .inl (0, 6),
  .inl (0, 24),
  .inr (7, [some (aR 39), some (aR 40), some (aR 41), some (aR 42), some (aR 43), none, some (aR 44), some (aR 45), some (aR 46)]),
  .inl (0, 12),
  .inl (0, 12),
  .inl (0, 12),
  .inl (0, 12),
  .inl (0, 12),
  .inl (0, 8),
  .inl (2, 48),
  .inl (0, 48),
  .inr (5, [some (aR 48)]),
  .inl (0, 8),
  .inr (4, [some (aR 50)]),
  .inl (0, 24),
  .inr (6, [some (aR 52), some (aR 53), some (aR 54)]),
  .inl (0, 10),
  .inl (0, 10),
  .inl (1, 10)]
def S0 : List SH := [.inr (11, [some (aR 1), some (aR 2), some (aR 14), some (aR 17), some (aR 23), some (aR 25), some (aR 33), some (aR 38), some (aR 47), some (aR 49), some (aR 51), none, none]),
  .inl (0, 7),
  .inr (3, [some (aR 3), some (aR 4), some (aR 5), some (aR 6), some (aR 7), some (aR 8), some (aR 9), none, none]),
  .inl (0, 160),
  .inl (0, 160),
  .inl (1, 10),
  .inl (0, 40),
  .inl (0, 10),
  .inl (0, 10),
  .inr (1, [some (aR 10), some (aR 11), some (aR 12), some (aR 13), none, none, none, none]),
  .inl (0, 44),
  .inl (0, 16),
  .inl (0, 4),
  .inl (0, 4),
  .inr (2, [some (aR 15), some (aR 16), none, none]),
  .inl (0, 60),
  .inl (0, 24),
  .inr (8, [some (aR 18), none, some (aR 19), some (aR 20), some (aR 21), some (aR 22), none, none]),
  .inl (0, 40),
  .inl (0, 6),
  .inl (1, 6),
  .inl (0, 6),
  .inl (0, 6),
  .inr (9, [some (aR 24), none, none, none, none, none, none]),
  .inl (0, 8),
  .inr (0, [some (aR 26), some (aR 28), some (aR 29), some (aR 30), some (aR 31), some (aR 32), none, none, none, none, none]),
  .inr (9, [some (aR 27), none, none, none, none, none, none]),
  .inl (0, 8),
  .inl (0, 60),
  .inl (0, 8),
  .inl (0, 8),
  .inl (0, 8),
  .inl (0, 8),
  .inr (10, [some (aR 34), some (aR 35), some (aR 36), some (aR 37)]),
  .inl (0, 4),
  .inl (0, 4),
  .inl (0, 6),
  .inl (0, 24),
  .inr (7, [some (aR 39), some (aR 40), some (aR 41), some (aR 42), some (aR 43), none, some (aR 44), some (aR 45), some (aR 46)]),
  .inl (0, 12),
  .inl (0, 12),
  .inl (0, 12),
  .inl (0, 12),
  .inl (0, 12),
  .inl (0, 8),
  .inl (2, 48),
  .inl (0, 48),
  .inr (5, [some (aR 48)]),
  .inl (0, 8),
  .inr (4, [some (aR 50)]),
  .inl (0, 24),
  .inr (6, [some (aR 52), some (aR 53), some (aR 54)]),
  .inl (0, 10),
  .inl (0, 10),
  .inl (1, 10),
  .inr (12, [none, some (aR 56), some (aR 57), some (aR 58), none, some (aR 59), none, some (aR 60), none, some (aR 61), none, some (aR 62), some (aR 63), some (aR 64), some (aR 65), some (aR 66), none, some (aR 67), some (aR 68), some (aR 69), some (aR 70), some (aR 71), some (aR 72), some (aR 73), some (aR 74), some (aR 75), some (aR 76), some (aR 77), some (aR 78), some (aR 79), some (aR 80), none, none, none, none, some (aR 81), some (aR 82)]),
  .inl (0, 160),
  .inl (1, 10),
  .inl (0, 7),
  .inl (0, 24),
  .inl (0, 60),
  .inl (0, 40),
  .inl (0, 40),
  .inl (0, 4),
  .inl (0, 4),
  .inl (0, 6),
  .inl (0, 24),
  .inl (0, 60),
  .inl (0, 8),
  .inl (1, 2880),
  .inl (0, 48),
  .inl (0, 8),
  .inl (0, 24),
  .inl (0, 10),
  .inl (0, 10),
  .inl (1, 10),
  .inl (0, 40),
  .inl (0, 160),
  .inl (0, 10),
  .inl (0, 10),
  .inl (0, 44),
  .inl (0, 8),
  .inl (0, 8)]
def run1 : Option (List SH × MM × ML) := crun 3000 5 11 0 [aR 0] [] [.inr (11, dflT TX11 13)] (clr muZ 0) (clrL nuZ 0)
def mu1 : MM := match run1 with
  | some (_, μ, _) => μ
  | none => muZ
def nu1 : ML := match run1 with
  | some (_, _, ν) => ν
  | none => nuZ
def run2 : Option (List SH × MM × ML) := crun 5000 5 12 0 [aR 55, aU] [] (SX ++ [.inr (12, dflT TX12 37)]) (clr mu1 55) (clrL nu1 55)
def mu0 : MM := match run2 with
  | some (_, μ, _) => μ
  | none => muZ
def nu0 : ML := match run2 with
  | some (_, _, ν) => ν
  | none => nuZ
def foEq (a b : Option AV) : Bool := decide (a = b)
def lEq {α : Type} (eq : α → α → Bool) : List α → List α → Bool
  | [], [] => true
  | a :: r, b :: t => eq a b && lEq eq r t
  | _, _ => false
theorem lEq_ok {α : Type} {eq : α → α → Bool} (h : ∀ a b, eq a b = true → a = b) : ∀ l t : List α, lEq eq l t = true → l = t
  | [], [], _ => rfl
  | a :: r, b :: t, q => by
    simp only [lEq, Bool.and_eq_true] at q
    rw [h a b q.1, lEq_ok h r t q.2]
  | [], b :: t, q => by cases q
  | a :: r, [], q => by cases q
def shEq : SH → SH → Bool
  | .inl (a, b), .inl (c, d) => Nat.beq a c && Nat.beq b d
  | .inr (a, b), .inr (c, d) => Nat.beq a c && lEq foEq b d
  | _, _ => false
theorem shEq_ok : ∀ a b : SH, shEq a b = true → a = b
  | .inl (a, b), .inl (c, d), q => by
    simp only [shEq, Bool.and_eq_true] at q
    rw [Nat.eq_of_beq_eq_true q.1, Nat.eq_of_beq_eq_true q.2]
  | .inr (a, b), .inr (c, d), q => by
    simp only [shEq, Bool.and_eq_true] at q
    rw [Nat.eq_of_beq_eq_true q.1, lEq_ok (fun x y h => of_decide_eq_true h) b d q.2]
  | .inl (a, b), .inr (c, d), q => by cases q
  | .inr (a, b), .inl (c, d), q => by cases q
def isS (x : Option (List SH × MM × ML)) (S : List SH) : Bool := match x with
  | some (T, _, _) => lEq shEq T S
  | none => false
theorem isS_ok {x : Option (List SH × MM × ML)} {S : List SH} (h : isS x S = true) : x.map (fun q => q.1) = some S := by
  unfold isS at h
  split at h
  · rw [lEq_ok shEq_ok _ _ h]; rfl
  · cases h
theorem run1_S : run1.map (fun q => q.1) = some SX := isS_ok (by decide +kernel)
theorem run2_S : run2.map (fun q => q.1) = some S0 := isS_ok (by decide +kernel)
theorem run1_eq : run1 = some (SX, mu1, nu1) := by
  have h := run1_S
  unfold mu1 nu1
  revert h
  cases run1 with
  | none => intro h; cases h
  | some q => obtain ⟨a, b, c⟩ := q; intro h; cases h; rfl
theorem run2_eq : run2 = some (S0, mu0, nu0) := by
  have h := run2_S
  unfold mu0 nu0
  revert h
  cases run2 with
  | none => intro h; cases h
  | some q => obtain ⟨a, b, c⟩ := q; intro h; cases h; rfl
end
section
/-! ===== methods ===== -/
abbrev mJ6_bitCount : MX := (yJ6_bitCount_0f7a4, cJ6_bitCount_0f7a4, 1, (some .int))
set_option maxRecDepth 100000 in
theorem kJ6_bitCount : MokS mJ6_bitCount 1 := mokS_of (p1 := 57) (p2 := 856) (p3 := 855) rfl (by decide +kernel) (by decide +kernel)
abbrev mJ13_bitCount : MX := (yJ13_bitCount_95d88, cJ13_bitCount_95d88, 2, (some .int))
set_option maxRecDepth 100000 in
theorem kJ13_bitCount : MokS mJ13_bitCount 1 := mokS_of (p1 := 56) (p2 := 799) (p3 := 798) rfl (by decide +kernel) (by decide +kernel)
abbrev mJ9_abs : MX := (yJ9_abs_0f7a4, cJ9_abs_0f7a4, 1, (some .int))
abbrev mJ9_max : MX := (yJ9_max_7cf53, cJ9_max_7cf53, 2, (some .int))
abbrev mJ9_min : MX := (yJ9_min_7cf53, cJ9_min_7cf53, 2, (some .int))
abbrev mX2_bitsOf : MX := (yX2_bitsOf, cX2_bitsOf, 3, (some .int))
set_option maxRecDepth 100000 in
theorem kX2_bitsOf : MokV mX2_bitsOf 2 := mokV_of (p1 := 44) (p2 := 654) (p3 := 652) (p4 := 653) rfl (by decide +kernel) (by decide +kernel) (by decide +kernel)
abbrev mX2_changeBits : MX := (yX2_changeBits, cX2_changeBits, 5, (some .int))
set_option maxRecDepth 100000 in
theorem kX2_changeBits : MokV mX2_changeBits 3 := mokV_of (p1 := 44) (p2 := 558) (p3 := 556) (p4 := 557) rfl (by decide +kernel) (by decide +kernel) (by decide +kernel)
abbrev mX2_changeLine : MX := (yX2_changeLine, cX2_changeLine, 5, none)
set_option maxRecDepth 100000 in
theorem kX2_changeLine : MokV mX2_changeLine 3 := mokV_of (p1 := 44) (p2 := 570) (p3 := 568) (p4 := 569) rfl (by decide +kernel) (by decide +kernel) (by decide +kernel)
abbrev mX2_isDoor : MX := (yX2_isDoor, cX2_isDoor, 2, (some .boolean))
set_option maxRecDepth 100000 in
theorem kX2_isDoor : MokV mX2_isDoor 1 := mokV_of (p1 := 44) (p2 := 646) (p3 := 644) (p4 := 645) rfl (by decide +kernel) (by decide +kernel) (by decide +kernel)
abbrev mX4_change : MX := (yX4_change, cX4_change, 5, (some .int))
set_option maxRecDepth 100000 in
theorem kX4_change : MokV mX4_change 3 := mokV_of (p1 := 51) (p2 := 868) (p3 := 866) (p4 := 867) rfl (by decide +kernel) (by decide +kernel) (by decide +kernel)
abbrev mX4_numberAt : MX := (yX4_numberAt, cX4_numberAt, 3, (some .int))
set_option maxRecDepth 100000 in
theorem kX4_numberAt : MokV mX4_numberAt 2 := mokV_of (p1 := 51) (p2 := 880) (p3 := 878) (p4 := 879) rfl (by decide +kernel) (by decide +kernel) (by decide +kernel)
abbrev mX4_plainSum : MX := (yX4_plainSum, cX4_plainSum, 4, (some .int))
set_option maxRecDepth 100000 in
theorem kX4_plainSum : MokV mX4_plainSum 1 := mokV_of (p1 := 51) (p2 := 876) (p3 := 874) (p4 := 875) rfl (by decide +kernel) (by decide +kernel) (by decide +kernel)
abbrev mX4_placeSum : MX := (yX4_placeSum, cX4_placeSum, 4, (some .int))
set_option maxRecDepth 100000 in
theorem kX4_placeSum : MokV mX4_placeSum 1 := mokV_of (p1 := 51) (p2 := 884) (p3 := 882) (p4 := 883) rfl (by decide +kernel) (by decide +kernel) (by decide +kernel)
abbrev mX4_restorable : MX := (yX4_restorable, cX4_restorable, 3, (some .boolean))
set_option maxRecDepth 100000 in
theorem kX4_restorable : MokS mX4_restorable 1 := mokS_of (p1 := 51) (p2 := 891) (p3 := 890) rfl (by decide +kernel) (by decide +kernel)
abbrev mX5_change : MX := (yX5_change, cX5_change, 4, (some .int))
set_option maxRecDepth 100000 in
theorem kX5_change : MokV mX5_change 2 := mokV_of (p1 := 50) (p2 := 829) (p3 := 827) (p4 := 828) rfl (by decide +kernel) (by decide +kernel) (by decide +kernel)
abbrev mX5_blamed : MX := (yX5_blamed, cX5_blamed, 5, (some .int))
set_option maxRecDepth 100000 in
theorem kX5_blamed : MokV mX5_blamed 2 := mokV_of (p1 := 50) (p2 := 837) (p3 := 835) (p4 := 836) rfl (by decide +kernel) (by decide +kernel) (by decide +kernel)
abbrev mX5_pairs : MX := (yX5_pairs, cX5_pairs, 6, (some .int))
set_option maxRecDepth 100000 in
theorem kX5_pairs : MokV mX5_pairs 2 := mokV_of (p1 := 50) (p2 := 845) (p3 := 843) (p4 := 844) rfl (by decide +kernel) (by decide +kernel) (by decide +kernel)
abbrev mX5_firstPair : MX := (yX5_firstPair, cX5_firstPair, 5, (some .int))
set_option maxRecDepth 100000 in
theorem kX5_firstPair : MokV mX5_firstPair 2 := mokV_of (p1 := 50) (p2 := 853) (p3 := 851) (p4 := 852) rfl (by decide +kernel) (by decide +kernel) (by decide +kernel)
abbrev mX5_isPair : MX := (yX5_isPair, cX5_isPair, 7, (some .boolean))
set_option maxRecDepth 100000 in
theorem kX5_isPair : MokV mX5_isPair 4 := mokV_of (p1 := 50) (p2 := 849) (p3 := 848) (p4 := 21) rfl (by decide +kernel) (by decide +kernel) (by decide +kernel)
abbrev mX5_unlike : MX := (yX5_unlike, cX5_unlike, 4, (some .int))
set_option maxRecDepth 100000 in
theorem kX5_unlike : MokV mX5_unlike 3 := mokV_of (p1 := 50) (p2 := 841) (p3 := 840) (p4 := 20) rfl (by decide +kernel) (by decide +kernel) (by decide +kernel)
abbrev mX6_rehang : MX := (yX6_rehang, cX6_rehang, 5, (some .int))
set_option maxRecDepth 100000 in
theorem kX6_rehang : MokV mX6_rehang 3 := mokV_of (p1 := 52) (p2 := 908) (p3 := 906) (p4 := 907) rfl (by decide +kernel) (by decide +kernel) (by decide +kernel)
abbrev mX6_hangingOn : MX := (yX6_hangingOn, cX6_hangingOn, 5, (some .int))
set_option maxRecDepth 100000 in
theorem kX6_hangingOn : MokV mX6_hangingOn 2 := mokV_of (p1 := 52) (p2 := 904) (p3 := 902) (p4 := 903) rfl (by decide +kernel) (by decide +kernel) (by decide +kernel)
abbrev mX6_delayUpTo0 : MX := (yX6_delayUpTo0, cX6_delayUpTo0, 5, (some .int))
set_option maxRecDepth 100000 in
theorem kX6_delayUpTo0 : MokV mX6_delayUpTo0 1 := mokV_of (p1 := 52) (p2 := 916) (p3 := 914) (p4 := 915) rfl (by decide +kernel) (by decide +kernel) (by decide +kernel)
abbrev mX6_drop : MX := (yX6_drop, cX6_drop, 5, (some .int))
set_option maxRecDepth 100000 in
theorem kX6_drop : MokV mX6_drop 2 := mokV_of (p1 := 52) (p2 := 924) (p3 := 922) (p4 := 923) rfl (by decide +kernel) (by decide +kernel) (by decide +kernel)
abbrev mX6_newParent : MX := (yX6_newParent, cX6_newParent, 5, (some .int))
set_option maxRecDepth 100000 in
theorem kX6_newParent : MokV mX6_newParent 2 := mokV_of (p1 := 52) (p2 := 928) (p3 := 927) (p4 := 22) rfl (by decide +kernel) (by decide +kernel) (by decide +kernel)
abbrev mX6_standing : MX := (yX6_standing, cX6_standing, 3, (some .int))
set_option maxRecDepth 100000 in
theorem kX6_standing : MokV mX6_standing 0 := mokV_of (p1 := 52) (p2 := 938) (p3 := 936) (p4 := 937) rfl (by decide +kernel) (by decide +kernel) (by decide +kernel)
abbrev mX6_standingWithin : MX := (yX6_standingWithin, cX6_standingWithin, 4, (some .int))
set_option maxRecDepth 100000 in
theorem kX6_standingWithin : MokV mX6_standingWithin 1 := mokV_of (p1 := 52) (p2 := 942) (p3 := 940) (p4 := 941) rfl (by decide +kernel) (by decide +kernel) (by decide +kernel)
abbrev mX6_hangsOn : MX := (yX6_hangsOn, cX6_hangsOn, 2, (some .int))
set_option maxRecDepth 100000 in
theorem kX6_hangsOn : MokV mX6_hangsOn 1 := mokV_of (p1 := 52) (p2 := 946) (p3 := 944) (p4 := 945) rfl (by decide +kernel) (by decide +kernel) (by decide +kernel)
abbrev mX7_add : MX := (yX7_add, cX7_add, 6, (some .int))
set_option maxRecDepth 100000 in
theorem kX7_add : MokV mX7_add 5 := mokV_of (p1 := 49) (p2 := 764) (p3 := 762) (p4 := 763) rfl (by decide +kernel) (by decide +kernel) (by decide +kernel)
abbrev mX7_changeLand : MX := (yX7_changeLand, cX7_changeLand, 4, (some .int))
set_option maxRecDepth 100000 in
theorem kX7_changeLand : MokV mX7_changeLand 2 := mokV_of (p1 := 49) (p2 := 775) (p3 := 773) (p4 := 774) rfl (by decide +kernel) (by decide +kernel) (by decide +kernel)
abbrev mX7_allow : MX := (yX7_allow, cX7_allow, 6, (some .boolean))
set_option maxRecDepth 100000 in
theorem kX7_allow : MokV mX7_allow 3 := mokV_of (p1 := 49) (p2 := 783) (p3 := 781) (p4 := 782) rfl (by decide +kernel) (by decide +kernel) (by decide +kernel)
abbrev mX7_addSeeing : MX := (yX7_addSeeing, cX7_addSeeing, 9, (some .int))
set_option maxRecDepth 100000 in
theorem kX7_addSeeing : MokV mX7_addSeeing 4 := mokV_of (p1 := 49) (p2 := 795) (p3 := 793) (p4 := 794) rfl (by decide +kernel) (by decide +kernel) (by decide +kernel)
abbrev mX7_secondsSeen : MX := (yX7_secondsSeen, cX7_secondsSeen, 3, (some .int))
set_option maxRecDepth 100000 in
theorem kX7_secondsSeen : MokV mX7_secondsSeen 2 := mokV_of (p1 := 49) (p2 := 810) (p3 := 808) (p4 := 809) rfl (by decide +kernel) (by decide +kernel) (by decide +kernel)
abbrev mX7_timesSeen : MX := (yX7_timesSeen, cX7_timesSeen, 3, (some .int))
set_option maxRecDepth 100000 in
theorem kX7_timesSeen : MokV mX7_timesSeen 2 := mokV_of (p1 := 49) (p2 := 787) (p3 := 785) (p4 := 786) rfl (by decide +kernel) (by decide +kernel) (by decide +kernel)
abbrev mX7_owedFor : MX := (yX7_owedFor, cX7_owedFor, 6, (some .int))
set_option maxRecDepth 100000 in
theorem kX7_owedFor : MokV mX7_owedFor 3 := mokV_of (p1 := 49) (p2 := 819) (p3 := 817) (p4 := 818) rfl (by decide +kernel) (by decide +kernel) (by decide +kernel)
abbrev mX8_addSign : MX := (yX8_addSign, cX8_addSign, 2, (some .int))
set_option maxRecDepth 100000 in
theorem kX8_addSign : MokV mX8_addSign 1 := mokV_of (p1 := 45) (p2 := 578) (p3 := 576) (p4 := 577) rfl (by decide +kernel) (by decide +kernel) (by decide +kernel)
abbrev mX8_dropSigns : MX := (yX8_dropSigns, cX8_dropSigns, 2, (some .int))
set_option maxRecDepth 100000 in
theorem kX8_dropSigns : MokV mX8_dropSigns 0 := mokV_of (p1 := 45) (p2 := 586) (p3 := 584) (p4 := 585) rfl (by decide +kernel) (by decide +kernel) (by decide +kernel)
abbrev mX8_firstFault : MX := (yX8_firstFault, cX8_firstFault, 3, (some .int))
set_option maxRecDepth 100000 in
theorem kX8_firstFault : MokV mX8_firstFault 0 := mokV_of (p1 := 45) (p2 := 594) (p3 := 592) (p4 := 593) rfl (by decide +kernel) (by decide +kernel) (by decide +kernel)
abbrev mX8_adopt : MX := (yX8_adopt, cX8_adopt, 3, none)
set_option maxRecDepth 100000 in
theorem kX8_adopt : MokV mX8_adopt 0 := mokV_of (p1 := 45) (p2 := 614) (p3 := 612) (p4 := 613) rfl (by decide +kernel) (by decide +kernel) (by decide +kernel)
abbrev mX8_takeSign : MX := (yX8_takeSign, cX8_takeSign, 3, none)
set_option maxRecDepth 100000 in
theorem kX8_takeSign : MokV mX8_takeSign 2 := mokV_of (p1 := 45) (p2 := 618) (p3 := 617) (p4 := 7) rfl (by decide +kernel) (by decide +kernel) (by decide +kernel)
abbrev mX8_pick : MX := (yX8_pick, cX8_pick, 7, (some .int))
set_option maxRecDepth 100000 in
theorem kX8_pick : MokV mX8_pick 4 := mokV_of (p1 := 45) (p2 := 650) (p3 := 648) (p4 := 649) rfl (by decide +kernel) (by decide +kernel) (by decide +kernel)
abbrev mX8_after : MX := (yX8_after, cX8_after, 2, (some .int))
set_option maxRecDepth 100000 in
theorem kX8_after : MokS mX8_after 2 := mokS_of (p1 := 45) (p2 := 597) (p3 := 596) rfl (by decide +kernel) (by decide +kernel)
abbrev mX8_isFact : MX := (yX8_isFact, cX8_isFact, 1, (some .boolean))
set_option maxRecDepth 100000 in
theorem kX8_isFact : MokS mX8_isFact 1 := mokS_of (p1 := 45) (p2 := 600) (p3 := 599) rfl (by decide +kernel) (by decide +kernel)
abbrev mX8_isSize : MX := (yX8_isSize, cX8_isSize, 1, (some .boolean))
set_option maxRecDepth 100000 in
theorem kX8_isSize : MokS mX8_isSize 1 := mokS_of (p1 := 45) (p2 := 603) (p3 := 602) rfl (by decide +kernel) (by decide +kernel)
abbrev mX8_isDigit : MX := (yX8_isDigit, cX8_isDigit, 1, (some .boolean))
set_option maxRecDepth 100000 in
theorem kX8_isDigit : MokS mX8_isDigit 1 := mokS_of (p1 := 45) (p2 := 606) (p3 := 605) rfl (by decide +kernel) (by decide +kernel)
abbrev mX10_changeRoom : MX := (yX10_changeRoom, cX10_changeRoom, 4, (some .int))
set_option maxRecDepth 100000 in
theorem kX10_changeRoom : MokV mX10_changeRoom 2 := mokV_of (p1 := 48) (p2 := 716) (p3 := 714) (p4 := 715) rfl (by decide +kernel) (by decide +kernel) (by decide +kernel)
abbrev mX10_changeFar : MX := (yX10_changeFar, cX10_changeFar, 4, (some .int))
set_option maxRecDepth 100000 in
theorem kX10_changeFar : MokV mX10_changeFar 2 := mokV_of (p1 := 48) (p2 := 720) (p3 := 718) (p4 := 719) rfl (by decide +kernel) (by decide +kernel) (by decide +kernel)
abbrev mX10_changeWeight : MX := (yX10_changeWeight, cX10_changeWeight, 4, (some .int))
set_option maxRecDepth 100000 in
theorem kX10_changeWeight : MokV mX10_changeWeight 2 := mokV_of (p1 := 48) (p2 := 731) (p3 := 729) (p4 := 730) rfl (by decide +kernel) (by decide +kernel) (by decide +kernel)
abbrev mX10_changeAsks : MX := (yX10_changeAsks, cX10_changeAsks, 5, (some .int))
set_option maxRecDepth 100000 in
theorem kX10_changeAsks : MokV mX10_changeAsks 3 := mokV_of (p1 := 48) (p2 := 739) (p3 := 737) (p4 := 738) rfl (by decide +kernel) (by decide +kernel) (by decide +kernel)
abbrev mX10_bestFilms : MX := (yX10_bestFilms, cX10_bestFilms, 8, (some .int))
set_option maxRecDepth 100000 in
theorem kX10_bestFilms : MokV mX10_bestFilms 1 := mokV_of (p1 := 48) (p2 := 747) (p3 := 745) (p4 := 746) rfl (by decide +kernel) (by decide +kernel) (by decide +kernel)
abbrev mX10_weightOf : MX := (yX10_weightOf, cX10_weightOf, 4, (some .int))
set_option maxRecDepth 100000 in
theorem kX10_weightOf : MokV mX10_weightOf 1 := mokV_of (p1 := 48) (p2 := 755) (p3 := 754) (p4 := 19) rfl (by decide +kernel) (by decide +kernel) (by decide +kernel)
abbrev mX10_costOf : MX := (yX10_costOf, cX10_costOf, 5, (some .int))
set_option maxRecDepth 100000 in
theorem kX10_costOf : MokV mX10_costOf 2 := mokV_of (p1 := 48) (p2 := 751) (p3 := 749) (p4 := 750) rfl (by decide +kernel) (by decide +kernel) (by decide +kernel)
abbrev mX0_seek : MX := (yX0_seek, cX0_seek, 5, none)
set_option maxRecDepth 100000 in
theorem kX0_seek : MokV mX0_seek 2 := mokV_of (p1 := 47) (p2 := 671) (p3 := 669) (p4 := 670) rfl (by decide +kernel) (by decide +kernel) (by decide +kernel)
abbrev mX0_placeFrom : MX := (yX0_placeFrom, cX0_placeFrom, 6, none)
set_option maxRecDepth 100000 in
theorem kX0_placeFrom : MokV mX0_placeFrom 4 := mokV_of (p1 := 47) (p2 := 677) (p3 := 676) (p4 := 11) rfl (by decide +kernel) (by decide +kernel) (by decide +kernel)
abbrev mX0_place : MX := (yX0_place, cX0_place, 7, none)
set_option maxRecDepth 100000 in
theorem kX0_place : MokV mX0_place 4 := mokV_of (p1 := 47) (p2 := 682) (p3 := 681) (p4 := 12) rfl (by decide +kernel) (by decide +kernel) (by decide +kernel)
abbrev mX0_secondOf : MX := (yX0_secondOf, cX0_secondOf, 4, (some .int))
set_option maxRecDepth 100000 in
theorem kX0_secondOf : MokV mX0_secondOf 2 := mokV_of (p1 := 47) (p2 := 687) (p3 := 686) (p4 := 13) rfl (by decide +kernel) (by decide +kernel) (by decide +kernel)
abbrev mX0_mayBeNoWorse : MX := (yX0_mayBeNoWorse, cX0_mayBeNoWorse, 5, (some .boolean))
set_option maxRecDepth 100000 in
theorem kX0_mayBeNoWorse : MokV mX0_mayBeNoWorse 2 := mokV_of (p1 := 47) (p2 := 708) (p3 := 707) (p4 := 18) rfl (by decide +kernel) (by decide +kernel) (by decide +kernel)
abbrev mX0_judge : MX := (yX0_judge, cX0_judge, 4, none)
set_option maxRecDepth 100000 in
theorem kX0_judge : MokV mX0_judge 2 := mokV_of (p1 := 47) (p2 := 692) (p3 := 691) (p4 := 14) rfl (by decide +kernel) (by decide +kernel) (by decide +kernel)
abbrev mX0_watch : MX := (yX0_watch, cX0_watch, 6, none)
set_option maxRecDepth 100000 in
theorem kX0_watch : MokV mX0_watch 2 := mokV_of (p1 := 47) (p2 := 696) (p3 := 695) (p4 := 15) rfl (by decide +kernel) (by decide +kernel) (by decide +kernel)
abbrev mX0_isNoWorse : MX := (yX0_isNoWorse, cX0_isNoWorse, 1, (some .boolean))
set_option maxRecDepth 100000 in
theorem kX0_isNoWorse : MokV mX0_isNoWorse 0 := mokV_of (p1 := 47) (p2 := 700) (p3 := 699) (p4 := 16) rfl (by decide +kernel) (by decide +kernel) (by decide +kernel)
abbrev mX0_keep : MX := (yX0_keep, cX0_keep, 3, none)
set_option maxRecDepth 100000 in
theorem kX0_keep : MokV mX0_keep 1 := mokV_of (p1 := 47) (p2 := 704) (p3 := 703) (p4 := 17) rfl (by decide +kernel) (by decide +kernel) (by decide +kernel)
abbrev mX1_cut : MX := (yX1_cut, cX1_cut, 7, none)
set_option maxRecDepth 100000 in
theorem kX1_cut : MokV mX1_cut 3 := mokV_of (p1 := 43) (p2 := 471) (p3 := 469) (p4 := 470) rfl (by decide +kernel) (by decide +kernel) (by decide +kernel)
abbrev mX1_gather : MX := (yX1_gather, cX1_gather, 5, none)
set_option maxRecDepth 100000 in
theorem kX1_gather : MokV mX1_gather 2 := mokV_of (p1 := 43) (p2 := 491) (p3 := 490) (p4 := 1) rfl (by decide +kernel) (by decide +kernel) (by decide +kernel)
abbrev mX1_bestMoved : MX := (yX1_bestMoved, cX1_bestMoved, 4, (some .int))
set_option maxRecDepth 100000 in
theorem kX1_bestMoved : MokV mX1_bestMoved 1 := mokV_of (p1 := 43) (p2 := 495) (p3 := 494) (p4 := 2) rfl (by decide +kernel) (by decide +kernel) (by decide +kernel)
abbrev mX1_lossBy : MX := (yX1_lossBy, cX1_lossBy, 8, (some .int))
set_option maxRecDepth 100000 in
theorem kX1_lossBy : MokS mX1_lossBy 4 := mokS_of (p1 := 43) (p2 := 474) (p3 := 473) rfl (by decide +kernel) (by decide +kernel)
abbrev mX1_dotBy : MX := (yX1_dotBy, cX1_dotBy, 7, (some .int))
set_option maxRecDepth 100000 in
theorem kX1_dotBy : MokS mX1_dotBy 5 := mokS_of (p1 := 43) (p2 := 481) (p3 := 480) rfl (by decide +kernel) (by decide +kernel)
abbrev mX1_mean : MX := (yX1_mean, cX1_mean, 6, (some .int))
set_option maxRecDepth 100000 in
theorem kX1_mean : MokS mX1_mean 3 := mokS_of (p1 := 43) (p2 := 484) (p3 := 483) rfl (by decide +kernel) (by decide +kernel)
abbrev mX1_withinRim : MX := (yX1_withinRim, cX1_withinRim, 1, (some .int))
set_option maxRecDepth 100000 in
theorem kX1_withinRim : MokS mX1_withinRim 1 := mokS_of (p1 := 43) (p2 := 487) (p3 := 486) rfl (by decide +kernel) (by decide +kernel)
abbrev mX1_tryBlock : MX := (yX1_tryBlock, cX1_tryBlock, 5, none)
set_option maxRecDepth 100000 in
theorem kX1_tryBlock : MokV mX1_tryBlock 3 := mokV_of (p1 := 43) (p2 := 506) (p3 := 505) (p4 := 3) rfl (by decide +kernel) (by decide +kernel) (by decide +kernel)
abbrev mX1_tryWay : MX := (yX1_tryWay, cX1_tryWay, 5, none)
set_option maxRecDepth 100000 in
theorem kX1_tryWay : MokV mX1_tryWay 4 := mokV_of (p1 := 43) (p2 := 517) (p3 := 516) (p4 := 5) rfl (by decide +kernel) (by decide +kernel) (by decide +kernel)
abbrev mX1_weigh : MX := (yX1_weigh, cX1_weigh, 3, none)
set_option maxRecDepth 100000 in
theorem kX1_weigh : MokV mX1_weigh 2 := mokV_of (p1 := 43) (p2 := 510) (p3 := 509) (p4 := 4) rfl (by decide +kernel) (by decide +kernel) (by decide +kernel)
abbrev mX1_open : MX := (yX1_open, cX1_open, 6, none)
set_option maxRecDepth 100000 in
theorem kX1_open : MokV mX1_open 2 := mokV_of (p1 := 43) (p2 := 521) (p3 := 520) (p4 := 6) rfl (by decide +kernel) (by decide +kernel) (by decide +kernel)
abbrev mX3_has : MX := (yX3_has, cX3_has, 2, (some .boolean))
set_option maxRecDepth 100000 in
theorem kX3_has : MokV mX3_has 1 := mokV_of (p1 := 42) (p2 := 424) (p3 := 422) (p4 := 423) rfl (by decide +kernel) (by decide +kernel) (by decide +kernel)
abbrev mX3_add : MX := (yX3_add, cX3_add, 2, (some .int))
set_option maxRecDepth 100000 in
theorem kX3_add : MokV mX3_add 0 := mokV_of (p1 := 42) (p2 := 416) (p3 := 414) (p4 := 415) rfl (by decide +kernel) (by decide +kernel) (by decide +kernel)
abbrev mX3_changeDot : MX := (yX3_changeDot, cX3_changeDot, 5, (some .int))
set_option maxRecDepth 100000 in
theorem kX3_changeDot : MokV mX3_changeDot 3 := mokV_of (p1 := 42) (p2 := 431) (p3 := 429) (p4 := 430) rfl (by decide +kernel) (by decide +kernel) (by decide +kernel)
abbrev mX3_changeKey : MX := (yX3_changeKey, cX3_changeKey, 4, (some .boolean))
set_option maxRecDepth 100000 in
theorem kX3_changeKey : MokV mX3_changeKey 2 := mokV_of (p1 := 42) (p2 := 446) (p3 := 444) (p4 := 445) rfl (by decide +kernel) (by decide +kernel) (by decide +kernel)
abbrev mX3_forgetCutsFrom : MX := (yX3_forgetCutsFrom, cX3_forgetCutsFrom, 2, none)
set_option maxRecDepth 100000 in
theorem kX3_forgetCutsFrom : MokV mX3_forgetCutsFrom 1 := mokV_of (p1 := 42) (p2 := 435) (p3 := 433) (p4 := 434) rfl (by decide +kernel) (by decide +kernel) (by decide +kernel)
abbrev mX3_cutUpTo : MX := (yX3_cutUpTo, cX3_cutUpTo, 4, none)
set_option maxRecDepth 100000 in
theorem kX3_cutUpTo : MokV mX3_cutUpTo 2 := mokV_of (p1 := 42) (p2 := 467) (p3 := 465) (p4 := 466) rfl (by decide +kernel) (by decide +kernel) (by decide +kernel)
abbrev mX3_unlike : MX := (yX3_unlike, cX3_unlike, 4, (some .int))
set_option maxRecDepth 100000 in
theorem kX3_unlike : MokV mX3_unlike 1 := mokV_of (p1 := 42) (p2 := 534) (p3 := 532) (p4 := 533) rfl (by decide +kernel) (by decide +kernel) (by decide +kernel)
abbrev mX3_isScene : MX := (yX3_isScene, cX3_isScene, 3, (some .boolean))
set_option maxRecDepth 100000 in
theorem kX3_isScene : MokV mX3_isScene 2 := mokV_of (p1 := 42) (p2 := 541) (p3 := 539) (p4 := 540) rfl (by decide +kernel) (by decide +kernel) (by decide +kernel)
abbrev mX3_isStill : MX := (yX3_isStill, cX3_isStill, 2, (some .boolean))
set_option maxRecDepth 100000 in
theorem kX3_isStill : MokV mX3_isStill 1 := mokV_of (p1 := 42) (p2 := 546) (p3 := 544) (p4 := 545) rfl (by decide +kernel) (by decide +kernel) (by decide +kernel)
abbrev mX3_scenes : MX := (yX3_scenes, cX3_scenes, 4, (some .int))
set_option maxRecDepth 100000 in
theorem kX3_scenes : MokV mX3_scenes 1 := mokV_of (p1 := 42) (p2 := 954) (p3 := 952) (p4 := 953) rfl (by decide +kernel) (by decide +kernel) (by decide +kernel)
abbrev mX3_stills : MX := (yX3_stills, cX3_stills, 3, (some .int))
set_option maxRecDepth 100000 in
theorem kX3_stills : MokV mX3_stills 0 := mokV_of (p1 := 42) (p2 := 959) (p3 := 957) (p4 := 958) rfl (by decide +kernel) (by decide +kernel) (by decide +kernel)
abbrev mX9_tells : MX := (yX9_tells, cX9_tells, 1, (some .boolean))
set_option maxRecDepth 100000 in
theorem kX9_tells : MokS mX9_tells 1 := mokS_of (p1 := 46) (p2 := 625) (p3 := 624) rfl (by decide +kernel) (by decide +kernel)
abbrev mX9_answer : MX := (yX9_answer, cX9_answer, 2, (some .int))
set_option maxRecDepth 100000 in
theorem kX9_answer : MokV mX9_answer 1 := mokV_of (p1 := 46) (p2 := 662) (p3 := 660) (p4 := 661) rfl (by decide +kernel) (by decide +kernel) (by decide +kernel)
abbrev mX9_clear : MX := (yX9_clear, cX9_clear, 2, none)
set_option maxRecDepth 100000 in
theorem kX9_clear : MokV mX9_clear 0 := mokV_of (p1 := 46) (p2 := 633) (p3 := 631) (p4 := 632) rfl (by decide +kernel) (by decide +kernel) (by decide +kernel)
abbrev mX9_run : MX := (yX9_run, cX9_run, 6, none)
set_option maxRecDepth 100000 in
theorem kX9_run : MokV mX9_run 3 := mokV_of (p1 := 46) (p2 := 629) (p3 := 627) (p4 := 628) rfl (by decide +kernel) (by decide +kernel) (by decide +kernel)
abbrev mX9_load : MX := (yX9_load, cX9_load, 7, none)
set_option maxRecDepth 100000 in
theorem kX9_load : MokV mX9_load 3 := mokV_of (p1 := 46) (p2 := 638) (p3 := 637) (p4 := 8) rfl (by decide +kernel) (by decide +kernel) (by decide +kernel)
abbrev mX9_begin : MX := (yX9_begin, cX9_begin, 8, none)
set_option maxRecDepth 100000 in
theorem kX9_begin : MokV mX9_begin 4 := mokV_of (p1 := 46) (p2 := 642) (p3 := 641) (p4 := 9) rfl (by decide +kernel) (by decide +kernel) (by decide +kernel)
abbrev mX9_watch : MX := (yX9_watch, cX9_watch, 3, none)
set_option maxRecDepth 100000 in
theorem kX9_watch : MokV mX9_watch 2 := mokV_of (p1 := 46) (p2 := 658) (p3 := 657) (p4 := 10) rfl (by decide +kernel) (by decide +kernel) (by decide +kernel)
abbrev mX11_frame : MX := (yX11_frame, cX11_frame, 1, (some .int))
set_option maxRecDepth 100000 in
theorem kX11_frame : MokV mX11_frame 0 := mokV_of (p1 := 41) (p2 := 412) (p3 := 410) (p4 := 411) rfl (by decide +kernel) (by decide +kernel) (by decide +kernel)
abbrev mX11_dot : MX := (yX11_dot, cX11_dot, 4, (some .int))
set_option maxRecDepth 100000 in
theorem kX11_dot : MokV mX11_dot 3 := mokV_of (p1 := 41) (p2 := 420) (p3 := 418) (p4 := 419) rfl (by decide +kernel) (by decide +kernel) (by decide +kernel)
abbrev mX11_key : MX := (yX11_key, cX11_key, 3, (some .int))
set_option maxRecDepth 100000 in
theorem kX11_key : MokV mX11_key 2 := mokV_of (p1 := 41) (p2 := 442) (p3 := 440) (p4 := 441) rfl (by decide +kernel) (by decide +kernel) (by decide +kernel)
abbrev mX11_set : MX := (yX11_set, cX11_set, 4, (some .int))
set_option maxRecDepth 100000 in
theorem kX11_set : MokV mX11_set 2 := mokV_of (p1 := 41) (p2 := 450) (p3 := 448) (p4 := 449) rfl (by decide +kernel) (by decide +kernel) (by decide +kernel)
abbrev mX11_way : MX := (yX11_way, cX11_way, 3, (some .int))
set_option maxRecDepth 100000 in
theorem kX11_way : MokV mX11_way 2 := mokV_of (p1 := 41) (p2 := 463) (p3 := 461) (p4 := 462) rfl (by decide +kernel) (by decide +kernel) (by decide +kernel)
abbrev mX11_opened : MX := (yX11_opened, cX11_opened, 3, (some .int))
set_option maxRecDepth 100000 in
theorem kX11_opened : MokV mX11_opened 2 := mokV_of (p1 := 41) (p2 := 526) (p3 := 524) (p4 := 525) rfl (by decide +kernel) (by decide +kernel) (by decide +kernel)
abbrev mX11_of : MX := (yX11_of, cX11_of, 3, (some .int))
set_option maxRecDepth 100000 in
theorem kX11_of : MokV mX11_of 2 := mokV_of (p1 := 41) (p2 := 530) (p3 := 528) (p4 := 529) rfl (by decide +kernel) (by decide +kernel) (by decide +kernel)
abbrev mX11_pieces : MX := (yX11_pieces, cX11_pieces, 3, (some .int))
set_option maxRecDepth 100000 in
theorem kX11_pieces : MokV mX11_pieces 1 := mokV_of (p1 := 41) (p2 := 550) (p3 := 548) (p4 := 549) rfl (by decide +kernel) (by decide +kernel) (by decide +kernel)
abbrev mX11_bits : MX := (yX11_bits, cX11_bits, 4, (some .int))
set_option maxRecDepth 100000 in
theorem kX11_bits : MokV mX11_bits 3 := mokV_of (p1 := 41) (p2 := 554) (p3 := 552) (p4 := 553) rfl (by decide +kernel) (by decide +kernel) (by decide +kernel)
abbrev mX11_doors : MX := (yX11_doors, cX11_doors, 3, (some .int))
set_option maxRecDepth 100000 in
theorem kX11_doors : MokV mX11_doors 1 := mokV_of (p1 := 41) (p2 := 562) (p3 := 560) (p4 := 561) rfl (by decide +kernel) (by decide +kernel) (by decide +kernel)
abbrev mX11_line : MX := (yX11_line, cX11_line, 4, (some .int))
set_option maxRecDepth 100000 in
theorem kX11_line : MokV mX11_line 3 := mokV_of (p1 := 41) (p2 := 566) (p3 := 564) (p4 := 565) rfl (by decide +kernel) (by decide +kernel) (by decide +kernel)
abbrev mX11_say : MX := (yX11_say, cX11_say, 2, (some .int))
set_option maxRecDepth 100000 in
theorem kX11_say : MokV mX11_say 1 := mokV_of (p1 := 41) (p2 := 574) (p3 := 572) (p4 := 573) rfl (by decide +kernel) (by decide +kernel) (by decide +kernel)
abbrev mX11_wipe : MX := (yX11_wipe, cX11_wipe, 1, (some .int))
set_option maxRecDepth 100000 in
theorem kX11_wipe : MokV mX11_wipe 0 := mokV_of (p1 := 41) (p2 := 582) (p3 := 580) (p4 := 581) rfl (by decide +kernel) (by decide +kernel) (by decide +kernel)
abbrev mX11_fault : MX := (yX11_fault, cX11_fault, 1, (some .int))
set_option maxRecDepth 100000 in
theorem kX11_fault : MokV mX11_fault 0 := mokV_of (p1 := 41) (p2 := 590) (p3 := 588) (p4 := 589) rfl (by decide +kernel) (by decide +kernel) (by decide +kernel)
abbrev mX11_rule : MX := (yX11_rule, cX11_rule, 1, (some .int))
set_option maxRecDepth 100000 in
theorem kX11_rule : MokV mX11_rule 0 := mokV_of (p1 := 41) (p2 := 610) (p3 := 608) (p4 := 609) rfl (by decide +kernel) (by decide +kernel) (by decide +kernel)
abbrev mX11_show : MX := (yX11_show, cX11_show, 2, (some .int))
set_option maxRecDepth 100000 in
theorem kX11_show : MokV mX11_show 1 := mokV_of (p1 := 41) (p2 := 622) (p3 := 620) (p4 := 621) rfl (by decide +kernel) (by decide +kernel) (by decide +kernel)
abbrev mX11_best : MX := (yX11_best, cX11_best, 2, (some .int))
set_option maxRecDepth 100000 in
theorem kX11_best : MokV mX11_best 1 := mokV_of (p1 := 41) (p2 := 667) (p3 := 665) (p4 := 666) rfl (by decide +kernel) (by decide +kernel) (by decide +kernel)
abbrev mX11_town : MX := (yX11_town, cX11_town, 4, (some .int))
set_option maxRecDepth 100000 in
theorem kX11_town : MokV mX11_town 3 := mokV_of (p1 := 41) (p2 := 712) (p3 := 710) (p4 := 711) rfl (by decide +kernel) (by decide +kernel) (by decide +kernel)
abbrev mX11_weight : MX := (yX11_weight, cX11_weight, 3, (some .int))
set_option maxRecDepth 100000 in
theorem kX11_weight : MokV mX11_weight 2 := mokV_of (p1 := 41) (p2 := 724) (p3 := 722) (p4 := 723) rfl (by decide +kernel) (by decide +kernel) (by decide +kernel)
abbrev mX11_ask : MX := (yX11_ask, cX11_ask, 4, (some .int))
set_option maxRecDepth 100000 in
theorem kX11_ask : MokV mX11_ask 3 := mokV_of (p1 := 41) (p2 := 735) (p3 := 733) (p4 := 734) rfl (by decide +kernel) (by decide +kernel) (by decide +kernel)
abbrev mX11_kept : MX := (yX11_kept, cX11_kept, 4, (some .int))
set_option maxRecDepth 100000 in
theorem kX11_kept : MokV mX11_kept 2 := mokV_of (p1 := 41) (p2 := 743) (p3 := 741) (p4 := 742) rfl (by decide +kernel) (by decide +kernel) (by decide +kernel)
abbrev mX11_right : MX := (yX11_right, cX11_right, 6, (some .int))
set_option maxRecDepth 100000 in
theorem kX11_right : MokV mX11_right 5 := mokV_of (p1 := 41) (p2 := 760) (p3 := 758) (p4 := 759) rfl (by decide +kernel) (by decide +kernel) (by decide +kernel)
abbrev mX11_land : MX := (yX11_land, cX11_land, 3, (some .int))
set_option maxRecDepth 100000 in
theorem kX11_land : MokV mX11_land 2 := mokV_of (p1 := 41) (p2 := 768) (p3 := 766) (p4 := 767) rfl (by decide +kernel) (by decide +kernel) (by decide +kernel)
abbrev mX11_may : MX := (yX11_may, cX11_may, 4, (some .int))
set_option maxRecDepth 100000 in
theorem kX11_may : MokV mX11_may 3 := mokV_of (p1 := 41) (p2 := 779) (p3 := 777) (p4 := 778) rfl (by decide +kernel) (by decide +kernel) (by decide +kernel)
abbrev mX11_see : MX := (yX11_see, cX11_see, 6, (some .int))
set_option maxRecDepth 100000 in
theorem kX11_see : MokV mX11_see 5 := mokV_of (p1 := 41) (p2 := 791) (p3 := 789) (p4 := 790) rfl (by decide +kernel) (by decide +kernel) (by decide +kernel)
abbrev mX11_seen : MX := (yX11_seen, cX11_seen, 4, (some .int))
set_option maxRecDepth 100000 in
theorem kX11_seen : MokV mX11_seen 3 := mokV_of (p1 := 41) (p2 := 806) (p3 := 804) (p4 := 805) rfl (by decide +kernel) (by decide +kernel) (by decide +kernel)
abbrev mX11_owed : MX := (yX11_owed, cX11_owed, 2, (some .int))
set_option maxRecDepth 100000 in
theorem kX11_owed : MokV mX11_owed 1 := mokV_of (p1 := 41) (p2 := 815) (p3 := 813) (p4 := 814) rfl (by decide +kernel) (by decide +kernel) (by decide +kernel)
abbrev mX11_mark : MX := (yX11_mark, cX11_mark, 3, (some .int))
set_option maxRecDepth 100000 in
theorem kX11_mark : MokV mX11_mark 2 := mokV_of (p1 := 41) (p2 := 825) (p3 := 823) (p4 := 824) rfl (by decide +kernel) (by decide +kernel) (by decide +kernel)
abbrev mX11_blame : MX := (yX11_blame, cX11_blame, 4, (some .int))
set_option maxRecDepth 100000 in
theorem kX11_blame : MokV mX11_blame 3 := mokV_of (p1 := 41) (p2 := 833) (p3 := 831) (p4 := 832) rfl (by decide +kernel) (by decide +kernel) (by decide +kernel)
abbrev mX11_put : MX := (yX11_put, cX11_put, 4, (some .int))
set_option maxRecDepth 100000 in
theorem kX11_put : MokV mX11_put 3 := mokV_of (p1 := 41) (p2 := 863) (p3 := 861) (p4 := 862) rfl (by decide +kernel) (by decide +kernel) (by decide +kernel)
abbrev mX11_sum : MX := (yX11_sum, cX11_sum, 3, (some .int))
set_option maxRecDepth 100000 in
theorem kX11_sum : MokV mX11_sum 2 := mokV_of (p1 := 41) (p2 := 872) (p3 := 870) (p4 := 871) rfl (by decide +kernel) (by decide +kernel) (by decide +kernel)
abbrev mX11_restore : MX := (yX11_restore, cX11_restore, 4, (some .int))
set_option maxRecDepth 100000 in
theorem kX11_restore : MokV mX11_restore 3 := mokV_of (p1 := 41) (p2 := 888) (p3 := 886) (p4 := 887) rfl (by decide +kernel) (by decide +kernel) (by decide +kernel)
abbrev mX11_hang : MX := (yX11_hang, cX11_hang, 4, (some .int))
set_option maxRecDepth 100000 in
theorem kX11_hang : MokV mX11_hang 3 := mokV_of (p1 := 41) (p2 := 897) (p3 := 895) (p4 := 896) rfl (by decide +kernel) (by decide +kernel) (by decide +kernel)
abbrev mX11_behind : MX := (yX11_behind, cX11_behind, 2, (some .int))
set_option maxRecDepth 100000 in
theorem kX11_behind : MokV mX11_behind 1 := mokV_of (p1 := 41) (p2 := 912) (p3 := 910) (p4 := 911) rfl (by decide +kernel) (by decide +kernel) (by decide +kernel)
abbrev mX11_fall : MX := (yX11_fall, cX11_fall, 2, (some .int))
set_option maxRecDepth 100000 in
theorem kX11_fall : MokV mX11_fall 1 := mokV_of (p1 := 41) (p2 := 920) (p3 := 918) (p4 := 919) rfl (by decide +kernel) (by decide +kernel) (by decide +kernel)
abbrev mX11_tree : MX := (yX11_tree, cX11_tree, 2, (some .int))
set_option maxRecDepth 100000 in
theorem kX11_tree : MokV mX11_tree 1 := mokV_of (p1 := 41) (p2 := 934) (p3 := 932) (p4 := 933) rfl (by decide +kernel) (by decide +kernel) (by decide +kernel)
abbrev mX11_told : MX := (yX11_told, cX11_told, 2, (some .int))
set_option maxRecDepth 100000 in
theorem kX11_told : MokV mX11_told 1 := mokV_of (p1 := 41) (p2 := 950) (p3 := 948) (p4 := 949) rfl (by decide +kernel) (by decide +kernel) (by decide +kernel)
abbrev mX11_between : MX := (yX11_between, cX11_between, 3, (some .boolean))
set_option maxRecDepth 100000 in
theorem kX11_between : MokS mX11_between 3 := mokS_of (p1 := 41) (p2 := 427) (p3 := 426) rfl (by decide +kernel) (by decide +kernel)
abbrev mX11_isFilm : MX := (yX11_isFilm, cX11_isFilm, 1, (some .boolean))
set_option maxRecDepth 100000 in
theorem kX11_isFilm : MokS mX11_isFilm 1 := mokS_of (p1 := 41) (p2 := 727) (p3 := 726) rfl (by decide +kernel) (by decide +kernel)
abbrev mX11_isSeer : MX := (yX11_isSeer, cX11_isSeer, 1, (some .boolean))
set_option maxRecDepth 100000 in
theorem kX11_isSeer : MokS mX11_isSeer 1 := mokS_of (p1 := 41) (p2 := 771) (p3 := 770) rfl (by decide +kernel) (by decide +kernel)
abbrev mX11_isNode : MX := (yX11_isNode, cX11_isNode, 1, (some .boolean))
set_option maxRecDepth 100000 in
theorem kX11_isNode : MokS mX11_isNode 1 := mokS_of (p1 := 41) (p2 := 900) (p3 := 899) rfl (by decide +kernel) (by decide +kernel)
abbrev mX11_forgetShows : MX := (yX11_forgetShows, cX11_forgetShows, 1, none)
set_option maxRecDepth 100000 in
theorem kX11_forgetShows : MokV mX11_forgetShows 0 := mokV_of (p1 := 41) (p2 := 459) (p3 := 458) (p4 := 0) rfl (by decide +kernel) (by decide +kernel) (by decide +kernel)
abbrev mX12_in : MX := (yX12_in, cX12_in, 3, (some .boolean))
set_option maxRecDepth 100000 in
theorem kX12_in : MokS mX12_in 3 := mokS_of (p1 := 53) (p2 := 1093) (p3 := 1092) rfl (by decide +kernel) (by decide +kernel)
abbrev mX12_isFrame : MX := (yX12_isFrame, cX12_isFrame, 2, (some .boolean))
set_option maxRecDepth 100000 in
theorem kX12_isFrame : MokV mX12_isFrame 1 := mokV_of (p1 := 53) (p2 := 1090) (p3 := 1089) (p4 := 23) rfl (by decide +kernel) (by decide +kernel) (by decide +kernel)
abbrev mX12_frame : MX := (yX12_frame, cX12_frame, 2, (some .int))
set_option maxRecDepth 100000 in
theorem kX12_frame : MokV mX12_frame 0 := mokV_of (p1 := 53) (p2 := 1082) (p3 := 1080) (p4 := 1081) rfl (by decide +kernel) (by decide +kernel) (by decide +kernel)
abbrev mX12_dot : MX := (yX12_dot, cX12_dot, 5, (some .int))
set_option maxRecDepth 100000 in
theorem kX12_dot : MokV mX12_dot 3 := mokV_of (p1 := 53) (p2 := 1086) (p3 := 1084) (p4 := 1085) rfl (by decide +kernel) (by decide +kernel) (by decide +kernel)
abbrev mX12_key : MX := (yX12_key, cX12_key, 4, (some .int))
set_option maxRecDepth 100000 in
theorem kX12_key : MokV mX12_key 2 := mokV_of (p1 := 53) (p2 := 1097) (p3 := 1095) (p4 := 1096) rfl (by decide +kernel) (by decide +kernel) (by decide +kernel)
abbrev mX12_set : MX := (yX12_set, cX12_set, 5, (some .int))
set_option maxRecDepth 100000 in
theorem kX12_set : MokV mX12_set 2 := mokV_of (p1 := 53) (p2 := 1101) (p3 := 1099) (p4 := 1100) rfl (by decide +kernel) (by decide +kernel) (by decide +kernel)
abbrev mX12_costOf : MX := (yX12_costOf, cX12_costOf, 1, (some .int))
set_option maxRecDepth 100000 in
theorem kX12_costOf : MokS mX12_costOf 1 := mokS_of (p1 := 53) (p2 := 1127) (p3 := 1126) rfl (by decide +kernel) (by decide +kernel)
abbrev mX12_dotAt : MX := (yX12_dotAt, cX12_dotAt, 2, (some .int))
set_option maxRecDepth 100000 in
theorem kX12_dotAt : MokS mX12_dotAt 2 := mokS_of (p1 := 53) (p2 := 1120) (p3 := 1119) rfl (by decide +kernel) (by decide +kernel)
abbrev mX12_held : MX := (yX12_held, cX12_held, 1, (some .int))
set_option maxRecDepth 100000 in
theorem kX12_held : MokS mX12_held 1 := mokS_of (p1 := 53) (p2 := 1123) (p3 := 1122) rfl (by decide +kernel) (by decide +kernel)
abbrev mX12_openBy : MX := (yX12_openBy, cX12_openBy, 8, (some .int))
set_option maxRecDepth 100000 in
theorem kX12_openBy : MokV mX12_openBy 4 := mokV_of (p1 := 53) (p2 := 1117) (p3 := 1116) (p4 := 26) rfl (by decide +kernel) (by decide +kernel) (by decide +kernel)
abbrev mX12_cutFrame : MX := (yX12_cutFrame, cX12_cutFrame, 15, none)
set_option maxRecDepth 100000 in
theorem kX12_cutFrame : MokV mX12_cutFrame 1 := mokV_of (p1 := 53) (p2 := 1113) (p3 := 1112) (p4 := 25) rfl (by decide +kernel) (by decide +kernel) (by decide +kernel)
abbrev mX12_cut : MX := (yX12_cut, cX12_cut, 3, none)
set_option maxRecDepth 100000 in
theorem kX12_cut : MokV mX12_cut 1 := mokV_of (p1 := 53) (p2 := 1109) (p3 := 1108) (p4 := 24) rfl (by decide +kernel) (by decide +kernel) (by decide +kernel)
abbrev mX12_way : MX := (yX12_way, cX12_way, 3, (some .int))
set_option maxRecDepth 100000 in
theorem kX12_way : MokV mX12_way 2 := mokV_of (p1 := 53) (p2 := 1105) (p3 := 1103) (p4 := 1104) rfl (by decide +kernel) (by decide +kernel) (by decide +kernel)
abbrev mX12_opened : MX := (yX12_opened, cX12_opened, 3, (some .int))
set_option maxRecDepth 100000 in
theorem kX12_opened : MokV mX12_opened 2 := mokV_of (p1 := 53) (p2 := 1131) (p3 := 1129) (p4 := 1130) rfl (by decide +kernel) (by decide +kernel) (by decide +kernel)
abbrev mX12_unlike : MX := (yX12_unlike, cX12_unlike, 5, (some .int))
set_option maxRecDepth 100000 in
theorem kX12_unlike : MokV mX12_unlike 1 := mokV_of (p1 := 53) (p2 := 1139) (p3 := 1138) (p4 := 27) rfl (by decide +kernel) (by decide +kernel) (by decide +kernel)
abbrev mX12_isScene : MX := (yX12_isScene, cX12_isScene, 2, (some .boolean))
set_option maxRecDepth 100000 in
theorem kX12_isScene : MokV mX12_isScene 1 := mokV_of (p1 := 53) (p2 := 1143) (p3 := 1142) (p4 := 28) rfl (by decide +kernel) (by decide +kernel) (by decide +kernel)
abbrev mX12_isStill : MX := (yX12_isStill, cX12_isStill, 2, (some .boolean))
set_option maxRecDepth 100000 in
theorem kX12_isStill : MokV mX12_isStill 1 := mokV_of (p1 := 53) (p2 := 1147) (p3 := 1146) (p4 := 29) rfl (by decide +kernel) (by decide +kernel) (by decide +kernel)
abbrev mX12_of : MX := (yX12_of, cX12_of, 3, (some .int))
set_option maxRecDepth 100000 in
theorem kX12_of : MokV mX12_of 2 := mokV_of (p1 := 53) (p2 := 1135) (p3 := 1133) (p4 := 1134) rfl (by decide +kernel) (by decide +kernel) (by decide +kernel)
abbrev mX12_pieces : MX := (yX12_pieces, cX12_pieces, 3, (some .int))
set_option maxRecDepth 100000 in
theorem kX12_pieces : MokV mX12_pieces 1 := mokV_of (p1 := 53) (p2 := 1151) (p3 := 1149) (p4 := 1150) rfl (by decide +kernel) (by decide +kernel) (by decide +kernel)
abbrev mX12_bits : MX := (yX12_bits, cX12_bits, 5, (some .int))
set_option maxRecDepth 100000 in
theorem kX12_bits : MokV mX12_bits 3 := mokV_of (p1 := 53) (p2 := 1155) (p3 := 1153) (p4 := 1154) rfl (by decide +kernel) (by decide +kernel) (by decide +kernel)
abbrev mX12_doors : MX := (yX12_doors, cX12_doors, 3, (some .int))
set_option maxRecDepth 100000 in
theorem kX12_doors : MokV mX12_doors 1 := mokV_of (p1 := 53) (p2 := 1159) (p3 := 1157) (p4 := 1158) rfl (by decide +kernel) (by decide +kernel) (by decide +kernel)
abbrev mX12_line : MX := (yX12_line, cX12_line, 5, (some .int))
set_option maxRecDepth 100000 in
theorem kX12_line : MokV mX12_line 3 := mokV_of (p1 := 53) (p2 := 1163) (p3 := 1161) (p4 := 1162) rfl (by decide +kernel) (by decide +kernel) (by decide +kernel)
abbrev mX12_say : MX := (yX12_say, cX12_say, 2, (some .int))
set_option maxRecDepth 100000 in
theorem kX12_say : MokV mX12_say 1 := mokV_of (p1 := 53) (p2 := 1167) (p3 := 1165) (p4 := 1166) rfl (by decide +kernel) (by decide +kernel) (by decide +kernel)
abbrev mX12_wipe : MX := (yX12_wipe, cX12_wipe, 2, (some .int))
set_option maxRecDepth 100000 in
theorem kX12_wipe : MokV mX12_wipe 0 := mokV_of (p1 := 53) (p2 := 1171) (p3 := 1169) (p4 := 1170) rfl (by decide +kernel) (by decide +kernel) (by decide +kernel)
abbrev mX12_faultOf : MX := (yX12_faultOf, cX12_faultOf, 6, (some .int))
set_option maxRecDepth 100000 in
theorem kX12_faultOf : MokV mX12_faultOf 0 := mokV_of (p1 := 53) (p2 := 1179) (p3 := 1178) (p4 := 30) rfl (by decide +kernel) (by decide +kernel) (by decide +kernel)
abbrev mX12_fault : MX := (yX12_fault, cX12_fault, 1, (some .int))
set_option maxRecDepth 100000 in
theorem kX12_fault : MokV mX12_fault 0 := mokV_of (p1 := 53) (p2 := 1175) (p3 := 1173) (p4 := 1174) rfl (by decide +kernel) (by decide +kernel) (by decide +kernel)
abbrev mX12_rule : MX := (yX12_rule, cX12_rule, 2, (some .int))
set_option maxRecDepth 100000 in
theorem kX12_rule : MokV mX12_rule 0 := mokV_of (p1 := 53) (p2 := 1183) (p3 := 1181) (p4 := 1182) rfl (by decide +kernel) (by decide +kernel) (by decide +kernel)
abbrev mX12_pick : MX := (yX12_pick, cX12_pick, 10, (some .int))
set_option maxRecDepth 100000 in
theorem kX12_pick : MokV mX12_pick 4 := mokV_of (p1 := 53) (p2 := 1198) (p3 := 1197) (p4 := 32) rfl (by decide +kernel) (by decide +kernel) (by decide +kernel)
abbrev mX12_run : MX := (yX12_run, cX12_run, 9, none)
set_option maxRecDepth 100000 in
theorem kX12_run : MokV mX12_run 1 := mokV_of (p1 := 53) (p2 := 1194) (p3 := 1193) (p4 := 31) rfl (by decide +kernel) (by decide +kernel) (by decide +kernel)
abbrev mX12_tell : MX := (yX12_tell, cX12_tell, 2, (some .int))
set_option maxRecDepth 100000 in
theorem kX12_tell : MokV mX12_tell 1 := mokV_of (p1 := 53) (p2 := 1202) (p3 := 1201) (p4 := 33) rfl (by decide +kernel) (by decide +kernel) (by decide +kernel)
abbrev mX12_isTold : MX := (yX12_isTold, cX12_isTold, 1, (some .boolean))
set_option maxRecDepth 100000 in
theorem kX12_isTold : MokS mX12_isTold 1 := mokS_of (p1 := 53) (p2 := 1190) (p3 := 1189) rfl (by decide +kernel) (by decide +kernel)
abbrev mX12_show : MX := (yX12_show, cX12_show, 2, (some .int))
set_option maxRecDepth 100000 in
theorem kX12_show : MokV mX12_show 1 := mokV_of (p1 := 53) (p2 := 1187) (p3 := 1185) (p4 := 1186) rfl (by decide +kernel) (by decide +kernel) (by decide +kernel)
abbrev mX12_wish : MX := (yX12_wish, cX12_wish, 5, none)
set_option maxRecDepth 100000 in
theorem kX12_wish : MokV mX12_wish 1 := mokV_of (p1 := 53) (p2 := 1210) (p3 := 1209) (p4 := 34) rfl (by decide +kernel) (by decide +kernel) (by decide +kernel)
abbrev mX12_best : MX := (yX12_best, cX12_best, 9, (some .int))
set_option maxRecDepth 100000 in
theorem kX12_best : MokV mX12_best 1 := mokV_of (p1 := 53) (p2 := 1206) (p3 := 1204) (p4 := 1205) rfl (by decide +kernel) (by decide +kernel) (by decide +kernel)
abbrev mX12_isTown : MX := (yX12_isTown, cX12_isTown, 1, (some .boolean))
set_option maxRecDepth 100000 in
theorem kX12_isTown : MokS mX12_isTown 1 := mokS_of (p1 := 53) (p2 := 1217) (p3 := 1216) rfl (by decide +kernel) (by decide +kernel)
abbrev mX12_isFilm : MX := (yX12_isFilm, cX12_isFilm, 1, (some .boolean))
set_option maxRecDepth 100000 in
theorem kX12_isFilm : MokS mX12_isFilm 1 := mokS_of (p1 := 53) (p2 := 1224) (p3 := 1223) rfl (by decide +kernel) (by decide +kernel)
abbrev mX12_isSeer : MX := (yX12_isSeer, cX12_isSeer, 1, (some .boolean))
set_option maxRecDepth 100000 in
theorem kX12_isSeer : MokS mX12_isSeer 1 := mokS_of (p1 := 53) (p2 := 1243) (p3 := 1242) rfl (by decide +kernel) (by decide +kernel)
abbrev mX12_town : MX := (yX12_town, cX12_town, 5, (some .int))
set_option maxRecDepth 100000 in
theorem kX12_town : MokV mX12_town 3 := mokV_of (p1 := 53) (p2 := 1214) (p3 := 1212) (p4 := 1213) rfl (by decide +kernel) (by decide +kernel) (by decide +kernel)
abbrev mX12_weight : MX := (yX12_weight, cX12_weight, 4, (some .int))
set_option maxRecDepth 100000 in
theorem kX12_weight : MokV mX12_weight 2 := mokV_of (p1 := 53) (p2 := 1221) (p3 := 1219) (p4 := 1220) rfl (by decide +kernel) (by decide +kernel) (by decide +kernel)
abbrev mX12_ask : MX := (yX12_ask, cX12_ask, 5, (some .int))
set_option maxRecDepth 100000 in
theorem kX12_ask : MokV mX12_ask 3 := mokV_of (p1 := 53) (p2 := 1228) (p3 := 1226) (p4 := 1227) rfl (by decide +kernel) (by decide +kernel) (by decide +kernel)
abbrev mX12_kept : MX := (yX12_kept, cX12_kept, 10, (some .int))
set_option maxRecDepth 100000 in
theorem kX12_kept : MokV mX12_kept 2 := mokV_of (p1 := 53) (p2 := 1232) (p3 := 1230) (p4 := 1231) rfl (by decide +kernel) (by decide +kernel) (by decide +kernel)
abbrev mX12_right : MX := (yX12_right, cX12_right, 6, (some .int))
set_option maxRecDepth 100000 in
theorem kX12_right : MokV mX12_right 5 := mokV_of (p1 := 53) (p2 := 1236) (p3 := 1234) (p4 := 1235) rfl (by decide +kernel) (by decide +kernel) (by decide +kernel)
abbrev mX12_land : MX := (yX12_land, cX12_land, 4, (some .int))
set_option maxRecDepth 100000 in
theorem kX12_land : MokV mX12_land 2 := mokV_of (p1 := 53) (p2 := 1240) (p3 := 1238) (p4 := 1239) rfl (by decide +kernel) (by decide +kernel) (by decide +kernel)
abbrev mX12_mayIt : MX := (yX12_mayIt, cX12_mayIt, 8, (some .boolean))
set_option maxRecDepth 100000 in
theorem kX12_mayIt : MokV mX12_mayIt 3 := mokV_of (p1 := 53) (p2 := 1251) (p3 := 1250) (p4 := 35) rfl (by decide +kernel) (by decide +kernel) (by decide +kernel)
abbrev mX12_may : MX := (yX12_may, cX12_may, 4, (some .int))
set_option maxRecDepth 100000 in
theorem kX12_may : MokV mX12_may 3 := mokV_of (p1 := 53) (p2 := 1247) (p3 := 1245) (p4 := 1246) rfl (by decide +kernel) (by decide +kernel) (by decide +kernel)
abbrev mX12_see : MX := (yX12_see, cX12_see, 9, (some .int))
set_option maxRecDepth 100000 in
theorem kX12_see : MokV mX12_see 5 := mokV_of (p1 := 53) (p2 := 1255) (p3 := 1253) (p4 := 1254) rfl (by decide +kernel) (by decide +kernel) (by decide +kernel)
abbrev mX12_seenOf : MX := (yX12_seenOf, cX12_seenOf, 5, (some .int))
set_option maxRecDepth 100000 in
theorem kX12_seenOf : MokV mX12_seenOf 2 := mokV_of (p1 := 53) (p2 := 1263) (p3 := 1262) (p4 := 36) rfl (by decide +kernel) (by decide +kernel) (by decide +kernel)
abbrev mX12_seen : MX := (yX12_seen, cX12_seen, 4, (some .int))
set_option maxRecDepth 100000 in
theorem kX12_seen : MokV mX12_seen 3 := mokV_of (p1 := 53) (p2 := 1259) (p3 := 1257) (p4 := 1258) rfl (by decide +kernel) (by decide +kernel) (by decide +kernel)
abbrev mX12_owed : MX := (yX12_owed, cX12_owed, 5, (some .int))
set_option maxRecDepth 100000 in
theorem kX12_owed : MokV mX12_owed 1 := mokV_of (p1 := 53) (p2 := 1267) (p3 := 1265) (p4 := 1266) rfl (by decide +kernel) (by decide +kernel) (by decide +kernel)
abbrev mX12_mark : MX := (yX12_mark, cX12_mark, 4, (some .int))
set_option maxRecDepth 100000 in
theorem kX12_mark : MokV mX12_mark 2 := mokV_of (p1 := 53) (p2 := 1271) (p3 := 1269) (p4 := 1270) rfl (by decide +kernel) (by decide +kernel) (by decide +kernel)
abbrev mX12_blame : MX := (yX12_blame, cX12_blame, 11, (some .int))
set_option maxRecDepth 100000 in
theorem kX12_blame : MokV mX12_blame 3 := mokV_of (p1 := 53) (p2 := 1275) (p3 := 1273) (p4 := 1274) rfl (by decide +kernel) (by decide +kernel) (by decide +kernel)
abbrev mX12_isGroup : MX := (yX12_isGroup, cX12_isGroup, 1, (some .boolean))
set_option maxRecDepth 100000 in
theorem kX12_isGroup : MokS mX12_isGroup 1 := mokS_of (p1 := 53) (p2 := 1282) (p3 := 1281) rfl (by decide +kernel) (by decide +kernel)
abbrev mX12_put : MX := (yX12_put, cX12_put, 5, (some .int))
set_option maxRecDepth 100000 in
theorem kX12_put : MokV mX12_put 3 := mokV_of (p1 := 53) (p2 := 1279) (p3 := 1277) (p4 := 1278) rfl (by decide +kernel) (by decide +kernel) (by decide +kernel)
abbrev mX12_sum : MX := (yX12_sum, cX12_sum, 5, (some .int))
set_option maxRecDepth 100000 in
theorem kX12_sum : MokV mX12_sum 2 := mokV_of (p1 := 53) (p2 := 1287) (p3 := 1285) (p4 := 1286) rfl (by decide +kernel) (by decide +kernel) (by decide +kernel)
abbrev mX12_restore : MX := (yX12_restore, cX12_restore, 6, (some .int))
set_option maxRecDepth 100000 in
theorem kX12_restore : MokV mX12_restore 3 := mokV_of (p1 := 53) (p2 := 1291) (p3 := 1289) (p4 := 1290) rfl (by decide +kernel) (by decide +kernel) (by decide +kernel)
abbrev mX12_isNode : MX := (yX12_isNode, cX12_isNode, 1, (some .boolean))
set_option maxRecDepth 100000 in
theorem kX12_isNode : MokS mX12_isNode 1 := mokS_of (p1 := 53) (p2 := 1298) (p3 := 1297) rfl (by decide +kernel) (by decide +kernel)
abbrev mX12_hungOn : MX := (yX12_hungOn, cX12_hungOn, 5, (some .int))
set_option maxRecDepth 100000 in
theorem kX12_hungOn : MokV mX12_hungOn 2 := mokV_of (p1 := 53) (p2 := 1302) (p3 := 1301) (p4 := 37) rfl (by decide +kernel) (by decide +kernel) (by decide +kernel)
abbrev mX12_hang : MX := (yX12_hang, cX12_hang, 5, (some .int))
set_option maxRecDepth 100000 in
theorem kX12_hang : MokV mX12_hang 3 := mokV_of (p1 := 53) (p2 := 1295) (p3 := 1293) (p4 := 1294) rfl (by decide +kernel) (by decide +kernel) (by decide +kernel)
abbrev mX12_behindOf : MX := (yX12_behindOf, cX12_behindOf, 4, (some .int))
set_option maxRecDepth 100000 in
theorem kX12_behindOf : MokV mX12_behindOf 1 := mokV_of (p1 := 53) (p2 := 1310) (p3 := 1309) (p4 := 38) rfl (by decide +kernel) (by decide +kernel) (by decide +kernel)
abbrev mX12_behind : MX := (yX12_behind, cX12_behind, 2, (some .int))
set_option maxRecDepth 100000 in
theorem kX12_behind : MokV mX12_behind 1 := mokV_of (p1 := 53) (p2 := 1306) (p3 := 1304) (p4 := 1305) rfl (by decide +kernel) (by decide +kernel) (by decide +kernel)
abbrev mX12_isBelow : MX := (yX12_isBelow, cX12_isBelow, 4, (some .boolean))
set_option maxRecDepth 100000 in
theorem kX12_isBelow : MokV mX12_isBelow 2 := mokV_of (p1 := 53) (p2 := 1318) (p3 := 1317) (p4 := 39) rfl (by decide +kernel) (by decide +kernel) (by decide +kernel)
abbrev mX12_fall : MX := (yX12_fall, cX12_fall, 7, (some .int))
set_option maxRecDepth 100000 in
theorem kX12_fall : MokV mX12_fall 1 := mokV_of (p1 := 53) (p2 := 1314) (p3 := 1312) (p4 := 1313) rfl (by decide +kernel) (by decide +kernel) (by decide +kernel)
abbrev mX12_tree : MX := (yX12_tree, cX12_tree, 4, (some .int))
set_option maxRecDepth 100000 in
theorem kX12_tree : MokV mX12_tree 1 := mokV_of (p1 := 53) (p2 := 1322) (p3 := 1320) (p4 := 1321) rfl (by decide +kernel) (by decide +kernel) (by decide +kernel)
abbrev mX12_told : MX := (yX12_told, cX12_told, 4, (some .int))
set_option maxRecDepth 100000 in
theorem kX12_told : MokV mX12_told 1 := mokV_of (p1 := 53) (p2 := 1326) (p3 := 1324) (p4 := 1325) rfl (by decide +kernel) (by decide +kernel) (by decide +kernel)
abbrev mL_law : MX := (yL_law, code, 4, some .boolean)
abbrev mX11_init : MX := (yX11_init, cX11_init, 1, none)
abbrev mX12_init : MX := (yX12_init, cX12_init, 2, none)
end
section
/-! ===== code as blocks ===== -/
def bJ6_bitCount_0 : List OP := [oi (.iload_n 0), oi (.iload_n 0), oi (.iconst 1), oi .iushr, (.ldc_w 265, 1431655765, 0, 0, 0, 857), oi .iand, oi .isub, oi (.istore_n 0), oi (.iload_n 0), (.ldc_w 266, 858993459, 0, 0, 0, 858), oi .iand, oi (.iload_n 0), oi (.iconst 2), oi .iushr, (.ldc_w 266, 858993459, 0, 0, 0, 858), oi .iand, oi .iadd, oi (.istore_n 0), oi (.iload_n 0), oi (.iload_n 0), oi (.iconst 4), oi .iushr, oi .iadd, (.ldc_w 267, 252645135, 0, 0, 0, 859), oi .iand, oi (.istore_n 0), oi (.iload_n 0), oi (.iload_n 0), oi (.bipush 8), oi .iushr, oi .iadd, oi (.istore_n 0), oi (.iload_n 0), oi (.iload_n 0), oi (.bipush 16), oi .iushr, oi .iadd, oi (.istore_n 0), oi (.iload_n 0), oi (.bipush 63), oi .iand]
theorem oJ6_bitCount_0 : okB mJ6_bitCount 0 bJ6_bitCount_0 = true := by decide +kernel
theorem eJ6_bitCount_52 : decode mJ6_bitCount.2.1 52 = .ok (.ireturn, 1) := by decide +kernel
def bJ13_bitCount_0 : List OP := [oi (.lload_n 0), oi (.lload_n 0), oi (.iconst 1), oi .lushr, (.ldc2_w 314, 6148914691236517205, 0, 0, 0, 800), oi .land, oi .lsub, oi (.lstore_n 0), oi (.lload_n 0), (.ldc2_w 316, 3689348814741910323, 0, 0, 0, 801), oi .land, oi (.lload_n 0), oi (.iconst 2), oi .lushr, (.ldc2_w 316, 3689348814741910323, 0, 0, 0, 801), oi .land, oi .ladd, oi (.lstore_n 0), oi (.lload_n 0), oi (.lload_n 0), oi (.iconst 4), oi .lushr, oi .ladd, (.ldc2_w 318, 1085102592571150095, 0, 0, 0, 802), oi .land, oi (.lstore_n 0), oi (.lload_n 0), oi (.lload_n 0), oi (.bipush 8), oi .lushr, oi .ladd, oi (.lstore_n 0), oi (.lload_n 0), oi (.lload_n 0), oi (.bipush 16), oi .lushr, oi .ladd, oi (.lstore_n 0), oi (.lload_n 0), oi (.lload_n 0), oi (.bipush 32), oi .lushr, oi .ladd, oi (.lstore_n 0), oi (.lload_n 0), oi .l2i, oi (.bipush 127), oi .iand]
theorem oJ13_bitCount_0 : okB mJ13_bitCount 0 bJ13_bitCount_0 = true := by decide +kernel
theorem eJ13_bitCount_60 : decode mJ13_bitCount.2.1 60 = .ok (.ireturn, 1) := by decide +kernel
def bJ9_abs_0 : List OP := [oi (.iload_n 0)]
theorem oJ9_abs_0 : okB mJ9_abs 0 bJ9_abs_0 = true := by decide +kernel
theorem eJ9_abs_1 : decode mJ9_abs.2.1 1 = .ok (.ifCond .ge 8, 3) := by decide +kernel
def bJ9_abs_4 : List OP := [oi (.iload_n 0), oi .ineg, (.goto 4, 0, 0, 10, 0, 0)]
theorem oJ9_abs_4 : okB mJ9_abs 4 bJ9_abs_4 = true := by decide +kernel
def bJ9_abs_9 : List OP := [oi (.iload_n 0)]
theorem oJ9_abs_9 : okB mJ9_abs 9 bJ9_abs_9 = true := by decide +kernel
theorem eJ9_abs_10 : decode mJ9_abs.2.1 10 = .ok (.ireturn, 1) := by decide +kernel
def bJ9_max_0 : List OP := [oi (.iload_n 0), oi (.iload_n 1)]
theorem oJ9_max_0 : okB mJ9_max 0 bJ9_max_0 = true := by decide +kernel
theorem eJ9_max_2 : decode mJ9_max.2.1 2 = .ok (.if_icmp .lt 7, 3) := by decide +kernel
def bJ9_max_5 : List OP := [oi (.iload_n 0), (.goto 4, 0, 0, 10, 0, 0)]
theorem oJ9_max_5 : okB mJ9_max 5 bJ9_max_5 = true := by decide +kernel
def bJ9_max_9 : List OP := [oi (.iload_n 1)]
theorem oJ9_max_9 : okB mJ9_max 9 bJ9_max_9 = true := by decide +kernel
theorem eJ9_max_10 : decode mJ9_max.2.1 10 = .ok (.ireturn, 1) := by decide +kernel
def bJ9_min_0 : List OP := [oi (.iload_n 0), oi (.iload_n 1)]
theorem oJ9_min_0 : okB mJ9_min 0 bJ9_min_0 = true := by decide +kernel
theorem eJ9_min_2 : decode mJ9_min.2.1 2 = .ok (.if_icmp .gt 7, 3) := by decide +kernel
def bJ9_min_5 : List OP := [oi (.iload_n 0), (.goto 4, 0, 0, 10, 0, 0)]
theorem oJ9_min_5 : okB mJ9_min 5 bJ9_min_5 = true := by decide +kernel
def bJ9_min_9 : List OP := [oi (.iload_n 1)]
theorem oJ9_min_9 : okB mJ9_min 9 bJ9_min_9 = true := by decide +kernel
theorem eJ9_min_10 : decode mJ9_min.2.1 10 = .ok (.ireturn, 1) := by decide +kernel
def bX2_bitsOf_0 : List OP := [oi (.aload_n 0), (.getfield 13, 1, 2, 1, 2, 153), oi (.iload_n 1), oi (.iconst 3), oi .imul, oi (.iload_n 2), oi .iadd, oi .iaload]
theorem oX2_bitsOf_0 : okB mX2_bitsOf 0 bX2_bitsOf_0 = true := by decide +kernel
theorem eX2_bitsOf_10 : decode mX2_bitsOf.2.1 10 = .ok (.ireturn, 1) := by decide +kernel
def bX2_changeBits_0 : List OP := [oi (.aload_n 0), (.getfield 13, 1, 2, 1, 2, 153), oi (.iload_n 1), oi (.iconst 3), oi .imul, oi (.iload_n 2), oi .iadd, oi .iaload, oi (.istore 4), oi (.aload_n 0), (.getfield 13, 1, 2, 1, 2, 153), oi (.iload_n 1), oi (.iconst 3), oi .imul, oi (.iload_n 2), oi .iadd, oi (.iload_n 3), oi .iastore, oi (.iload 4)]
theorem oX2_changeBits_0 : okB mX2_changeBits 0 bX2_changeBits_0 = true := by decide +kernel
theorem eX2_changeBits_25 : decode mX2_changeBits.2.1 25 = .ok (.ireturn, 1) := by decide +kernel
def bX2_changeLine_0 : List OP := [oi (.iload_n 1), oi (.istore 4)]
theorem oX2_changeLine_0 : okB mX2_changeLine 0 bX2_changeLine_0 = true := by decide +kernel
def bX2_changeLine_3 : List OP := [oi (.iload 4), oi (.iload_n 2)]
theorem oX2_changeLine_3 : okB mX2_changeLine 3 bX2_changeLine_3 = true := by decide +kernel
theorem eX2_changeLine_6 : decode mX2_changeLine.2.1 6 = .ok (.if_icmp .gt 17, 3) := by decide +kernel
def bX2_changeLine_9 : List OP := [oi (.aload_n 0), (.getfield 9, 0, 2, 0, 2, 150), oi (.iload 4), oi (.iload_n 3), oi .iastore, oi (.iinc 4 1), (.goto (-17), 0, 0, 3, 0, 0)]
theorem oX2_changeLine_9 : okB mX2_changeLine 9 bX2_changeLine_9 = true := by decide +kernel
theorem eX2_changeLine_23 : decode mX2_changeLine.2.1 23 = .ok (.return_, 1) := by decide +kernel
def bX2_isDoor_0 : List OP := [oi (.iload_n 1)]
theorem oX2_isDoor_0 : okB mX2_isDoor 0 bX2_isDoor_0 = true := by decide +kernel
theorem eX2_isDoor_1 : decode mX2_isDoor.2.1 1 = .ok (.ifCond .eq 15, 3) := by decide +kernel
def bX2_isDoor_4 : List OP := [oi (.aload_n 0), (.getfield 20, 3, 2, 3, 0, 158), oi (.iload_n 1), oi .ishr, oi (.iconst 1), oi .iand, oi (.iconst 1)]
theorem oX2_isDoor_4 : okB mX2_isDoor 4 bX2_isDoor_4 = true := by decide +kernel
theorem eX2_isDoor_13 : decode mX2_isDoor.2.1 13 = .ok (.if_icmp .ne 7, 3) := by decide +kernel
def bX2_isDoor_16 : List OP := [oi (.iconst 1), (.goto 4, 0, 0, 21, 0, 0)]
theorem oX2_isDoor_16 : okB mX2_isDoor 16 bX2_isDoor_16 = true := by decide +kernel
def bX2_isDoor_20 : List OP := [oi (.iconst 0)]
theorem oX2_isDoor_20 : okB mX2_isDoor 20 bX2_isDoor_20 = true := by decide +kernel
theorem eX2_isDoor_21 : decode mX2_isDoor.2.1 21 = .ok (.ireturn, 1) := by decide +kernel
def bX4_change_0 : List OP := [oi (.aload_n 0), (.getfield 9, 0, 4, 0, 2, 348), oi (.iload_n 1), oi (.bipush 6), oi .imul, oi (.iload_n 2), oi .iadd, oi .iaload, oi (.istore 4), oi (.aload_n 0), (.getfield 9, 0, 4, 0, 2, 348), oi (.iload_n 1), oi (.bipush 6), oi .imul, oi (.iload_n 2), oi .iadd, oi (.iload_n 3), oi .iastore, oi (.iload 4)]
theorem oX4_change_0 : okB mX4_change 0 bX4_change_0 = true := by decide +kernel
theorem eX4_change_27 : decode mX4_change.2.1 27 = .ok (.ireturn, 1) := by decide +kernel
def bX4_numberAt_0 : List OP := [oi (.aload_n 0), (.getfield 9, 0, 4, 0, 2, 348), oi (.iload_n 1), oi (.bipush 6), oi .imul, oi (.iload_n 2), oi .iadd, oi .iaload]
theorem oX4_numberAt_0 : okB mX4_numberAt 0 bX4_numberAt_0 = true := by decide +kernel
theorem eX4_numberAt_11 : decode mX4_numberAt.2.1 11 = .ok (.ireturn, 1) := by decide +kernel
def bX4_plainSum_0 : List OP := [oi (.iconst 0), oi (.istore_n 2), oi (.iconst 0), oi (.istore_n 3)]
theorem oX4_plainSum_0 : okB mX4_plainSum 0 bX4_plainSum_0 = true := by decide +kernel
def bX4_plainSum_4 : List OP := [oi (.iload_n 3), oi (.bipush 6)]
theorem oX4_plainSum_4 : okB mX4_plainSum 4 bX4_plainSum_4 = true := by decide +kernel
theorem eX4_plainSum_7 : decode mX4_plainSum.2.1 7 = .ok (.if_icmp .ge 18, 3) := by decide +kernel
def bX4_plainSum_10 : List OP := [oi (.iload_n 2), oi (.aload_n 0), oi (.iload_n 1), oi (.iload_n 3)]
theorem oX4_plainSum_10 : okB mX4_plainSum 10 bX4_plainSum_10 = true := by decide +kernel
theorem eX4_plainSum_14 : decode mX4_plainSum.2.1 14 = .ok (.invokevirtual 13, 3) := by decide +kernel
theorem lX4_plainSum_14 : okL 877 (.methodLink mX4_plainSum.1.cls 13 mX4_numberAt.1) = true := by decide +kernel
def bX4_plainSum_17 : List OP := [oi .iadd, oi (.istore_n 2), oi (.iinc 3 1), (.goto (-18), 0, 0, 4, 0, 0)]
theorem oX4_plainSum_17 : okB mX4_plainSum 17 bX4_plainSum_17 = true := by decide +kernel
def bX4_plainSum_25 : List OP := [oi (.iload_n 2)]
theorem oX4_plainSum_25 : okB mX4_plainSum 25 bX4_plainSum_25 = true := by decide +kernel
theorem eX4_plainSum_26 : decode mX4_plainSum.2.1 26 = .ok (.ireturn, 1) := by decide +kernel
def bX4_placeSum_0 : List OP := [oi (.iconst 0), oi (.istore_n 2), oi (.iconst 0), oi (.istore_n 3)]
theorem oX4_placeSum_0 : okB mX4_placeSum 0 bX4_placeSum_0 = true := by decide +kernel
def bX4_placeSum_4 : List OP := [oi (.iload_n 3), oi (.bipush 6)]
theorem oX4_placeSum_4 : okB mX4_placeSum 4 bX4_placeSum_4 = true := by decide +kernel
theorem eX4_placeSum_7 : decode mX4_placeSum.2.1 7 = .ok (.if_icmp .ge 22, 3) := by decide +kernel
def bX4_placeSum_10 : List OP := [oi (.iload_n 2), oi (.aload_n 0), oi (.iload_n 1), oi (.iload_n 3)]
theorem oX4_placeSum_10 : okB mX4_placeSum 10 bX4_placeSum_10 = true := by decide +kernel
theorem eX4_placeSum_14 : decode mX4_placeSum.2.1 14 = .ok (.invokevirtual 13, 3) := by decide +kernel
theorem lX4_placeSum_14 : okL 877 (.methodLink mX4_placeSum.1.cls 13 mX4_numberAt.1) = true := by decide +kernel
def bX4_placeSum_17 : List OP := [oi (.iload_n 3), oi (.iconst 1), oi .iadd, oi .imul, oi .iadd, oi (.istore_n 2), oi (.iinc 3 1), (.goto (-22), 0, 0, 4, 0, 0)]
theorem oX4_placeSum_17 : okB mX4_placeSum 17 bX4_placeSum_17 = true := by decide +kernel
def bX4_placeSum_29 : List OP := [oi (.iload_n 2)]
theorem oX4_placeSum_29 : okB mX4_placeSum 29 bX4_placeSum_29 = true := by decide +kernel
theorem eX4_placeSum_30 : decode mX4_placeSum.2.1 30 = .ok (.ireturn, 1) := by decide +kernel
def bX4_restorable_0 : List OP := [oi (.iload_n 0), oi (.bipush 63), oi .iand]
theorem oX4_restorable_0 : okB mX4_restorable 0 bX4_restorable_0 = true := by decide +kernel
theorem eX4_restorable_4 : decode mX4_restorable.2.1 4 = .ok (.invokestatic 17, 3) := by decide +kernel
theorem lX4_restorable_4 : okL 892 (.methodLink mX4_restorable.1.cls 17 mJ6_bitCount.1) = true := by decide +kernel
def bX4_restorable_7 : List OP := [oi (.istore_n 1), oi (.iconst 2), oi (.iload_n 0), oi (.bipush 6), oi .ishr, oi (.iconst 3), oi .iand]
theorem oX4_restorable_7 : okB mX4_restorable 7 bX4_restorable_7 = true := by decide +kernel
theorem eX4_restorable_15 : decode mX4_restorable.2.1 15 = .ok (.invokestatic 17, 3) := by decide +kernel
theorem lX4_restorable_15 : okL 892 (.methodLink mX4_restorable.1.cls 17 mJ6_bitCount.1) = true := by decide +kernel
def bX4_restorable_18 : List OP := [oi .isub, oi (.istore_n 2), oi (.iload_n 1), oi (.iload_n 2)]
theorem oX4_restorable_18 : okB mX4_restorable 18 bX4_restorable_18 = true := by decide +kernel
theorem eX4_restorable_22 : decode mX4_restorable.2.1 22 = .ok (.if_icmp .gt 7, 3) := by decide +kernel
def bX4_restorable_25 : List OP := [oi (.iconst 1), (.goto 4, 0, 0, 30, 0, 0)]
theorem oX4_restorable_25 : okB mX4_restorable 25 bX4_restorable_25 = true := by decide +kernel
def bX4_restorable_29 : List OP := [oi (.iconst 0)]
theorem oX4_restorable_29 : okB mX4_restorable 29 bX4_restorable_29 = true := by decide +kernel
theorem eX4_restorable_30 : decode mX4_restorable.2.1 30 = .ok (.ireturn, 1) := by decide +kernel
def bX5_change_0 : List OP := [oi (.aload_n 0), (.getfield 11, 0, 5, 0, 2, 338), oi (.iload_n 1), oi .iaload, oi (.istore_n 3), oi (.aload_n 0), (.getfield 11, 0, 5, 0, 2, 338), oi (.iload_n 1), oi (.iload_n 2), oi .iastore, oi (.iload_n 3)]
theorem oX5_change_0 : okB mX5_change 0 bX5_change_0 = true := by decide +kernel
theorem eX5_change_15 : decode mX5_change.2.1 15 = .ok (.ireturn, 1) := by decide +kernel
def bX5_blamed_0 : List OP := [oi (.iconst 0), oi (.istore_n 3), oi (.iconst 0), oi (.istore 4)]
theorem oX5_blamed_0 : okB mX5_blamed 0 bX5_blamed_0 = true := by decide +kernel
def bX5_blamed_5 : List OP := [oi (.iload 4), oi (.bipush 8)]
theorem oX5_blamed_5 : okB mX5_blamed 5 bX5_blamed_5 = true := by decide +kernel
theorem eX5_blamed_9 : decode mX5_blamed.2.1 9 = .ok (.if_icmp .ge 27, 3) := by decide +kernel
def bX5_blamed_12 : List OP := [oi (.aload_n 0), oi (.iload 4), oi (.iload_n 1), oi (.iload_n 2)]
theorem oX5_blamed_12 : okB mX5_blamed 12 bX5_blamed_12 = true := by decide +kernel
theorem eX5_blamed_17 : decode mX5_blamed.2.1 17 = .ok (.invokevirtual 17, 3) := by decide +kernel
theorem lX5_blamed_17 : okL 838 (.methodLink mX5_blamed.1.cls 17 mX5_unlike.1) = true := by decide +kernel
theorem eX5_blamed_20 : decode mX5_blamed.2.1 20 = .ok (.ifCond .ne 10, 3) := by decide +kernel
def bX5_blamed_23 : List OP := [oi (.iload_n 3), oi (.iconst 1), oi (.iload 4), oi .ishl, oi .ior, oi (.istore_n 3)]
theorem oX5_blamed_23 : okB mX5_blamed 23 bX5_blamed_23 = true := by decide +kernel
def bX5_blamed_30 : List OP := [oi (.iinc 4 1), (.goto (-28), 0, 0, 5, 0, 0)]
theorem oX5_blamed_30 : okB mX5_blamed 30 bX5_blamed_30 = true := by decide +kernel
def bX5_blamed_36 : List OP := [oi (.iload_n 3)]
theorem oX5_blamed_36 : okB mX5_blamed 36 bX5_blamed_36 = true := by decide +kernel
theorem eX5_blamed_37 : decode mX5_blamed.2.1 37 = .ok (.ireturn, 1) := by decide +kernel
def bX5_pairs_0 : List OP := [oi (.iconst 0), oi (.istore_n 3), oi (.iconst 0), oi (.istore 4)]
theorem oX5_pairs_0 : okB mX5_pairs 0 bX5_pairs_0 = true := by decide +kernel
def bX5_pairs_5 : List OP := [oi (.iload 4), oi (.bipush 8)]
theorem oX5_pairs_5 : okB mX5_pairs 5 bX5_pairs_5 = true := by decide +kernel
theorem eX5_pairs_9 : decode mX5_pairs.2.1 9 = .ok (.if_icmp .ge 44, 3) := by decide +kernel
def bX5_pairs_12 : List OP := [oi (.iload 4), oi (.iconst 1), oi .iadd, oi (.istore 5)]
theorem oX5_pairs_12 : okB mX5_pairs 12 bX5_pairs_12 = true := by decide +kernel
def bX5_pairs_18 : List OP := [oi (.iload 5), oi (.bipush 8)]
theorem oX5_pairs_18 : okB mX5_pairs 18 bX5_pairs_18 = true := by decide +kernel
theorem eX5_pairs_22 : decode mX5_pairs.2.1 22 = .ok (.if_icmp .ge 25, 3) := by decide +kernel
def bX5_pairs_25 : List OP := [oi (.aload_n 0), oi (.iload 4), oi (.iload 5), oi (.iload_n 1), oi (.iload_n 2)]
theorem oX5_pairs_25 : okB mX5_pairs 25 bX5_pairs_25 = true := by decide +kernel
theorem eX5_pairs_32 : decode mX5_pairs.2.1 32 = .ok (.invokevirtual 21, 3) := by decide +kernel
theorem lX5_pairs_32 : okL 846 (.methodLink mX5_pairs.1.cls 21 mX5_isPair.1) = true := by decide +kernel
theorem eX5_pairs_35 : decode mX5_pairs.2.1 35 = .ok (.ifCond .eq 6, 3) := by decide +kernel
def bX5_pairs_38 : List OP := [oi (.iinc 3 1)]
theorem oX5_pairs_38 : okB mX5_pairs 38 bX5_pairs_38 = true := by decide +kernel
def bX5_pairs_41 : List OP := [oi (.iinc 5 1), (.goto (-26), 0, 0, 18, 0, 0)]
theorem oX5_pairs_41 : okB mX5_pairs 41 bX5_pairs_41 = true := by decide +kernel
def bX5_pairs_47 : List OP := [oi (.iinc 4 1), (.goto (-45), 0, 0, 5, 0, 0)]
theorem oX5_pairs_47 : okB mX5_pairs 47 bX5_pairs_47 = true := by decide +kernel
def bX5_pairs_53 : List OP := [oi (.iload_n 3)]
theorem oX5_pairs_53 : okB mX5_pairs 53 bX5_pairs_53 = true := by decide +kernel
theorem eX5_pairs_54 : decode mX5_pairs.2.1 54 = .ok (.ireturn, 1) := by decide +kernel
def bX5_firstPair_0 : List OP := [oi (.iconst 0), oi (.istore_n 3)]
theorem oX5_firstPair_0 : okB mX5_firstPair 0 bX5_firstPair_0 = true := by decide +kernel
def bX5_firstPair_2 : List OP := [oi (.iload_n 3), oi (.bipush 8)]
theorem oX5_firstPair_2 : okB mX5_firstPair 2 bX5_firstPair_2 = true := by decide +kernel
theorem eX5_firstPair_5 : decode mX5_firstPair.2.1 5 = .ok (.if_icmp .ge 47, 3) := by decide +kernel
def bX5_firstPair_8 : List OP := [oi (.iload_n 3), oi (.iconst 1), oi .iadd, oi (.istore 4)]
theorem oX5_firstPair_8 : okB mX5_firstPair 8 bX5_firstPair_8 = true := by decide +kernel
def bX5_firstPair_13 : List OP := [oi (.iload 4), oi (.bipush 8)]
theorem oX5_firstPair_13 : okB mX5_firstPair 13 bX5_firstPair_13 = true := by decide +kernel
theorem eX5_firstPair_17 : decode mX5_firstPair.2.1 17 = .ok (.if_icmp .ge 29, 3) := by decide +kernel
def bX5_firstPair_20 : List OP := [oi (.aload_n 0), oi (.iload_n 3), oi (.iload 4), oi (.iload_n 1), oi (.iload_n 2)]
theorem oX5_firstPair_20 : okB mX5_firstPair 20 bX5_firstPair_20 = true := by decide +kernel
theorem eX5_firstPair_26 : decode mX5_firstPair.2.1 26 = .ok (.invokevirtual 21, 3) := by decide +kernel
theorem lX5_firstPair_26 : okL 846 (.methodLink mX5_firstPair.1.cls 21 mX5_isPair.1) = true := by decide +kernel
theorem eX5_firstPair_29 : decode mX5_firstPair.2.1 29 = .ok (.ifCond .eq 11, 3) := by decide +kernel
def bX5_firstPair_32 : List OP := [oi (.bipush 10), oi (.iload_n 3), oi .imul, oi (.iload 4), oi .iadd]
theorem oX5_firstPair_32 : okB mX5_firstPair 32 bX5_firstPair_32 = true := by decide +kernel
theorem eX5_firstPair_39 : decode mX5_firstPair.2.1 39 = .ok (.ireturn, 1) := by decide +kernel
def bX5_firstPair_40 : List OP := [oi (.iinc 4 1), (.goto (-30), 0, 0, 13, 0, 0)]
theorem oX5_firstPair_40 : okB mX5_firstPair 40 bX5_firstPair_40 = true := by decide +kernel
def bX5_firstPair_46 : List OP := [oi (.iinc 3 1), (.goto (-47), 0, 0, 2, 0, 0)]
theorem oX5_firstPair_46 : okB mX5_firstPair 46 bX5_firstPair_46 = true := by decide +kernel
def bX5_firstPair_52 : List OP := [oi (.bipush (-6))]
theorem oX5_firstPair_52 : okB mX5_firstPair 52 bX5_firstPair_52 = true := by decide +kernel
theorem eX5_firstPair_54 : decode mX5_firstPair.2.1 54 = .ok (.ireturn, 1) := by decide +kernel
def bX5_isPair_0 : List OP := [oi (.aload_n 0), oi (.iload_n 1), oi (.iload_n 3), oi (.iload 4)]
theorem oX5_isPair_0 : okB mX5_isPair 0 bX5_isPair_0 = true := by decide +kernel
theorem eX5_isPair_5 : decode mX5_isPair.2.1 5 = .ok (.invokevirtual 17, 3) := by decide +kernel
theorem lX5_isPair_5 : okL 838 (.methodLink mX5_isPair.1.cls 17 mX5_unlike.1) = true := by decide +kernel
def bX5_isPair_8 : List OP := [oi (.istore 5), oi (.aload_n 0), oi (.iload_n 2), oi (.iload_n 3), oi (.iload 4)]
theorem oX5_isPair_8 : okB mX5_isPair 8 bX5_isPair_8 = true := by decide +kernel
theorem eX5_isPair_15 : decode mX5_isPair.2.1 15 = .ok (.invokevirtual 17, 3) := by decide +kernel
theorem lX5_isPair_15 : okL 838 (.methodLink mX5_isPair.1.cls 17 mX5_unlike.1) = true := by decide +kernel
def bX5_isPair_18 : List OP := [oi (.istore 6), oi (.iload 5)]
theorem oX5_isPair_18 : okB mX5_isPair 18 bX5_isPair_18 = true := by decide +kernel
theorem eX5_isPair_22 : decode mX5_isPair.2.1 22 = .ok (.ifCond .eq 20, 3) := by decide +kernel
def bX5_isPair_25 : List OP := [oi (.iload 6)]
theorem oX5_isPair_25 : okB mX5_isPair 25 bX5_isPair_25 = true := by decide +kernel
theorem eX5_isPair_27 : decode mX5_isPair.2.1 27 = .ok (.ifCond .eq 15, 3) := by decide +kernel
def bX5_isPair_30 : List OP := [oi (.iload 5), oi (.iload 6), oi .iand]
theorem oX5_isPair_30 : okB mX5_isPair 30 bX5_isPair_30 = true := by decide +kernel
theorem eX5_isPair_35 : decode mX5_isPair.2.1 35 = .ok (.ifCond .ne 7, 3) := by decide +kernel
def bX5_isPair_38 : List OP := [oi (.iconst 1), (.goto 4, 0, 0, 43, 0, 0)]
theorem oX5_isPair_38 : okB mX5_isPair 38 bX5_isPair_38 = true := by decide +kernel
def bX5_isPair_42 : List OP := [oi (.iconst 0)]
theorem oX5_isPair_42 : okB mX5_isPair 42 bX5_isPair_42 = true := by decide +kernel
theorem eX5_isPair_43 : decode mX5_isPair.2.1 43 = .ok (.ireturn, 1) := by decide +kernel
def bX5_unlike_0 : List OP := [oi (.aload_n 0), (.getfield 11, 0, 5, 0, 2, 338), oi (.iload_n 1), oi .iaload, oi (.iload_n 3), oi .ixor, oi (.iload_n 2), oi .iand]
theorem oX5_unlike_0 : okB mX5_unlike 0 bX5_unlike_0 = true := by decide +kernel
theorem eX5_unlike_10 : decode mX5_unlike.2.1 10 = .ok (.ireturn, 1) := by decide +kernel
def bX6_rehang_0 : List OP := [oi (.aload_n 0), (.getfield 9, 0, 6, 0, 2, 358), oi (.iload_n 1), oi .iaload, oi (.istore 4), oi (.aload_n 0), (.getfield 9, 0, 6, 0, 2, 358), oi (.iload_n 1), oi (.iload_n 2), oi .iastore, oi (.aload_n 0), (.getfield 15, 1, 6, 1, 2, 359), oi (.iload_n 1), oi (.iload_n 3), oi .iastore, oi (.iload 4)]
theorem oX6_rehang_0 : okB mX6_rehang 0 bX6_rehang_0 = true := by decide +kernel
theorem eX6_rehang_24 : decode mX6_rehang.2.1 24 = .ok (.ireturn, 1) := by decide +kernel
def bX6_hangingOn_0 : List OP := [oi (.iconst 0), oi (.istore_n 3), oi (.iconst 1), oi (.istore 4)]
theorem oX6_hangingOn_0 : okB mX6_hangingOn 0 bX6_hangingOn_0 = true := by decide +kernel
def bX6_hangingOn_5 : List OP := [oi (.iload 4), oi (.bipush 10)]
theorem oX6_hangingOn_5 : okB mX6_hangingOn 5 bX6_hangingOn_5 = true := by decide +kernel
theorem eX6_hangingOn_9 : decode mX6_hangingOn.2.1 9 = .ok (.if_icmp .ge 39, 3) := by decide +kernel
def bX6_hangingOn_12 : List OP := [oi (.aload_n 0), (.getfield 18, 2, 6, 2, 2, 360), oi (.iload 4), oi .baload]
theorem oX6_hangingOn_12 : okB mX6_hangingOn 12 bX6_hangingOn_12 = true := by decide +kernel
theorem eX6_hangingOn_19 : decode mX6_hangingOn.2.1 19 = .ok (.ifCond .ne 23, 3) := by decide +kernel
def bX6_hangingOn_22 : List OP := [oi (.aload_n 0), (.getfield 9, 0, 6, 0, 2, 358), oi (.iload 4), oi .iaload, oi (.iload_n 1)]
theorem oX6_hangingOn_22 : okB mX6_hangingOn 22 bX6_hangingOn_22 = true := by decide +kernel
theorem eX6_hangingOn_30 : decode mX6_hangingOn.2.1 30 = .ok (.if_icmp .ne 12, 3) := by decide +kernel
def bX6_hangingOn_33 : List OP := [oi (.iload 4), oi (.iload_n 2)]
theorem oX6_hangingOn_33 : okB mX6_hangingOn 33 bX6_hangingOn_33 = true := by decide +kernel
theorem eX6_hangingOn_36 : decode mX6_hangingOn.2.1 36 = .ok (.if_icmp .eq 6, 3) := by decide +kernel
def bX6_hangingOn_39 : List OP := [oi (.iinc 3 1)]
theorem oX6_hangingOn_39 : okB mX6_hangingOn 39 bX6_hangingOn_39 = true := by decide +kernel
def bX6_hangingOn_42 : List OP := [oi (.iinc 4 1), (.goto (-40), 0, 0, 5, 0, 0)]
theorem oX6_hangingOn_42 : okB mX6_hangingOn 42 bX6_hangingOn_42 = true := by decide +kernel
def bX6_hangingOn_48 : List OP := [oi (.iload_n 3)]
theorem oX6_hangingOn_48 : okB mX6_hangingOn 48 bX6_hangingOn_48 = true := by decide +kernel
theorem eX6_hangingOn_49 : decode mX6_hangingOn.2.1 49 = .ok (.ireturn, 1) := by decide +kernel
def bX6_delayUpTo0_0 : List OP := [oi (.iconst 0), oi (.istore_n 2), oi (.iload_n 1), oi (.istore_n 3), oi (.iconst 0), oi (.istore 4)]
theorem oX6_delayUpTo0_0 : okB mX6_delayUpTo0 0 bX6_delayUpTo0_0 = true := by decide +kernel
def bX6_delayUpTo0_7 : List OP := [oi (.iload 4), oi (.bipush 10)]
theorem oX6_delayUpTo0_7 : okB mX6_delayUpTo0 7 bX6_delayUpTo0_7 = true := by decide +kernel
theorem eX6_delayUpTo0_11 : decode mX6_delayUpTo0.2.1 11 = .ok (.if_icmp .ge 29, 3) := by decide +kernel
def bX6_delayUpTo0_14 : List OP := [oi (.iload_n 3)]
theorem oX6_delayUpTo0_14 : okB mX6_delayUpTo0 14 bX6_delayUpTo0_14 = true := by decide +kernel
theorem eX6_delayUpTo0_15 : decode mX6_delayUpTo0.2.1 15 = .ok (.ifCond .le 25, 3) := by decide +kernel
def bX6_delayUpTo0_18 : List OP := [oi (.iload_n 2), oi (.aload_n 0), (.getfield 15, 1, 6, 1, 2, 359), oi (.iload_n 3), oi .iaload, oi .iadd, oi (.istore_n 2), oi (.aload_n 0), (.getfield 9, 0, 6, 0, 2, 358), oi (.iload_n 3), oi .iaload, oi (.istore_n 3), oi (.iinc 4 1), (.goto (-30), 0, 0, 7, 0, 0)]
theorem oX6_delayUpTo0_18 : okB mX6_delayUpTo0 18 bX6_delayUpTo0_18 = true := by decide +kernel
def bX6_delayUpTo0_40 : List OP := [oi (.iload_n 2)]
theorem oX6_delayUpTo0_40 : okB mX6_delayUpTo0 40 bX6_delayUpTo0_40 = true := by decide +kernel
theorem eX6_delayUpTo0_41 : decode mX6_delayUpTo0.2.1 41 = .ok (.ireturn, 1) := by decide +kernel
def bX6_drop_0 : List OP := [oi (.aload_n 0), (.getfield 18, 2, 6, 2, 2, 360), oi (.iload_n 1), oi (.iconst 1), oi .bastore, oi (.iconst 0), oi (.istore_n 3), oi (.iload_n 1), oi (.iconst 1), oi .iadd, oi (.istore 4)]
theorem oX6_drop_0 : okB mX6_drop 0 bX6_drop_0 = true := by decide +kernel
def bX6_drop_14 : List OP := [oi (.iload 4), oi (.bipush 10)]
theorem oX6_drop_14 : okB mX6_drop 14 bX6_drop_14 = true := by decide +kernel
theorem eX6_drop_18 : decode mX6_drop.2.1 18 = .ok (.if_icmp .ge 47, 3) := by decide +kernel
def bX6_drop_21 : List OP := [oi (.aload_n 0), (.getfield 18, 2, 6, 2, 2, 360), oi (.iload 4), oi .baload]
theorem oX6_drop_21 : okB mX6_drop 21 bX6_drop_21 = true := by decide +kernel
theorem eX6_drop_28 : decode mX6_drop.2.1 28 = .ok (.ifCond .ne 31, 3) := by decide +kernel
def bX6_drop_31 : List OP := [oi (.aload_n 0), (.getfield 9, 0, 6, 0, 2, 358), oi (.iload 4), oi .iaload, oi (.iload_n 1)]
theorem oX6_drop_31 : okB mX6_drop 31 bX6_drop_31 = true := by decide +kernel
theorem eX6_drop_39 : decode mX6_drop.2.1 39 = .ok (.if_icmp .ne 20, 3) := by decide +kernel
def bX6_drop_42 : List OP := [oi (.aload_n 0), (.getfield 9, 0, 6, 0, 2, 358), oi (.iload 4), oi (.aload_n 0), oi (.iload 4), oi (.iload_n 2)]
theorem oX6_drop_42 : okB mX6_drop 42 bX6_drop_42 = true := by decide +kernel
theorem eX6_drop_52 : decode mX6_drop.2.1 52 = .ok (.invokevirtual 22, 3) := by decide +kernel
theorem lX6_drop_52 : okL 925 (.methodLink mX6_drop.1.cls 22 mX6_newParent.1) = true := by decide +kernel
def bX6_drop_55 : List OP := [oi .iastore, oi (.iinc 3 1)]
theorem oX6_drop_55 : okB mX6_drop 55 bX6_drop_55 = true := by decide +kernel
def bX6_drop_59 : List OP := [oi (.iinc 4 1), (.goto (-48), 0, 0, 14, 0, 0)]
theorem oX6_drop_59 : okB mX6_drop 59 bX6_drop_59 = true := by decide +kernel
def bX6_drop_65 : List OP := [oi (.iload_n 3)]
theorem oX6_drop_65 : okB mX6_drop 65 bX6_drop_65 = true := by decide +kernel
theorem eX6_drop_66 : decode mX6_drop.2.1 66 = .ok (.ireturn, 1) := by decide +kernel
def bX6_newParent_0 : List OP := [oi (.bipush (-6)), oi (.istore_n 3), oi (.iconst 0), oi (.istore 4)]
theorem oX6_newParent_0 : okB mX6_newParent 0 bX6_newParent_0 = true := by decide +kernel
def bX6_newParent_6 : List OP := [oi (.iload 4), oi (.iload_n 1)]
theorem oX6_newParent_6 : okB mX6_newParent 6 bX6_newParent_6 = true := by decide +kernel
theorem eX6_newParent_9 : decode mX6_newParent.2.1 9 = .ok (.if_icmp .ge 53, 3) := by decide +kernel
def bX6_newParent_12 : List OP := [oi (.aload_n 0), (.getfield 18, 2, 6, 2, 2, 360), oi (.iload 4), oi .baload]
theorem oX6_newParent_12 : okB mX6_newParent 12 bX6_newParent_12 = true := by decide +kernel
theorem eX6_newParent_19 : decode mX6_newParent.2.1 19 = .ok (.ifCond .ne 37, 3) := by decide +kernel
def bX6_newParent_22 : List OP := [oi (.aload_n 0), oi (.iload 4), oi (.iload_n 1)]
theorem oX6_newParent_22 : okB mX6_newParent 22 bX6_newParent_22 = true := by decide +kernel
theorem eX6_newParent_26 : decode mX6_newParent.2.1 26 = .ok (.invokevirtual 26, 3) := by decide +kernel
theorem lX6_newParent_26 : okL 929 (.methodLink mX6_newParent.1.cls 26 mX6_hangingOn.1) = true := by decide +kernel
def bX6_newParent_29 : List OP := [oi (.iload_n 2)]
theorem oX6_newParent_29 : okB mX6_newParent 29 bX6_newParent_29 = true := by decide +kernel
theorem eX6_newParent_30 : decode mX6_newParent.2.1 30 = .ok (.if_icmp .ge 26, 3) := by decide +kernel
def bX6_newParent_33 : List OP := [oi (.iload_n 3), oi (.bipush (-6))]
theorem oX6_newParent_33 : okB mX6_newParent 33 bX6_newParent_33 = true := by decide +kernel
theorem eX6_newParent_36 : decode mX6_newParent.2.1 36 = .ok (.if_icmp .eq 17, 3) := by decide +kernel
def bX6_newParent_39 : List OP := [oi (.aload_n 0), oi (.iload 4)]
theorem oX6_newParent_39 : okB mX6_newParent 39 bX6_newParent_39 = true := by decide +kernel
theorem eX6_newParent_42 : decode mX6_newParent.2.1 42 = .ok (.invokevirtual 29, 3) := by decide +kernel
theorem lX6_newParent_42 : okL 930 (.methodLink mX6_newParent.1.cls 29 mX6_delayUpTo0.1) = true := by decide +kernel
def bX6_newParent_45 : List OP := [oi (.aload_n 0), oi (.iload_n 3)]
theorem oX6_newParent_45 : okB mX6_newParent 45 bX6_newParent_45 = true := by decide +kernel
theorem eX6_newParent_47 : decode mX6_newParent.2.1 47 = .ok (.invokevirtual 29, 3) := by decide +kernel
theorem lX6_newParent_47 : okL 930 (.methodLink mX6_newParent.1.cls 29 mX6_delayUpTo0.1) = true := by decide +kernel
theorem eX6_newParent_50 : decode mX6_newParent.2.1 50 = .ok (.if_icmp .ge 6, 3) := by decide +kernel
def bX6_newParent_53 : List OP := [oi (.iload 4), oi (.istore_n 3)]
theorem oX6_newParent_53 : okB mX6_newParent 53 bX6_newParent_53 = true := by decide +kernel
def bX6_newParent_56 : List OP := [oi (.iinc 4 1), (.goto (-53), 0, 0, 6, 0, 0)]
theorem oX6_newParent_56 : okB mX6_newParent 56 bX6_newParent_56 = true := by decide +kernel
def bX6_newParent_62 : List OP := [oi (.iload_n 3), oi (.bipush (-6))]
theorem oX6_newParent_62 : okB mX6_newParent 62 bX6_newParent_62 = true := by decide +kernel
theorem eX6_newParent_65 : decode mX6_newParent.2.1 65 = .ok (.if_icmp .ne 7, 3) := by decide +kernel
def bX6_newParent_68 : List OP := [oi (.iconst 0), (.goto 4, 0, 0, 73, 0, 0)]
theorem oX6_newParent_68 : okB mX6_newParent 68 bX6_newParent_68 = true := by decide +kernel
def bX6_newParent_72 : List OP := [oi (.iload_n 3)]
theorem oX6_newParent_72 : okB mX6_newParent 72 bX6_newParent_72 = true := by decide +kernel
theorem eX6_newParent_73 : decode mX6_newParent.2.1 73 = .ok (.ireturn, 1) := by decide +kernel
def bX6_standing_0 : List OP := [oi (.iconst 0), oi (.istore_n 1), oi (.iconst 0), oi (.istore_n 2)]
theorem oX6_standing_0 : okB mX6_standing 0 bX6_standing_0 = true := by decide +kernel
def bX6_standing_4 : List OP := [oi (.iload_n 2), oi (.bipush 10)]
theorem oX6_standing_4 : okB mX6_standing 4 bX6_standing_4 = true := by decide +kernel
theorem eX6_standing_7 : decode mX6_standing.2.1 7 = .ok (.if_icmp .ge 24, 3) := by decide +kernel
def bX6_standing_10 : List OP := [oi (.aload_n 0), (.getfield 18, 2, 6, 2, 2, 360), oi (.iload_n 2), oi .baload]
theorem oX6_standing_10 : okB mX6_standing 10 bX6_standing_10 = true := by decide +kernel
theorem eX6_standing_16 : decode mX6_standing.2.1 16 = .ok (.ifCond .ne 9, 3) := by decide +kernel
def bX6_standing_19 : List OP := [oi (.iload_n 1), oi (.iconst 1), oi (.iload_n 2), oi .ishl, oi .ior, oi (.istore_n 1)]
theorem oX6_standing_19 : okB mX6_standing 19 bX6_standing_19 = true := by decide +kernel
def bX6_standing_25 : List OP := [oi (.iinc 2 1), (.goto (-24), 0, 0, 4, 0, 0)]
theorem oX6_standing_25 : okB mX6_standing 25 bX6_standing_25 = true := by decide +kernel
def bX6_standing_31 : List OP := [oi (.iload_n 1)]
theorem oX6_standing_31 : okB mX6_standing 31 bX6_standing_31 = true := by decide +kernel
theorem eX6_standing_32 : decode mX6_standing.2.1 32 = .ok (.ireturn, 1) := by decide +kernel
def bX6_standingWithin_0 : List OP := [oi (.iconst 0), oi (.istore_n 2), oi (.iconst 0), oi (.istore_n 3)]
theorem oX6_standingWithin_0 : okB mX6_standingWithin 0 bX6_standingWithin_0 = true := by decide +kernel
def bX6_standingWithin_4 : List OP := [oi (.iload_n 3), oi (.bipush 10)]
theorem oX6_standingWithin_4 : okB mX6_standingWithin 4 bX6_standingWithin_4 = true := by decide +kernel
theorem eX6_standingWithin_7 : decode mX6_standingWithin.2.1 7 = .ok (.if_icmp .ge 33, 3) := by decide +kernel
def bX6_standingWithin_10 : List OP := [oi (.aload_n 0), (.getfield 18, 2, 6, 2, 2, 360), oi (.iload_n 3), oi .baload]
theorem oX6_standingWithin_10 : okB mX6_standingWithin 10 bX6_standingWithin_10 = true := by decide +kernel
theorem eX6_standingWithin_16 : decode mX6_standingWithin.2.1 16 = .ok (.ifCond .ne 18, 3) := by decide +kernel
def bX6_standingWithin_19 : List OP := [oi (.aload_n 0), oi (.iload_n 3)]
theorem oX6_standingWithin_19 : okB mX6_standingWithin 19 bX6_standingWithin_19 = true := by decide +kernel
theorem eX6_standingWithin_21 : decode mX6_standingWithin.2.1 21 = .ok (.invokevirtual 29, 3) := by decide +kernel
theorem lX6_standingWithin_21 : okL 930 (.methodLink mX6_standingWithin.1.cls 29 mX6_delayUpTo0.1) = true := by decide +kernel
def bX6_standingWithin_24 : List OP := [oi (.iload_n 1)]
theorem oX6_standingWithin_24 : okB mX6_standingWithin 24 bX6_standingWithin_24 = true := by decide +kernel
theorem eX6_standingWithin_25 : decode mX6_standingWithin.2.1 25 = .ok (.if_icmp .gt 9, 3) := by decide +kernel
def bX6_standingWithin_28 : List OP := [oi (.iload_n 2), oi (.iconst 1), oi (.iload_n 3), oi .ishl, oi .ior, oi (.istore_n 2)]
theorem oX6_standingWithin_28 : okB mX6_standingWithin 28 bX6_standingWithin_28 = true := by decide +kernel
def bX6_standingWithin_34 : List OP := [oi (.iinc 3 1), (.goto (-33), 0, 0, 4, 0, 0)]
theorem oX6_standingWithin_34 : okB mX6_standingWithin 34 bX6_standingWithin_34 = true := by decide +kernel
def bX6_standingWithin_40 : List OP := [oi (.iload_n 2)]
theorem oX6_standingWithin_40 : okB mX6_standingWithin 40 bX6_standingWithin_40 = true := by decide +kernel
theorem eX6_standingWithin_41 : decode mX6_standingWithin.2.1 41 = .ok (.ireturn, 1) := by decide +kernel
def bX6_hangsOn_0 : List OP := [oi (.iload_n 1)]
theorem oX6_hangsOn_0 : okB mX6_hangsOn 0 bX6_hangsOn_0 = true := by decide +kernel
theorem eX6_hangsOn_1 : decode mX6_hangsOn.2.1 1 = .ok (.ifCond .eq 12, 3) := by decide +kernel
def bX6_hangsOn_4 : List OP := [oi (.aload_n 0), (.getfield 18, 2, 6, 2, 2, 360), oi (.iload_n 1), oi .baload]
theorem oX6_hangsOn_4 : okB mX6_hangsOn 4 bX6_hangsOn_4 = true := by decide +kernel
theorem eX6_hangsOn_10 : decode mX6_hangsOn.2.1 10 = .ok (.ifCond .eq 8, 3) := by decide +kernel
def bX6_hangsOn_13 : List OP := [oi (.bipush (-6)), (.goto 9, 0, 0, 24, 0, 0)]
theorem oX6_hangsOn_13 : okB mX6_hangsOn 13 bX6_hangsOn_13 = true := by decide +kernel
def bX6_hangsOn_18 : List OP := [oi (.aload_n 0), (.getfield 9, 0, 6, 0, 2, 358), oi (.iload_n 1), oi .iaload]
theorem oX6_hangsOn_18 : okB mX6_hangsOn 18 bX6_hangsOn_18 = true := by decide +kernel
theorem eX6_hangsOn_24 : decode mX6_hangsOn.2.1 24 = .ok (.ireturn, 1) := by decide +kernel
def bX7_add_0 : List OP := [oi (.aload_n 0), (.getfield 9, 0, 7, 0, 2, 302), oi (.aload_n 0), (.getfield 37, 5, 7, 5, 0, 307), oi (.iload_n 1), oi .iastore, oi (.aload_n 0), (.getfield 13, 1, 7, 1, 2, 303), oi (.aload_n 0), (.getfield 37, 5, 7, 5, 0, 307), oi (.iload_n 2), oi .iastore, oi (.aload_n 0), (.getfield 16, 2, 7, 2, 2, 304), oi (.aload_n 0), (.getfield 37, 5, 7, 5, 0, 307), oi (.iload_n 3), oi .iastore, oi (.aload_n 0), (.getfield 19, 3, 7, 3, 2, 305), oi (.aload_n 0), (.getfield 37, 5, 7, 5, 0, 307), oi (.iload 4), oi .iastore, oi (.aload_n 0), (.getfield 22, 4, 7, 4, 2, 306), oi (.aload_n 0), (.getfield 37, 5, 7, 5, 0, 307), oi (.iload 5), oi .iastore, oi (.aload_n 0), oi .dup, (.getfield 37, 5, 7, 5, 0, 307), oi (.iconst 1), oi .iadd, (.putfield 37, 5, 7, 5, 0, 307), oi (.aload_n 0), (.getfield 37, 5, 7, 5, 0, 307), oi (.iconst 1), oi .isub]
theorem oX7_add_0 : okB mX7_add 0 bX7_add_0 = true := by decide +kernel
theorem eX7_add_68 : decode mX7_add.2.1 68 = .ok (.ireturn, 1) := by decide +kernel
def bX7_changeLand_0 : List OP := [oi (.aload_n 0), (.getfield 25, 6, 7, 6, 2, 309), oi (.iload_n 1), oi .iaload, oi (.istore_n 3), oi (.aload_n 0), (.getfield 25, 6, 7, 6, 2, 309), oi (.iload_n 1), oi (.iload_n 2), oi .iastore, oi (.iload_n 3)]
theorem oX7_changeLand_0 : okB mX7_changeLand 0 bX7_changeLand_0 = true := by decide +kernel
theorem eX7_changeLand_15 : decode mX7_changeLand.2.1 15 = .ok (.ireturn, 1) := by decide +kernel
def bX7_allow_0 : List OP := [oi (.iconst 0), oi (.istore 4)]
theorem oX7_allow_0 : okB mX7_allow 0 bX7_allow_0 = true := by decide +kernel
def bX7_allow_3 : List OP := [oi (.iload 4), oi (.aload_n 0), (.getfield 37, 5, 7, 5, 0, 307)]
theorem oX7_allow_3 : okB mX7_allow 3 bX7_allow_3 = true := by decide +kernel
theorem eX7_allow_9 : decode mX7_allow.2.1 9 = .ok (.if_icmp .ge 88, 3) := by decide +kernel
def bX7_allow_12 : List OP := [oi (.aload_n 0), (.getfield 9, 0, 7, 0, 2, 302), oi (.iload 4), oi .iaload, oi (.iload_n 2)]
theorem oX7_allow_12 : okB mX7_allow 12 bX7_allow_12 = true := by decide +kernel
theorem eX7_allow_20 : decode mX7_allow.2.1 20 = .ok (.if_icmp .ne 23, 3) := by decide +kernel
def bX7_allow_23 : List OP := [oi (.aload_n 0), (.getfield 13, 1, 7, 1, 2, 303), oi (.iload 4), oi .iaload, oi (.aload_n 0), (.getfield 25, 6, 7, 6, 2, 309), oi (.iload_n 1), oi .iaload]
theorem oX7_allow_23 : okB mX7_allow 23 bX7_allow_23 = true := by decide +kernel
theorem eX7_allow_36 : decode mX7_allow.2.1 36 = .ok (.if_icmp .ne 7, 3) := by decide +kernel
def bX7_allow_39 : List OP := [oi (.iconst 1), (.goto 4, 0, 0, 44, 0, 0)]
theorem oX7_allow_39 : okB mX7_allow 39 bX7_allow_39 = true := by decide +kernel
def bX7_allow_43 : List OP := [oi (.iconst 0)]
theorem oX7_allow_43 : okB mX7_allow 43 bX7_allow_43 = true := by decide +kernel
def bX7_allow_44 : List OP := [oi (.istore 5), oi (.iload 5)]
theorem oX7_allow_44 : okB mX7_allow 44 bX7_allow_44 = true := by decide +kernel
theorem eX7_allow_48 : decode mX7_allow.2.1 48 = .ok (.ifCond .eq 43, 3) := by decide +kernel
def bX7_allow_51 : List OP := [oi (.iload_n 3), oi (.aload_n 0), (.getfield 16, 2, 7, 2, 2, 304), oi (.iload 4), oi .iaload]
theorem oX7_allow_51 : okB mX7_allow 51 bX7_allow_51 = true := by decide +kernel
theorem eX7_allow_59 : decode mX7_allow.2.1 59 = .ok (.if_icmp .lt 32, 3) := by decide +kernel
def bX7_allow_62 : List OP := [oi (.iload_n 3), oi (.aload_n 0), (.getfield 19, 3, 7, 3, 2, 305), oi (.iload 4), oi .iaload]
theorem oX7_allow_62 : okB mX7_allow 62 bX7_allow_62 = true := by decide +kernel
theorem eX7_allow_70 : decode mX7_allow.2.1 70 = .ok (.if_icmp .gt 21, 3) := by decide +kernel
def bX7_allow_73 : List OP := [oi (.aload_n 0), oi (.iload_n 1), oi (.iload_n 2)]
theorem oX7_allow_73 : okB mX7_allow 73 bX7_allow_73 = true := by decide +kernel
theorem eX7_allow_76 : decode mX7_allow.2.1 76 = .ok (.invokevirtual 41, 3) := by decide +kernel
theorem lX7_allow_76 : okL 784 (.methodLink mX7_allow.1.cls 41 mX7_timesSeen.1) = true := by decide +kernel
def bX7_allow_79 : List OP := [oi (.aload_n 0), (.getfield 22, 4, 7, 4, 2, 306), oi (.iload 4), oi .iaload]
theorem oX7_allow_79 : okB mX7_allow 79 bX7_allow_79 = true := by decide +kernel
theorem eX7_allow_86 : decode mX7_allow.2.1 86 = .ok (.if_icmp .ge 5, 3) := by decide +kernel
def bX7_allow_89 : List OP := [oi (.iconst 1)]
theorem oX7_allow_89 : okB mX7_allow 89 bX7_allow_89 = true := by decide +kernel
theorem eX7_allow_90 : decode mX7_allow.2.1 90 = .ok (.ireturn, 1) := by decide +kernel
def bX7_allow_91 : List OP := [oi (.iinc 4 1), (.goto (-91), 0, 0, 3, 0, 0)]
theorem oX7_allow_91 : okB mX7_allow 91 bX7_allow_91 = true := by decide +kernel
def bX7_allow_97 : List OP := [oi (.iconst 0)]
theorem oX7_allow_97 : okB mX7_allow 97 bX7_allow_97 = true := by decide +kernel
theorem eX7_allow_98 : decode mX7_allow.2.1 98 = .ok (.ireturn, 1) := by decide +kernel
def bX7_addSeeing_0 : List OP := [oi (.iload_n 1), oi (.bipush 6), oi .imul, oi (.iload_n 2), oi .iadd, oi (.istore 5), (.ldc2_w 45, -1, 0, 0, 0, 796), oi (.bipush 63), oi (.iload 4), oi (.iload_n 3), oi .isub, oi .isub, oi .lushr, oi (.iload_n 3), oi .lshl, oi (.lstore 6), oi (.lload 6), oi (.aload_n 0), (.getfield 30, 7, 7, 7, 2, 310), oi (.iload 5), oi .laload, (.ldc2_w 45, -1, 0, 0, 0, 796), oi .lxor, oi .land]
theorem oX7_addSeeing_0 : okB mX7_addSeeing 0 bX7_addSeeing_0 = true := by decide +kernel
theorem eX7_addSeeing_37 : decode mX7_addSeeing.2.1 37 = .ok (.invokestatic 47, 3) := by decide +kernel
theorem lX7_addSeeing_37 : okL 797 (.methodLink mX7_addSeeing.1.cls 47 mJ13_bitCount.1) = true := by decide +kernel
def bX7_addSeeing_40 : List OP := [oi (.istore 8), oi (.aload_n 0), (.getfield 30, 7, 7, 7, 2, 310), oi (.iload 5), oi .dup2, oi .laload, oi (.lload 6), oi .lor, oi .lastore, oi (.aload_n 0), (.getfield 34, 8, 7, 8, 2, 311), oi (.iload 5), oi .dup2, oi .iaload, oi (.iconst 1), oi .iadd, oi .iastore, oi (.iload 8)]
theorem oX7_addSeeing_40 : okB mX7_addSeeing 40 bX7_addSeeing_40 = true := by decide +kernel
theorem eX7_addSeeing_67 : decode mX7_addSeeing.2.1 67 = .ok (.ireturn, 1) := by decide +kernel
def bX7_secondsSeen_0 : List OP := [oi (.aload_n 0), (.getfield 30, 7, 7, 7, 2, 310), oi (.iload_n 1), oi (.bipush 6), oi .imul, oi (.iload_n 2), oi .iadd, oi .laload]
theorem oX7_secondsSeen_0 : okB mX7_secondsSeen 0 bX7_secondsSeen_0 = true := by decide +kernel
theorem eX7_secondsSeen_11 : decode mX7_secondsSeen.2.1 11 = .ok (.invokestatic 47, 3) := by decide +kernel
theorem lX7_secondsSeen_11 : okL 797 (.methodLink mX7_secondsSeen.1.cls 47 mJ13_bitCount.1) = true := by decide +kernel
theorem eX7_secondsSeen_14 : decode mX7_secondsSeen.2.1 14 = .ok (.ireturn, 1) := by decide +kernel
def bX7_timesSeen_0 : List OP := [oi (.aload_n 0), (.getfield 34, 8, 7, 8, 2, 311), oi (.iload_n 1), oi (.bipush 6), oi .imul, oi (.iload_n 2), oi .iadd, oi .iaload]
theorem oX7_timesSeen_0 : okB mX7_timesSeen 0 bX7_timesSeen_0 = true := by decide +kernel
theorem eX7_timesSeen_11 : decode mX7_timesSeen.2.1 11 = .ok (.ireturn, 1) := by decide +kernel
def bX7_owedFor_0 : List OP := [oi (.iconst 0), oi (.istore 4), oi (.iconst 0), oi (.istore 5)]
theorem oX7_owedFor_0 : okB mX7_owedFor 0 bX7_owedFor_0 = true := by decide +kernel
def bX7_owedFor_6 : List OP := [oi (.iload 5), oi (.bipush 8)]
theorem oX7_owedFor_6 : okB mX7_owedFor 6 bX7_owedFor_6 = true := by decide +kernel
theorem eX7_owedFor_10 : decode mX7_owedFor.2.1 10 = .ok (.if_icmp .ge 27, 3) := by decide +kernel
def bX7_owedFor_13 : List OP := [oi (.iload 4), oi (.iconst 0), oi (.aload_n 0), oi (.iload 5), oi (.iload_n 1)]
theorem oX7_owedFor_13 : okB mX7_owedFor 13 bX7_owedFor_13 = true := by decide +kernel
theorem eX7_owedFor_20 : decode mX7_owedFor.2.1 20 = .ok (.invokevirtual 53, 3) := by decide +kernel
theorem lX7_owedFor_20 : okL 820 (.methodLink mX7_owedFor.1.cls 53 mX7_secondsSeen.1) = true := by decide +kernel
def bX7_owedFor_23 : List OP := [oi (.iload_n 3), oi .isub]
theorem oX7_owedFor_23 : okB mX7_owedFor 23 bX7_owedFor_23 = true := by decide +kernel
theorem eX7_owedFor_25 : decode mX7_owedFor.2.1 25 = .ok (.invokestatic 56, 3) := by decide +kernel
theorem lX7_owedFor_25 : okL 821 (.methodLink mX7_owedFor.1.cls 56 mJ9_max.1) = true := by decide +kernel
def bX7_owedFor_28 : List OP := [oi .iadd, oi (.istore 4), oi (.iinc 5 1), (.goto (-28), 0, 0, 6, 0, 0)]
theorem oX7_owedFor_28 : okB mX7_owedFor 28 bX7_owedFor_28 = true := by decide +kernel
def bX7_owedFor_37 : List OP := [oi (.iload 4), oi (.iload_n 2), oi .imul]
theorem oX7_owedFor_37 : okB mX7_owedFor 37 bX7_owedFor_37 = true := by decide +kernel
theorem eX7_owedFor_41 : decode mX7_owedFor.2.1 41 = .ok (.ireturn, 1) := by decide +kernel
def bX8_addSign_0 : List OP := [oi (.aload_n 0), (.getfield 11, 0, 8, 0, 2, 175), oi (.aload_n 0), (.getfield 28, 1, 8, 1, 0, 176), oi (.iload_n 1), oi .iastore, oi (.aload_n 0), oi .dup, (.getfield 28, 1, 8, 1, 0, 176), oi (.iconst 1), oi .iadd, (.putfield 28, 1, 8, 1, 0, 176), oi (.aload_n 0), (.getfield 28, 1, 8, 1, 0, 176)]
theorem oX8_addSign_0 : okB mX8_addSign 0 bX8_addSign_0 = true := by decide +kernel
theorem eX8_addSign_24 : decode mX8_addSign.2.1 24 = .ok (.ireturn, 1) := by decide +kernel
def bX8_dropSigns_0 : List OP := [oi (.aload_n 0), (.getfield 28, 1, 8, 1, 0, 176), oi (.istore_n 1), oi (.aload_n 0), oi (.iconst 0), (.putfield 28, 1, 8, 1, 0, 176), oi (.iload_n 1)]
theorem oX8_dropSigns_0 : okB mX8_dropSigns 0 bX8_dropSigns_0 = true := by decide +kernel
theorem eX8_dropSigns_11 : decode mX8_dropSigns.2.1 11 = .ok (.ireturn, 1) := by decide +kernel
def bX8_firstFault_0 : List OP := [oi (.iconst 0), oi (.istore_n 1), oi (.iconst 0), oi (.istore_n 2)]
theorem oX8_firstFault_0 : okB mX8_firstFault 0 bX8_firstFault_0 = true := by decide +kernel
def bX8_firstFault_4 : List OP := [oi (.iload_n 2), oi (.aload_n 0), (.getfield 28, 1, 8, 1, 0, 176)]
theorem oX8_firstFault_4 : okB mX8_firstFault 4 bX8_firstFault_4 = true := by decide +kernel
theorem eX8_firstFault_9 : decode mX8_firstFault.2.1 9 = .ok (.if_icmp .ge 28, 3) := by decide +kernel
def bX8_firstFault_12 : List OP := [oi (.iload_n 1), oi (.aload_n 0), (.getfield 11, 0, 8, 0, 2, 175), oi (.iload_n 2), oi .iaload]
theorem oX8_firstFault_12 : okB mX8_firstFault 12 bX8_firstFault_12 = true := by decide +kernel
theorem eX8_firstFault_19 : decode mX8_firstFault.2.1 19 = .ok (.invokestatic 32, 3) := by decide +kernel
theorem lX8_firstFault_19 : okL 595 (.methodLink mX8_firstFault.1.cls 32 mX8_after.1) = true := by decide +kernel
def bX8_firstFault_22 : List OP := [oi (.istore_n 1), oi (.iload_n 1), oi (.bipush 9)]
theorem oX8_firstFault_22 : okB mX8_firstFault 22 bX8_firstFault_22 = true := by decide +kernel
theorem eX8_firstFault_26 : decode mX8_firstFault.2.1 26 = .ok (.if_icmp .ne 5, 3) := by decide +kernel
def bX8_firstFault_29 : List OP := [oi (.iload_n 2)]
theorem oX8_firstFault_29 : okB mX8_firstFault 29 bX8_firstFault_29 = true := by decide +kernel
theorem eX8_firstFault_30 : decode mX8_firstFault.2.1 30 = .ok (.ireturn, 1) := by decide +kernel
def bX8_firstFault_31 : List OP := [oi (.iinc 2 1), (.goto (-30), 0, 0, 4, 0, 0)]
theorem oX8_firstFault_31 : okB mX8_firstFault 31 bX8_firstFault_31 = true := by decide +kernel
def bX8_firstFault_37 : List OP := [oi (.iload_n 1), oi (.bipush 8)]
theorem oX8_firstFault_37 : okB mX8_firstFault 37 bX8_firstFault_37 = true := by decide +kernel
theorem eX8_firstFault_40 : decode mX8_firstFault.2.1 40 = .ok (.if_icmp .ne 8, 3) := by decide +kernel
def bX8_firstFault_43 : List OP := [oi (.bipush (-6)), (.goto 7, 0, 0, 52, 0, 0)]
theorem oX8_firstFault_43 : okB mX8_firstFault 43 bX8_firstFault_43 = true := by decide +kernel
def bX8_firstFault_48 : List OP := [oi (.aload_n 0), (.getfield 28, 1, 8, 1, 0, 176)]
theorem oX8_firstFault_48 : okB mX8_firstFault 48 bX8_firstFault_48 = true := by decide +kernel
theorem eX8_firstFault_52 : decode mX8_firstFault.2.1 52 = .ok (.ireturn, 1) := by decide +kernel
def bX8_adopt_0 : List OP := [oi (.aload_n 0), oi (.iconst 0), (.putfield 36, 6, 8, 6, 0, 182), oi (.iconst 0), oi (.istore_n 1), oi (.iconst 0), oi (.istore_n 2)]
theorem oX8_adopt_0 : okB mX8_adopt 0 bX8_adopt_0 = true := by decide +kernel
def bX8_adopt_9 : List OP := [oi (.iload_n 2), oi (.aload_n 0), (.getfield 28, 1, 8, 1, 0, 176)]
theorem oX8_adopt_9 : okB mX8_adopt 9 bX8_adopt_9 = true := by decide +kernel
theorem eX8_adopt_14 : decode mX8_adopt.2.1 14 = .ok (.if_icmp .ge 72, 3) := by decide +kernel
def bX8_adopt_17 : List OP := [oi (.iload_n 1)]
theorem oX8_adopt_17 : okB mX8_adopt 17 bX8_adopt_17 = true := by decide +kernel
theorem eX8_adopt_18 : decode mX8_adopt.2.1 18 = .ok (.ifCond .ne 31, 3) := by decide +kernel
def bX8_adopt_21 : List OP := [oi (.aload_n 0), (.getfield 11, 0, 8, 0, 2, 175), oi (.iload_n 2), oi .iaload]
theorem oX8_adopt_21 : okB mX8_adopt 21 bX8_adopt_21 = true := by decide +kernel
theorem eX8_adopt_27 : decode mX8_adopt.2.1 27 = .ok (.invokestatic 39, 3) := by decide +kernel
theorem lX8_adopt_27 : okL 601 (.methodLink mX8_adopt.1.cls 39 mX8_isSize.1) = true := by decide +kernel
theorem eX8_adopt_30 : decode mX8_adopt.2.1 30 = .ok (.ifCond .eq 19, 3) := by decide +kernel
def bX8_adopt_33 : List OP := [oi (.aload_n 0), oi (.aload_n 0), (.getfield 11, 0, 8, 0, 2, 175), oi (.iload_n 2), oi .iaload, oi (.bipush 48), oi .isub, (.putfield 43, 7, 8, 7, 0, 183), (.goto 23, 0, 0, 69, 0, 0)]
theorem oX8_adopt_33 : okB mX8_adopt 33 bX8_adopt_33 = true := by decide +kernel
def bX8_adopt_49 : List OP := [oi (.aload_n 0), (.getfield 36, 6, 8, 6, 0, 182), oi (.bipush 6)]
theorem oX8_adopt_49 : okB mX8_adopt 49 bX8_adopt_49 = true := by decide +kernel
theorem eX8_adopt_55 : decode mX8_adopt.2.1 55 = .ok (.if_icmp .ge 14, 3) := by decide +kernel
def bX8_adopt_58 : List OP := [oi (.aload_n 0), oi (.iload_n 1), oi (.aload_n 0), (.getfield 11, 0, 8, 0, 2, 175), oi (.iload_n 2), oi .iaload]
theorem oX8_adopt_58 : okB mX8_adopt 58 bX8_adopt_58 = true := by decide +kernel
theorem eX8_adopt_66 : decode mX8_adopt.2.1 66 = .ok (.invokevirtual 46, 3) := by decide +kernel
theorem lX8_adopt_66 : okL 615 (.methodLink mX8_adopt.1.cls 46 mX8_takeSign.1) = true := by decide +kernel
def bX8_adopt_69 : List OP := [oi (.iload_n 1), oi (.aload_n 0), (.getfield 11, 0, 8, 0, 2, 175), oi (.iload_n 2), oi .iaload]
theorem oX8_adopt_69 : okB mX8_adopt 69 bX8_adopt_69 = true := by decide +kernel
theorem eX8_adopt_76 : decode mX8_adopt.2.1 76 = .ok (.invokestatic 32, 3) := by decide +kernel
theorem lX8_adopt_76 : okL 595 (.methodLink mX8_adopt.1.cls 32 mX8_after.1) = true := by decide +kernel
def bX8_adopt_79 : List OP := [oi (.istore_n 1), oi (.iinc 2 1), (.goto (-74), 0, 0, 9, 0, 0)]
theorem oX8_adopt_79 : okB mX8_adopt 79 bX8_adopt_79 = true := by decide +kernel
def bX8_adopt_86 : List OP := [oi (.aload_n 0), oi (.iconst 0), (.putfield 28, 1, 8, 1, 0, 176)]
theorem oX8_adopt_86 : okB mX8_adopt 86 bX8_adopt_86 = true := by decide +kernel
theorem eX8_adopt_91 : decode mX8_adopt.2.1 91 = .ok (.return_, 1) := by decide +kernel
def bX8_takeSign_0 : List OP := [oi (.iload_n 1)]
theorem oX8_takeSign_0 : okB mX8_takeSign 0 bX8_takeSign_0 = true := by decide +kernel
theorem eX8_takeSign_1 : decode mX8_takeSign.2.1 1 = .ok (.ifCond .ne 26, 3) := by decide +kernel
def bX8_takeSign_4 : List OP := [oi (.aload_n 0), (.getfield 15, 2, 8, 2, 2, 178), oi (.aload_n 0), (.getfield 36, 6, 8, 6, 0, 182), oi (.iload_n 2), oi .iastore, oi (.aload_n 0), (.getfield 22, 4, 8, 4, 2, 180), oi (.aload_n 0), (.getfield 36, 6, 8, 6, 0, 182), oi (.iconst 0), oi .iastore, (.goto 105, 0, 0, 129, 0, 0)]
theorem oX8_takeSign_4 : okB mX8_takeSign 4 bX8_takeSign_4 = true := by decide +kernel
def bX8_takeSign_27 : List OP := [oi (.iload_n 1), oi (.iconst 1)]
theorem oX8_takeSign_27 : okB mX8_takeSign 27 bX8_takeSign_27 = true := by decide +kernel
theorem eX8_takeSign_29 : decode mX8_takeSign.2.1 29 = .ok (.if_icmp .ne 26, 3) := by decide +kernel
def bX8_takeSign_32 : List OP := [oi (.aload_n 0), (.getfield 18, 3, 8, 3, 2, 179), oi (.aload_n 0), (.getfield 36, 6, 8, 6, 0, 182), oi (.iload_n 2), oi (.bipush 60)]
theorem oX8_takeSign_32 : okB mX8_takeSign 32 bX8_takeSign_32 = true := by decide +kernel
theorem eX8_takeSign_43 : decode mX8_takeSign.2.1 43 = .ok (.if_icmp .ne 7, 3) := by decide +kernel
def bX8_takeSign_46 : List OP := [oi (.iconst 1), (.goto 4, 0, 0, 51, 0, 0)]
theorem oX8_takeSign_46 : okB mX8_takeSign 46 bX8_takeSign_46 = true := by decide +kernel
def bX8_takeSign_50 : List OP := [oi (.iconst 0)]
theorem oX8_takeSign_50 : okB mX8_takeSign 50 bX8_takeSign_50 = true := by decide +kernel
def bX8_takeSign_51 : List OP := [oi .bastore, (.goto 77, 0, 0, 129, 0, 0)]
theorem oX8_takeSign_51 : okB mX8_takeSign 51 bX8_takeSign_51 = true := by decide +kernel
def bX8_takeSign_55 : List OP := [oi (.iload_n 1), oi (.bipush 6)]
theorem oX8_takeSign_55 : okB mX8_takeSign 55 bX8_takeSign_55 = true := by decide +kernel
theorem eX8_takeSign_58 : decode mX8_takeSign.2.1 58 = .ok (.if_icmp .ne 19, 3) := by decide +kernel
def bX8_takeSign_61 : List OP := [oi (.aload_n 0), (.getfield 25, 5, 8, 5, 2, 181), oi (.aload_n 0), (.getfield 36, 6, 8, 6, 0, 182), oi (.iload_n 2), oi (.bipush 48), oi .isub, oi .iastore, (.goto 55, 0, 0, 129, 0, 0)]
theorem oX8_takeSign_61 : okB mX8_takeSign 61 bX8_takeSign_61 = true := by decide +kernel
def bX8_takeSign_77 : List OP := [oi (.iload_n 1), oi (.bipush 7)]
theorem oX8_takeSign_77 : okB mX8_takeSign 77 bX8_takeSign_77 = true := by decide +kernel
theorem eX8_takeSign_80 : decode mX8_takeSign.2.1 80 = .ok (.if_icmp .ne 16, 3) := by decide +kernel
def bX8_takeSign_83 : List OP := [oi (.aload_n 0), oi .dup, (.getfield 36, 6, 8, 6, 0, 182), oi (.iconst 1), oi .iadd, (.putfield 36, 6, 8, 6, 0, 182), (.goto 36, 0, 0, 129, 0, 0)]
theorem oX8_takeSign_83 : okB mX8_takeSign 83 bX8_takeSign_83 = true := by decide +kernel
def bX8_takeSign_96 : List OP := [oi (.iload_n 2)]
theorem oX8_takeSign_96 : okB mX8_takeSign 96 bX8_takeSign_96 = true := by decide +kernel
theorem eX8_takeSign_97 : decode mX8_takeSign.2.1 97 = .ok (.invokestatic 50, 3) := by decide +kernel
theorem lX8_takeSign_97 : okL 604 (.methodLink mX8_takeSign.1.cls 50 mX8_isDigit.1) = true := by decide +kernel
theorem eX8_takeSign_100 : decode mX8_takeSign.2.1 100 = .ok (.ifCond .eq 29, 3) := by decide +kernel
def bX8_takeSign_103 : List OP := [oi (.aload_n 0), (.getfield 22, 4, 8, 4, 2, 180), oi (.aload_n 0), (.getfield 36, 6, 8, 6, 0, 182), oi (.aload_n 0), (.getfield 22, 4, 8, 4, 2, 180), oi (.aload_n 0), (.getfield 36, 6, 8, 6, 0, 182), oi .iaload, oi (.bipush 10), oi .imul, oi (.iload_n 2), oi .iadd, oi (.bipush 48), oi .isub, oi .iastore]
theorem oX8_takeSign_103 : okB mX8_takeSign 103 bX8_takeSign_103 = true := by decide +kernel
theorem eX8_takeSign_129 : decode mX8_takeSign.2.1 129 = .ok (.return_, 1) := by decide +kernel
def bX8_pick_0 : List OP := [oi (.iconst 0), oi (.istore 5)]
theorem oX8_pick_0 : okB mX8_pick 0 bX8_pick_0 = true := by decide +kernel
def bX8_pick_3 : List OP := [oi (.iload 5), oi (.aload_n 0), (.getfield 36, 6, 8, 6, 0, 182)]
theorem oX8_pick_3 : okB mX8_pick 3 bX8_pick_3 = true := by decide +kernel
theorem eX8_pick_9 : decode mX8_pick.2.1 9 = .ok (.if_icmp .ge 109, 3) := by decide +kernel
def bX8_pick_12 : List OP := [oi (.iload 4), oi (.istore 6), oi (.aload_n 0), (.getfield 15, 2, 8, 2, 2, 178), oi (.iload 5), oi .iaload, oi (.bipush 98)]
theorem oX8_pick_12 : okB mX8_pick 12 bX8_pick_12 = true := by decide +kernel
theorem eX8_pick_25 : decode mX8_pick.2.1 25 = .ok (.if_icmp .ne 9, 3) := by decide +kernel
def bX8_pick_28 : List OP := [oi (.iload_n 1), oi (.istore 6), (.goto 36, 0, 0, 67, 0, 0)]
theorem oX8_pick_28 : okB mX8_pick 28 bX8_pick_28 = true := by decide +kernel
def bX8_pick_34 : List OP := [oi (.aload_n 0), (.getfield 15, 2, 8, 2, 2, 178), oi (.iload 5), oi .iaload, oi (.bipush 108)]
theorem oX8_pick_34 : okB mX8_pick 34 bX8_pick_34 = true := by decide +kernel
theorem eX8_pick_43 : decode mX8_pick.2.1 43 = .ok (.if_icmp .ne 9, 3) := by decide +kernel
def bX8_pick_46 : List OP := [oi (.iload_n 2), oi (.istore 6), (.goto 18, 0, 0, 67, 0, 0)]
theorem oX8_pick_46 : okB mX8_pick 46 bX8_pick_46 = true := by decide +kernel
def bX8_pick_52 : List OP := [oi (.aload_n 0), (.getfield 15, 2, 8, 2, 2, 178), oi (.iload 5), oi .iaload, oi (.bipush 115)]
theorem oX8_pick_52 : okB mX8_pick 52 bX8_pick_52 = true := by decide +kernel
theorem eX8_pick_61 : decode mX8_pick.2.1 61 = .ok (.if_icmp .ne 6, 3) := by decide +kernel
def bX8_pick_64 : List OP := [oi (.iload_n 3), oi (.istore 6)]
theorem oX8_pick_64 : okB mX8_pick 64 bX8_pick_64 = true := by decide +kernel
def bX8_pick_67 : List OP := [oi (.aload_n 0), (.getfield 18, 3, 8, 3, 2, 179), oi (.iload 5), oi .baload]
theorem oX8_pick_67 : okB mX8_pick 67 bX8_pick_67 = true := by decide +kernel
theorem eX8_pick_74 : decode mX8_pick.2.1 74 = .ok (.ifCond .eq 18, 3) := by decide +kernel
def bX8_pick_77 : List OP := [oi (.iload 6), oi (.aload_n 0), (.getfield 22, 4, 8, 4, 2, 180), oi (.iload 5), oi .iaload]
theorem oX8_pick_77 : okB mX8_pick 77 bX8_pick_77 = true := by decide +kernel
theorem eX8_pick_86 : decode mX8_pick.2.1 86 = .ok (.if_icmp .ge 26, 3) := by decide +kernel
def bX8_pick_89 : List OP := [(.goto 15, 0, 0, 104, 0, 0)]
theorem oX8_pick_89 : okB mX8_pick 89 bX8_pick_89 = true := by decide +kernel
def bX8_pick_92 : List OP := [oi (.iload 6), oi (.aload_n 0), (.getfield 22, 4, 8, 4, 2, 180), oi (.iload 5), oi .iaload]
theorem oX8_pick_92 : okB mX8_pick 92 bX8_pick_92 = true := by decide +kernel
theorem eX8_pick_101 : decode mX8_pick.2.1 101 = .ok (.if_icmp .le 11, 3) := by decide +kernel
def bX8_pick_104 : List OP := [oi (.aload_n 0), (.getfield 25, 5, 8, 5, 2, 181), oi (.iload 5), oi .iaload]
theorem oX8_pick_104 : okB mX8_pick 104 bX8_pick_104 = true := by decide +kernel
theorem eX8_pick_111 : decode mX8_pick.2.1 111 = .ok (.ireturn, 1) := by decide +kernel
def bX8_pick_112 : List OP := [oi (.iinc 5 1), (.goto (-112), 0, 0, 3, 0, 0)]
theorem oX8_pick_112 : okB mX8_pick 112 bX8_pick_112 = true := by decide +kernel
def bX8_pick_118 : List OP := [oi (.aload_n 0), (.getfield 43, 7, 8, 7, 0, 183)]
theorem oX8_pick_118 : okB mX8_pick 118 bX8_pick_118 = true := by decide +kernel
theorem eX8_pick_122 : decode mX8_pick.2.1 122 = .ok (.ireturn, 1) := by decide +kernel
def bX8_after_0 : List OP := [oi (.iload_n 0)]
theorem oX8_after_0 : okB mX8_after 0 bX8_after_0 = true := by decide +kernel
theorem eX8_after_1 : decode mX8_after.2.1 1 = .ok (.tableswitch 198 0 7 #[47, 73, 92, 106, 131, 156, 170, 185], 47) := by decide +kernel
def bX8_after_48 : List OP := [oi (.iload_n 1)]
theorem oX8_after_48 : okB mX8_after 48 bX8_after_48 = true := by decide +kernel
theorem eX8_after_49 : decode mX8_after.2.1 49 = .ok (.invokestatic 53, 3) := by decide +kernel
theorem lX8_after_49 : okL 598 (.methodLink mX8_after.1.cls 53 mX8_isFact.1) = true := by decide +kernel
theorem eX8_after_52 : decode mX8_after.2.1 52 = .ok (.ifCond .eq 7, 3) := by decide +kernel
def bX8_after_55 : List OP := [oi (.iconst 1), (.goto 17, 0, 0, 73, 0, 0)]
theorem oX8_after_55 : okB mX8_after 55 bX8_after_55 = true := by decide +kernel
def bX8_after_59 : List OP := [oi (.iload_n 1)]
theorem oX8_after_59 : okB mX8_after 59 bX8_after_59 = true := by decide +kernel
theorem eX8_after_60 : decode mX8_after.2.1 60 = .ok (.invokestatic 39, 3) := by decide +kernel
theorem lX8_after_60 : okL 601 (.methodLink mX8_after.1.cls 39 mX8_isSize.1) = true := by decide +kernel
theorem eX8_after_63 : decode mX8_after.2.1 63 = .ok (.ifCond .eq 8, 3) := by decide +kernel
def bX8_after_66 : List OP := [oi (.bipush 8), (.goto 5, 0, 0, 73, 0, 0)]
theorem oX8_after_66 : okB mX8_after 66 bX8_after_66 = true := by decide +kernel
def bX8_after_71 : List OP := [oi (.bipush 9)]
theorem oX8_after_71 : okB mX8_after 71 bX8_after_71 = true := by decide +kernel
theorem eX8_after_73 : decode mX8_after.2.1 73 = .ok (.ireturn, 1) := by decide +kernel
def bX8_after_74 : List OP := [oi (.iload_n 1), oi (.bipush 60)]
theorem oX8_after_74 : okB mX8_after 74 bX8_after_74 = true := by decide +kernel
theorem eX8_after_77 : decode mX8_after.2.1 77 = .ok (.if_icmp .eq 9, 3) := by decide +kernel
def bX8_after_80 : List OP := [oi (.iload_n 1), oi (.bipush 62)]
theorem oX8_after_80 : okB mX8_after 80 bX8_after_80 = true := by decide +kernel
theorem eX8_after_83 : decode mX8_after.2.1 83 = .ok (.if_icmp .ne 7, 3) := by decide +kernel
def bX8_after_86 : List OP := [oi (.iconst 2), (.goto 5, 0, 0, 92, 0, 0)]
theorem oX8_after_86 : okB mX8_after 86 bX8_after_86 = true := by decide +kernel
def bX8_after_90 : List OP := [oi (.bipush 9)]
theorem oX8_after_90 : okB mX8_after 90 bX8_after_90 = true := by decide +kernel
theorem eX8_after_92 : decode mX8_after.2.1 92 = .ok (.ireturn, 1) := by decide +kernel
def bX8_after_93 : List OP := [oi (.iload_n 1)]
theorem oX8_after_93 : okB mX8_after 93 bX8_after_93 = true := by decide +kernel
theorem eX8_after_94 : decode mX8_after.2.1 94 = .ok (.invokestatic 50, 3) := by decide +kernel
theorem lX8_after_94 : okL 604 (.methodLink mX8_after.1.cls 50 mX8_isDigit.1) = true := by decide +kernel
theorem eX8_after_97 : decode mX8_after.2.1 97 = .ok (.ifCond .eq 7, 3) := by decide +kernel
def bX8_after_100 : List OP := [oi (.iconst 3), (.goto 5, 0, 0, 106, 0, 0)]
theorem oX8_after_100 : okB mX8_after 100 bX8_after_100 = true := by decide +kernel
def bX8_after_104 : List OP := [oi (.bipush 9)]
theorem oX8_after_104 : okB mX8_after 104 bX8_after_104 = true := by decide +kernel
theorem eX8_after_106 : decode mX8_after.2.1 106 = .ok (.ireturn, 1) := by decide +kernel
def bX8_after_107 : List OP := [oi (.iload_n 1)]
theorem oX8_after_107 : okB mX8_after 107 bX8_after_107 = true := by decide +kernel
theorem eX8_after_108 : decode mX8_after.2.1 108 = .ok (.invokestatic 50, 3) := by decide +kernel
theorem lX8_after_108 : okL 604 (.methodLink mX8_after.1.cls 50 mX8_isDigit.1) = true := by decide +kernel
theorem eX8_after_111 : decode mX8_after.2.1 111 = .ok (.ifCond .eq 7, 3) := by decide +kernel
def bX8_after_114 : List OP := [oi (.iconst 4), (.goto 16, 0, 0, 131, 0, 0)]
theorem oX8_after_114 : okB mX8_after 114 bX8_after_114 = true := by decide +kernel
def bX8_after_118 : List OP := [oi (.iload_n 1), oi (.bipush 58)]
theorem oX8_after_118 : okB mX8_after 118 bX8_after_118 = true := by decide +kernel
theorem eX8_after_121 : decode mX8_after.2.1 121 = .ok (.if_icmp .ne 8, 3) := by decide +kernel
def bX8_after_124 : List OP := [oi (.bipush 6), (.goto 5, 0, 0, 131, 0, 0)]
theorem oX8_after_124 : okB mX8_after 124 bX8_after_124 = true := by decide +kernel
def bX8_after_129 : List OP := [oi (.bipush 9)]
theorem oX8_after_129 : okB mX8_after 129 bX8_after_129 = true := by decide +kernel
theorem eX8_after_131 : decode mX8_after.2.1 131 = .ok (.ireturn, 1) := by decide +kernel
def bX8_after_132 : List OP := [oi (.iload_n 1)]
theorem oX8_after_132 : okB mX8_after 132 bX8_after_132 = true := by decide +kernel
theorem eX8_after_133 : decode mX8_after.2.1 133 = .ok (.invokestatic 50, 3) := by decide +kernel
theorem lX8_after_133 : okL 604 (.methodLink mX8_after.1.cls 50 mX8_isDigit.1) = true := by decide +kernel
theorem eX8_after_136 : decode mX8_after.2.1 136 = .ok (.ifCond .eq 7, 3) := by decide +kernel
def bX8_after_139 : List OP := [oi (.iconst 5), (.goto 16, 0, 0, 156, 0, 0)]
theorem oX8_after_139 : okB mX8_after 139 bX8_after_139 = true := by decide +kernel
def bX8_after_143 : List OP := [oi (.iload_n 1), oi (.bipush 58)]
theorem oX8_after_143 : okB mX8_after 143 bX8_after_143 = true := by decide +kernel
theorem eX8_after_146 : decode mX8_after.2.1 146 = .ok (.if_icmp .ne 8, 3) := by decide +kernel
def bX8_after_149 : List OP := [oi (.bipush 6), (.goto 5, 0, 0, 156, 0, 0)]
theorem oX8_after_149 : okB mX8_after 149 bX8_after_149 = true := by decide +kernel
def bX8_after_154 : List OP := [oi (.bipush 9)]
theorem oX8_after_154 : okB mX8_after 154 bX8_after_154 = true := by decide +kernel
theorem eX8_after_156 : decode mX8_after.2.1 156 = .ok (.ireturn, 1) := by decide +kernel
def bX8_after_157 : List OP := [oi (.iload_n 1), oi (.bipush 58)]
theorem oX8_after_157 : okB mX8_after 157 bX8_after_157 = true := by decide +kernel
theorem eX8_after_160 : decode mX8_after.2.1 160 = .ok (.if_icmp .ne 8, 3) := by decide +kernel
def bX8_after_163 : List OP := [oi (.bipush 6), (.goto 5, 0, 0, 170, 0, 0)]
theorem oX8_after_163 : okB mX8_after 163 bX8_after_163 = true := by decide +kernel
def bX8_after_168 : List OP := [oi (.bipush 9)]
theorem oX8_after_168 : okB mX8_after 168 bX8_after_168 = true := by decide +kernel
theorem eX8_after_170 : decode mX8_after.2.1 170 = .ok (.ireturn, 1) := by decide +kernel
def bX8_after_171 : List OP := [oi (.iload_n 1)]
theorem oX8_after_171 : okB mX8_after 171 bX8_after_171 = true := by decide +kernel
theorem eX8_after_172 : decode mX8_after.2.1 172 = .ok (.invokestatic 39, 3) := by decide +kernel
theorem lX8_after_172 : okL 601 (.methodLink mX8_after.1.cls 39 mX8_isSize.1) = true := by decide +kernel
theorem eX8_after_175 : decode mX8_after.2.1 175 = .ok (.ifCond .eq 8, 3) := by decide +kernel
def bX8_after_178 : List OP := [oi (.bipush 7), (.goto 5, 0, 0, 185, 0, 0)]
theorem oX8_after_178 : okB mX8_after 178 bX8_after_178 = true := by decide +kernel
def bX8_after_183 : List OP := [oi (.bipush 9)]
theorem oX8_after_183 : okB mX8_after 183 bX8_after_183 = true := by decide +kernel
theorem eX8_after_185 : decode mX8_after.2.1 185 = .ok (.ireturn, 1) := by decide +kernel
def bX8_after_186 : List OP := [oi (.iload_n 1), oi (.bipush 59)]
theorem oX8_after_186 : okB mX8_after 186 bX8_after_186 = true := by decide +kernel
theorem eX8_after_189 : decode mX8_after.2.1 189 = .ok (.if_icmp .ne 7, 3) := by decide +kernel
def bX8_after_192 : List OP := [oi (.iconst 0), (.goto 5, 0, 0, 198, 0, 0)]
theorem oX8_after_192 : okB mX8_after 192 bX8_after_192 = true := by decide +kernel
def bX8_after_196 : List OP := [oi (.bipush 9)]
theorem oX8_after_196 : okB mX8_after 196 bX8_after_196 = true := by decide +kernel
theorem eX8_after_198 : decode mX8_after.2.1 198 = .ok (.ireturn, 1) := by decide +kernel
def bX8_after_199 : List OP := [oi (.bipush 9)]
theorem oX8_after_199 : okB mX8_after 199 bX8_after_199 = true := by decide +kernel
theorem eX8_after_201 : decode mX8_after.2.1 201 = .ok (.ireturn, 1) := by decide +kernel
def bX8_isFact_0 : List OP := [oi (.iload_n 0), oi (.bipush 98)]
theorem oX8_isFact_0 : okB mX8_isFact 0 bX8_isFact_0 = true := by decide +kernel
theorem eX8_isFact_3 : decode mX8_isFact.2.1 3 = .ok (.if_icmp .eq 21, 3) := by decide +kernel
def bX8_isFact_6 : List OP := [oi (.iload_n 0), oi (.bipush 108)]
theorem oX8_isFact_6 : okB mX8_isFact 6 bX8_isFact_6 = true := by decide +kernel
theorem eX8_isFact_9 : decode mX8_isFact.2.1 9 = .ok (.if_icmp .eq 15, 3) := by decide +kernel
def bX8_isFact_12 : List OP := [oi (.iload_n 0), oi (.bipush 115)]
theorem oX8_isFact_12 : okB mX8_isFact 12 bX8_isFact_12 = true := by decide +kernel
theorem eX8_isFact_15 : decode mX8_isFact.2.1 15 = .ok (.if_icmp .eq 9, 3) := by decide +kernel
def bX8_isFact_18 : List OP := [oi (.iload_n 0), oi (.bipush 107)]
theorem oX8_isFact_18 : okB mX8_isFact 18 bX8_isFact_18 = true := by decide +kernel
theorem eX8_isFact_21 : decode mX8_isFact.2.1 21 = .ok (.if_icmp .ne 7, 3) := by decide +kernel
def bX8_isFact_24 : List OP := [oi (.iconst 1), (.goto 4, 0, 0, 29, 0, 0)]
theorem oX8_isFact_24 : okB mX8_isFact 24 bX8_isFact_24 = true := by decide +kernel
def bX8_isFact_28 : List OP := [oi (.iconst 0)]
theorem oX8_isFact_28 : okB mX8_isFact 28 bX8_isFact_28 = true := by decide +kernel
theorem eX8_isFact_29 : decode mX8_isFact.2.1 29 = .ok (.ireturn, 1) := by decide +kernel
def bX8_isSize_0 : List OP := [oi (.iload_n 0), oi (.bipush 48)]
theorem oX8_isSize_0 : okB mX8_isSize 0 bX8_isSize_0 = true := by decide +kernel
theorem eX8_isSize_3 : decode mX8_isSize.2.1 3 = .ok (.if_icmp .lt 13, 3) := by decide +kernel
def bX8_isSize_6 : List OP := [oi (.iload_n 0), oi (.bipush 50)]
theorem oX8_isSize_6 : okB mX8_isSize 6 bX8_isSize_6 = true := by decide +kernel
theorem eX8_isSize_9 : decode mX8_isSize.2.1 9 = .ok (.if_icmp .gt 7, 3) := by decide +kernel
def bX8_isSize_12 : List OP := [oi (.iconst 1), (.goto 4, 0, 0, 17, 0, 0)]
theorem oX8_isSize_12 : okB mX8_isSize 12 bX8_isSize_12 = true := by decide +kernel
def bX8_isSize_16 : List OP := [oi (.iconst 0)]
theorem oX8_isSize_16 : okB mX8_isSize 16 bX8_isSize_16 = true := by decide +kernel
theorem eX8_isSize_17 : decode mX8_isSize.2.1 17 = .ok (.ireturn, 1) := by decide +kernel
def bX8_isDigit_0 : List OP := [oi (.iload_n 0), oi (.bipush 48)]
theorem oX8_isDigit_0 : okB mX8_isDigit 0 bX8_isDigit_0 = true := by decide +kernel
theorem eX8_isDigit_3 : decode mX8_isDigit.2.1 3 = .ok (.if_icmp .lt 13, 3) := by decide +kernel
def bX8_isDigit_6 : List OP := [oi (.iload_n 0), oi (.bipush 57)]
theorem oX8_isDigit_6 : okB mX8_isDigit 6 bX8_isDigit_6 = true := by decide +kernel
theorem eX8_isDigit_9 : decode mX8_isDigit.2.1 9 = .ok (.if_icmp .gt 7, 3) := by decide +kernel
def bX8_isDigit_12 : List OP := [oi (.iconst 1), (.goto 4, 0, 0, 17, 0, 0)]
theorem oX8_isDigit_12 : okB mX8_isDigit 12 bX8_isDigit_12 = true := by decide +kernel
def bX8_isDigit_16 : List OP := [oi (.iconst 0)]
theorem oX8_isDigit_16 : okB mX8_isDigit 16 bX8_isDigit_16 = true := by decide +kernel
theorem eX8_isDigit_17 : decode mX8_isDigit.2.1 17 = .ok (.ireturn, 1) := by decide +kernel
def bX10_changeRoom_0 : List OP := [oi (.aload_n 0), (.getfield 7, 0, 10, 0, 2, 283), oi (.iload_n 1), oi .iaload, oi (.istore_n 3), oi (.aload_n 0), (.getfield 7, 0, 10, 0, 2, 283), oi (.iload_n 1), oi (.iload_n 2), oi .iastore, oi (.iload_n 3)]
theorem oX10_changeRoom_0 : okB mX10_changeRoom 0 bX10_changeRoom_0 = true := by decide +kernel
theorem eX10_changeRoom_15 : decode mX10_changeRoom.2.1 15 = .ok (.ireturn, 1) := by decide +kernel
def bX10_changeFar_0 : List OP := [oi (.aload_n 0), (.getfield 13, 1, 10, 1, 2, 284), oi (.iload_n 1), oi .iaload, oi (.istore_n 3), oi (.aload_n 0), (.getfield 13, 1, 10, 1, 2, 284), oi (.iload_n 1), oi (.iload_n 2), oi .iastore, oi (.iload_n 3)]
theorem oX10_changeFar_0 : okB mX10_changeFar 0 bX10_changeFar_0 = true := by decide +kernel
theorem eX10_changeFar_15 : decode mX10_changeFar.2.1 15 = .ok (.ireturn, 1) := by decide +kernel
def bX10_changeWeight_0 : List OP := [oi (.aload_n 0), (.getfield 16, 2, 10, 2, 2, 285), oi (.iload_n 1), oi .iaload, oi (.istore_n 3), oi (.aload_n 0), (.getfield 16, 2, 10, 2, 2, 285), oi (.iload_n 1), oi (.iload_n 2), oi .iastore, oi (.iload_n 3)]
theorem oX10_changeWeight_0 : okB mX10_changeWeight 0 bX10_changeWeight_0 = true := by decide +kernel
theorem eX10_changeWeight_15 : decode mX10_changeWeight.2.1 15 = .ok (.ireturn, 1) := by decide +kernel
def bX10_changeAsks_0 : List OP := [oi (.aload_n 0), (.getfield 19, 3, 10, 3, 2, 286), oi (.iload_n 1), oi (.bipush 6), oi .imul, oi (.iload_n 2), oi .iadd, oi .iaload, oi (.istore 4), oi (.aload_n 0), (.getfield 19, 3, 10, 3, 2, 286), oi (.iload_n 1), oi (.bipush 6), oi .imul, oi (.iload_n 2), oi .iadd, oi (.iload_n 3), oi .iastore, oi (.iload 4)]
theorem oX10_changeAsks_0 : okB mX10_changeAsks 0 bX10_changeAsks_0 = true := by decide +kernel
theorem eX10_changeAsks_27 : decode mX10_changeAsks.2.1 27 = .ok (.ireturn, 1) := by decide +kernel
def bX10_bestFilms_0 : List OP := [oi (.iconst 0), oi (.istore_n 2), oi (.iconst 0), oi (.istore_n 3), oi (.aload_n 0), oi (.iload_n 1), oi (.iconst 0)]
theorem oX10_bestFilms_0 : okB mX10_bestFilms 0 bX10_bestFilms_0 = true := by decide +kernel
theorem eX10_bestFilms_7 : decode mX10_bestFilms.2.1 7 = .ok (.invokevirtual 22, 3) := by decide +kernel
theorem lX10_bestFilms_7 : okL 748 (.methodLink mX10_bestFilms.1.cls 22 mX10_costOf.1) = true := by decide +kernel
def bX10_bestFilms_10 : List OP := [oi (.istore 4), oi (.iconst 1), oi (.istore 5)]
theorem oX10_bestFilms_10 : okB mX10_bestFilms 10 bX10_bestFilms_10 = true := by decide +kernel
def bX10_bestFilms_15 : List OP := [oi (.iload 5), oi (.bipush 64)]
theorem oX10_bestFilms_15 : okB mX10_bestFilms 15 bX10_bestFilms_15 = true := by decide +kernel
theorem eX10_bestFilms_19 : decode mX10_bestFilms.2.1 19 = .ok (.if_icmp .ge 67, 3) := by decide +kernel
def bX10_bestFilms_22 : List OP := [oi (.aload_n 0), oi (.iload 5)]
theorem oX10_bestFilms_22 : okB mX10_bestFilms 22 bX10_bestFilms_22 = true := by decide +kernel
theorem eX10_bestFilms_25 : decode mX10_bestFilms.2.1 25 = .ok (.invokevirtual 26, 3) := by decide +kernel
theorem lX10_bestFilms_25 : okL 752 (.methodLink mX10_bestFilms.1.cls 26 mX10_weightOf.1) = true := by decide +kernel
def bX10_bestFilms_28 : List OP := [oi (.istore 6), oi (.iload 6), oi (.aload_n 0), (.getfield 7, 0, 10, 0, 2, 283), oi (.iload_n 1), oi .iaload]
theorem oX10_bestFilms_28 : okB mX10_bestFilms 28 bX10_bestFilms_28 = true := by decide +kernel
theorem eX10_bestFilms_38 : decode mX10_bestFilms.2.1 38 = .ok (.if_icmp .gt 42, 3) := by decide +kernel
def bX10_bestFilms_41 : List OP := [oi (.aload_n 0), oi (.iload_n 1), oi (.iload 5)]
theorem oX10_bestFilms_41 : okB mX10_bestFilms 41 bX10_bestFilms_41 = true := by decide +kernel
theorem eX10_bestFilms_45 : decode mX10_bestFilms.2.1 45 = .ok (.invokevirtual 22, 3) := by decide +kernel
theorem lX10_bestFilms_45 : okL 748 (.methodLink mX10_bestFilms.1.cls 22 mX10_costOf.1) = true := by decide +kernel
def bX10_bestFilms_48 : List OP := [oi (.istore 7), oi (.iload 7), oi (.iload 4)]
theorem oX10_bestFilms_48 : okB mX10_bestFilms 48 bX10_bestFilms_48 = true := by decide +kernel
theorem eX10_bestFilms_54 : decode mX10_bestFilms.2.1 54 = .ok (.if_icmp .lt 16, 3) := by decide +kernel
def bX10_bestFilms_57 : List OP := [oi (.iload 7), oi (.iload 4)]
theorem oX10_bestFilms_57 : okB mX10_bestFilms 57 bX10_bestFilms_57 = true := by decide +kernel
theorem eX10_bestFilms_61 : decode mX10_bestFilms.2.1 61 = .ok (.if_icmp .ne 19, 3) := by decide +kernel
def bX10_bestFilms_64 : List OP := [oi (.iload 6), oi (.iload_n 3)]
theorem oX10_bestFilms_64 : okB mX10_bestFilms 64 bX10_bestFilms_64 = true := by decide +kernel
theorem eX10_bestFilms_67 : decode mX10_bestFilms.2.1 67 = .ok (.if_icmp .ge 13, 3) := by decide +kernel
def bX10_bestFilms_70 : List OP := [oi (.iload 5), oi (.istore_n 2), oi (.iload 6), oi (.istore_n 3), oi (.iload 7), oi (.istore 4)]
theorem oX10_bestFilms_70 : okB mX10_bestFilms 70 bX10_bestFilms_70 = true := by decide +kernel
def bX10_bestFilms_80 : List OP := [oi (.iinc 5 1), (.goto (-68), 0, 0, 15, 0, 0)]
theorem oX10_bestFilms_80 : okB mX10_bestFilms 80 bX10_bestFilms_80 = true := by decide +kernel
def bX10_bestFilms_86 : List OP := [oi (.iload_n 2)]
theorem oX10_bestFilms_86 : okB mX10_bestFilms 86 bX10_bestFilms_86 = true := by decide +kernel
theorem eX10_bestFilms_87 : decode mX10_bestFilms.2.1 87 = .ok (.ireturn, 1) := by decide +kernel
def bX10_weightOf_0 : List OP := [oi (.iconst 0), oi (.istore_n 2), oi (.iconst 0), oi (.istore_n 3)]
theorem oX10_weightOf_0 : okB mX10_weightOf 0 bX10_weightOf_0 = true := by decide +kernel
def bX10_weightOf_4 : List OP := [oi (.iload_n 3), oi (.bipush 6)]
theorem oX10_weightOf_4 : okB mX10_weightOf 4 bX10_weightOf_4 = true := by decide +kernel
theorem eX10_weightOf_7 : decode mX10_weightOf.2.1 7 = .ok (.if_icmp .ge 24, 3) := by decide +kernel
def bX10_weightOf_10 : List OP := [oi (.iload_n 2), oi (.iload_n 1), oi (.iload_n 3), oi .ishr, oi (.iconst 1), oi .iand, oi (.aload_n 0), (.getfield 16, 2, 10, 2, 2, 285), oi (.iload_n 3), oi .iaload, oi .imul, oi .iadd, oi (.istore_n 2), oi (.iinc 3 1), (.goto (-24), 0, 0, 4, 0, 0)]
theorem oX10_weightOf_10 : okB mX10_weightOf 10 bX10_weightOf_10 = true := by decide +kernel
def bX10_weightOf_31 : List OP := [oi (.iload_n 2)]
theorem oX10_weightOf_31 : okB mX10_weightOf 31 bX10_weightOf_31 = true := by decide +kernel
theorem eX10_weightOf_32 : decode mX10_weightOf.2.1 32 = .ok (.ireturn, 1) := by decide +kernel
def bX10_costOf_0 : List OP := [oi (.iconst 0), oi (.istore_n 3), oi (.iconst 0), oi (.istore 4)]
theorem oX10_costOf_0 : okB mX10_costOf 0 bX10_costOf_0 = true := by decide +kernel
def bX10_costOf_5 : List OP := [oi (.iload 4), oi (.bipush 6)]
theorem oX10_costOf_5 : okB mX10_costOf 5 bX10_costOf_5 = true := by decide +kernel
theorem eX10_costOf_9 : decode mX10_costOf.2.1 9 = .ok (.if_icmp .ge 33, 3) := by decide +kernel
def bX10_costOf_12 : List OP := [oi (.iload_n 2), oi (.iload 4), oi .ishr, oi (.iconst 1), oi .iand]
theorem oX10_costOf_12 : okB mX10_costOf 12 bX10_costOf_12 = true := by decide +kernel
theorem eX10_costOf_18 : decode mX10_costOf.2.1 18 = .ok (.ifCond .ne 18, 3) := by decide +kernel
def bX10_costOf_21 : List OP := [oi (.iload_n 3), oi (.aload_n 0), (.getfield 19, 3, 10, 3, 2, 286), oi (.iload_n 1), oi (.bipush 6), oi .imul, oi (.iload 4), oi .iadd, oi .iaload, oi .iadd, oi (.istore_n 3)]
theorem oX10_costOf_21 : okB mX10_costOf 21 bX10_costOf_21 = true := by decide +kernel
def bX10_costOf_36 : List OP := [oi (.iinc 4 1), (.goto (-34), 0, 0, 5, 0, 0)]
theorem oX10_costOf_36 : okB mX10_costOf 36 bX10_costOf_36 = true := by decide +kernel
def bX10_costOf_42 : List OP := [oi (.iload_n 3), oi (.aload_n 0), (.getfield 13, 1, 10, 1, 2, 284), oi (.iload_n 1), oi .iaload, oi .imul]
theorem oX10_costOf_42 : okB mX10_costOf 42 bX10_costOf_42 = true := by decide +kernel
theorem eX10_costOf_50 : decode mX10_costOf.2.1 50 = .ok (.ireturn, 1) := by decide +kernel
end
section
/-! ===== code as blocks ===== -/
def bX0_seek_0 : List OP := [oi (.aload_n 0), oi (.iload_n 2), oi (.aload_n 1), (.getfield 36, 2, 2, 2, 0, 155)]
theorem oX0_seek_0 : okB mX0_seek 0 bX0_seek_0 = true := by decide +kernel
theorem eX0_seek_6 : decode mX0_seek.2.1 6 = .ok (.invokestatic 40, 3) := by decide +kernel
theorem lX0_seek_6 : okL 672 (.methodLink mX0_seek.1.cls 40 mJ9_min.1) = true := by decide +kernel
def bX0_seek_9 : List OP := [(.putfield 46, 6, 0, 6, 0, 249), oi (.iconst 0), oi (.istore_n 3), oi (.iconst 0), oi (.istore 4)]
theorem oX0_seek_9 : okB mX0_seek 9 bX0_seek_9 = true := by decide +kernel
def bX0_seek_17 : List OP := [oi (.iload 4), oi (.bipush 60)]
theorem oX0_seek_17 : okB mX0_seek 17 bX0_seek_17 = true := by decide +kernel
theorem eX0_seek_21 : decode mX0_seek.2.1 21 = .ok (.if_icmp .ge 27, 3) := by decide +kernel
def bX0_seek_24 : List OP := [oi (.iload_n 3), oi (.aload_n 1), (.getfield 49, 0, 2, 0, 2, 151), oi (.iload 4), oi .iaload, oi .iadd, oi (.istore_n 3), oi (.aload_n 0), (.getfield 20, 1, 0, 1, 2, 244), oi (.iload 4), oi (.iload_n 3), oi .iastore, oi (.iinc 4 1), (.goto (-28), 0, 0, 17, 0, 0)]
theorem oX0_seek_24 : okB mX0_seek 24 bX0_seek_24 = true := by decide +kernel
def bX0_seek_48 : List OP := [oi (.aload_n 0), (.getfield 12, 0, 0, 0, 2, 242)]
theorem oX0_seek_48 : okB mX0_seek 48 bX0_seek_48 = true := by decide +kernel
theorem eX0_seek_52 : decode mX0_seek.2.1 52 = .ok (.invokevirtual 52, 3) := by decide +kernel
theorem lX0_seek_52 : okL 673 (.methodLink mX0_seek.1.cls 52 mX9_clear.1) = true := by decide +kernel
def bX0_seek_55 : List OP := [oi (.iload_n 3)]
theorem oX0_seek_55 : okB mX0_seek 55 bX0_seek_55 = true := by decide +kernel
theorem eX0_seek_56 : decode mX0_seek.2.1 56 = .ok (.ifCond .le 11, 3) := by decide +kernel
def bX0_seek_59 : List OP := [oi (.aload_n 0), oi (.aload_n 1), oi (.iconst 0), oi (.iconst 0), oi (.iconst 0)]
theorem oX0_seek_59 : okB mX0_seek 59 bX0_seek_59 = true := by decide +kernel
theorem eX0_seek_64 : decode mX0_seek.2.1 64 = .ok (.invokevirtual 55, 3) := by decide +kernel
theorem lX0_seek_64 : okL 674 (.methodLink mX0_seek.1.cls 55 mX0_placeFrom.1) = true := by decide +kernel
theorem eX0_seek_67 : decode mX0_seek.2.1 67 = .ok (.return_, 1) := by decide +kernel
def bX0_placeFrom_0 : List OP := [oi (.iload_n 2), oi (.aload_n 1), (.getfield 36, 2, 2, 2, 0, 155)]
theorem oX0_placeFrom_0 : okB mX0_placeFrom 0 bX0_placeFrom_0 = true := by decide +kernel
theorem eX0_placeFrom_5 : decode mX0_placeFrom.2.1 5 = .ok (.if_icmp .lt 4, 3) := by decide +kernel
theorem eX0_placeFrom_8 : decode mX0_placeFrom.2.1 8 = .ok (.return_, 1) := by decide +kernel
def bX0_placeFrom_9 : List OP := [oi (.iconst 2), oi (.istore 5)]
theorem oX0_placeFrom_9 : okB mX0_placeFrom 9 bX0_placeFrom_9 = true := by decide +kernel
def bX0_placeFrom_12 : List OP := [oi (.iload 5)]
theorem oX0_placeFrom_12 : okB mX0_placeFrom 12 bX0_placeFrom_12 = true := by decide +kernel
theorem eX0_placeFrom_14 : decode mX0_placeFrom.2.1 14 = .ok (.ifCond .lt 47, 3) := by decide +kernel
def bX0_placeFrom_17 : List OP := [oi (.aload_n 1), oi (.iload_n 2)]
theorem oX0_placeFrom_17 : okB mX0_placeFrom 17 bX0_placeFrom_17 = true := by decide +kernel
theorem eX0_placeFrom_19 : decode mX0_placeFrom.2.1 19 = .ok (.invokevirtual 59, 3) := by decide +kernel
theorem lX0_placeFrom_19 : okL 678 (.methodLink mX0_placeFrom.1.cls 59 mX2_isDoor.1) = true := by decide +kernel
theorem eX0_placeFrom_22 : decode mX0_placeFrom.2.1 22 = .ok (.ifCond .ne 16, 3) := by decide +kernel
def bX0_placeFrom_25 : List OP := [oi (.iload 5), oi (.aload_n 0), (.getfield 24, 2, 0, 2, 2, 245), oi (.iload_n 2), oi (.iconst 1), oi .isub, oi .iaload]
theorem oX0_placeFrom_25 : okB mX0_placeFrom 25 bX0_placeFrom_25 = true := by decide +kernel
theorem eX0_placeFrom_35 : decode mX0_placeFrom.2.1 35 = .ok (.if_icmp .ne 20, 3) := by decide +kernel
def bX0_placeFrom_38 : List OP := [oi (.aload_n 0), (.getfield 24, 2, 0, 2, 2, 245), oi (.iload_n 2), oi (.iload 5), oi .iastore, oi (.aload_n 0), oi (.aload_n 1), oi (.iload_n 2), oi (.iload_n 3), oi (.iload 4)]
theorem oX0_placeFrom_38 : okB mX0_placeFrom 38 bX0_placeFrom_38 = true := by decide +kernel
theorem eX0_placeFrom_52 : decode mX0_placeFrom.2.1 52 = .ok (.invokevirtual 63, 3) := by decide +kernel
theorem lX0_placeFrom_52 : okL 679 (.methodLink mX0_placeFrom.1.cls 63 mX0_place.1) = true := by decide +kernel
def bX0_placeFrom_55 : List OP := [oi (.iinc 5 (-1)), (.goto (-46), 0, 0, 12, 0, 0)]
theorem oX0_placeFrom_55 : okB mX0_placeFrom 55 bX0_placeFrom_55 = true := by decide +kernel
theorem eX0_placeFrom_61 : decode mX0_placeFrom.2.1 61 = .ok (.return_, 1) := by decide +kernel
def bX0_place_0 : List OP := [oi (.iload_n 3), oi (.aload_n 1), oi (.iload_n 2), oi (.aload_n 0), (.getfield 24, 2, 0, 2, 2, 245), oi (.iload_n 2), oi .iaload]
theorem oX0_place_0 : okB mX0_place 0 bX0_place_0 = true := by decide +kernel
theorem eX0_place_9 : decode mX0_place.2.1 9 = .ok (.invokevirtual 66, 3) := by decide +kernel
theorem lX0_place_9 : okL 683 (.methodLink mX0_place.1.cls 66 mX2_bitsOf.1) = true := by decide +kernel
def bX0_place_12 : List OP := [oi .iadd, oi (.istore 5), oi (.aload_n 0), oi (.iload 5), oi (.iload 4)]
theorem oX0_place_12 : okB mX0_place 12 bX0_place_12 = true := by decide +kernel
theorem eX0_place_20 : decode mX0_place.2.1 20 = .ok (.invokevirtual 69, 3) := by decide +kernel
theorem lX0_place_20 : okL 684 (.methodLink mX0_place.1.cls 69 mX0_secondOf.1) = true := by decide +kernel
def bX0_place_23 : List OP := [oi (.istore 6), oi (.aload_n 0), (.getfield 27, 3, 0, 3, 2, 246), oi (.iload_n 2), oi (.iload 6), oi .iastore, oi (.aload_n 0), (.getfield 33, 5, 0, 5, 2, 248), oi (.iload_n 2), oi (.aload_n 0), (.getfield 24, 2, 0, 2, 2, 245), oi (.iload_n 2), oi .iaload, oi (.iload_n 2)]
theorem oX0_place_23 : okB mX0_place 23 bX0_place_23 = true := by decide +kernel
theorem eX0_place_45 : decode mX0_place.2.1 45 = .ok (.ifCond .le 14, 3) := by decide +kernel
def bX0_place_48 : List OP := [oi (.aload_n 0), (.getfield 33, 5, 0, 5, 2, 248), oi (.iload_n 2), oi (.iconst 1), oi .isub, oi .iaload, (.goto 4, 0, 0, 60, 0, 0)]
theorem oX0_place_48 : okB mX0_place 48 bX0_place_48 = true := by decide +kernel
def bX0_place_59 : List OP := [oi (.iconst 0)]
theorem oX0_place_59 : okB mX0_place 59 bX0_place_59 = true := by decide +kernel
def bX0_place_60 : List OP := [oi .iadd, oi .iastore, oi (.iload_n 2), oi (.iconst 1), oi .iadd, oi (.aload_n 0), (.getfield 46, 6, 0, 6, 0, 249)]
theorem oX0_place_60 : okB mX0_place 60 bX0_place_60 = true := by decide +kernel
theorem eX0_place_69 : decode mX0_place.2.1 69 = .ok (.if_icmp .lt 39, 3) := by decide +kernel
def bX0_place_72 : List OP := [oi (.aload_n 0), (.getfield 30, 4, 0, 4, 2, 247), oi (.iload_n 2), oi (.iload_n 2), oi (.aload_n 0), (.getfield 46, 6, 0, 6, 0, 249)]
theorem oX0_place_72 : okB mX0_place 72 bX0_place_72 = true := by decide +kernel
theorem eX0_place_82 : decode mX0_place.2.1 82 = .ok (.if_icmp .lt 21, 3) := by decide +kernel
def bX0_place_85 : List OP := [oi (.iload 6), oi (.aload_n 0), (.getfield 30, 4, 0, 4, 2, 247), oi (.iload_n 2), oi (.iconst 1), oi .isub, oi .iaload, oi (.iconst 1), oi .iadd]
theorem oX0_place_85 : okB mX0_place 85 bX0_place_85 = true := by decide +kernel
theorem eX0_place_97 : decode mX0_place.2.1 97 = .ok (.invokestatic 72, 3) := by decide +kernel
theorem lX0_place_97 : okL 688 (.methodLink mX0_place.1.cls 72 mJ9_max.1) = true := by decide +kernel
def bX0_place_100 : List OP := [(.goto 7, 0, 0, 107, 0, 0)]
theorem oX0_place_100 : okB mX0_place 100 bX0_place_100 = true := by decide +kernel
def bX0_place_103 : List OP := [oi (.iload 6), oi (.iload_n 2), oi .iadd]
theorem oX0_place_103 : okB mX0_place 103 bX0_place_103 = true := by decide +kernel
def bX0_place_107 : List OP := [oi .iastore]
theorem oX0_place_107 : okB mX0_place 107 bX0_place_107 = true := by decide +kernel
def bX0_place_108 : List OP := [oi (.iload 6), oi (.bipush 60)]
theorem oX0_place_108 : okB mX0_place 108 bX0_place_108 = true := by decide +kernel
theorem eX0_place_112 : decode mX0_place.2.1 112 = .ok (.if_icmp .eq 25, 3) := by decide +kernel
def bX0_place_115 : List OP := [oi (.iload 5), oi (.aload_n 0), (.getfield 20, 1, 0, 1, 2, 244), oi (.bipush 59), oi .iaload]
theorem oX0_place_115 : okB mX0_place 115 bX0_place_115 = true := by decide +kernel
theorem eX0_place_124 : decode mX0_place.2.1 124 = .ok (.if_icmp .eq 13, 3) := by decide +kernel
def bX0_place_127 : List OP := [oi (.iload_n 2), oi (.iconst 1), oi .iadd, oi (.aload_n 1), (.getfield 36, 2, 2, 2, 0, 155)]
theorem oX0_place_127 : okB mX0_place 127 bX0_place_127 = true := by decide +kernel
theorem eX0_place_134 : decode mX0_place.2.1 134 = .ok (.if_icmp .ne 14, 3) := by decide +kernel
def bX0_place_137 : List OP := [oi (.aload_n 0), oi (.aload_n 1), oi (.iload_n 2), oi (.iconst 1), oi .iadd]
theorem oX0_place_137 : okB mX0_place 137 bX0_place_137 = true := by decide +kernel
theorem eX0_place_142 : decode mX0_place.2.1 142 = .ok (.invokevirtual 75, 3) := by decide +kernel
theorem lX0_place_142 : okL 689 (.methodLink mX0_place.1.cls 75 mX0_judge.1) = true := by decide +kernel
def bX0_place_145 : List OP := [(.goto 24, 0, 0, 169, 0, 0)]
theorem oX0_place_145 : okB mX0_place 145 bX0_place_145 = true := by decide +kernel
def bX0_place_148 : List OP := [oi (.aload_n 0), oi (.aload_n 1), oi (.iload_n 2)]
theorem oX0_place_148 : okB mX0_place 148 bX0_place_148 = true := by decide +kernel
theorem eX0_place_151 : decode mX0_place.2.1 151 = .ok (.invokevirtual 79, 3) := by decide +kernel
theorem lX0_place_151 : okL 705 (.methodLink mX0_place.1.cls 79 mX0_mayBeNoWorse.1) = true := by decide +kernel
theorem eX0_place_154 : decode mX0_place.2.1 154 = .ok (.ifCond .eq 15, 3) := by decide +kernel
def bX0_place_157 : List OP := [oi (.aload_n 0), oi (.aload_n 1), oi (.iload_n 2), oi (.iconst 1), oi .iadd, oi (.iload 5), oi (.iload 6)]
theorem oX0_place_157 : okB mX0_place 157 bX0_place_157 = true := by decide +kernel
theorem eX0_place_166 : decode mX0_place.2.1 166 = .ok (.invokevirtual 55, 3) := by decide +kernel
theorem lX0_place_166 : okL 674 (.methodLink mX0_place.1.cls 55 mX0_placeFrom.1) = true := by decide +kernel
theorem eX0_place_169 : decode mX0_place.2.1 169 = .ok (.return_, 1) := by decide +kernel
def bX0_secondOf_0 : List OP := [oi (.iload_n 2), oi (.istore_n 3)]
theorem oX0_secondOf_0 : okB mX0_secondOf 0 bX0_secondOf_0 = true := by decide +kernel
def bX0_secondOf_2 : List OP := [oi (.iload_n 3), oi (.bipush 60)]
theorem oX0_secondOf_2 : okB mX0_secondOf 2 bX0_secondOf_2 = true := by decide +kernel
theorem eX0_secondOf_5 : decode mX0_secondOf.2.1 5 = .ok (.if_icmp .ge 19, 3) := by decide +kernel
def bX0_secondOf_8 : List OP := [oi (.aload_n 0), (.getfield 20, 1, 0, 1, 2, 244), oi (.iload_n 3), oi .iaload, oi (.iload_n 1)]
theorem oX0_secondOf_8 : okB mX0_secondOf 8 bX0_secondOf_8 = true := by decide +kernel
theorem eX0_secondOf_15 : decode mX0_secondOf.2.1 15 = .ok (.if_icmp .ge 9, 3) := by decide +kernel
def bX0_secondOf_18 : List OP := [oi (.iinc 3 1), (.goto (-19), 0, 0, 2, 0, 0)]
theorem oX0_secondOf_18 : okB mX0_secondOf 18 bX0_secondOf_18 = true := by decide +kernel
def bX0_secondOf_24 : List OP := [oi (.iload_n 3)]
theorem oX0_secondOf_24 : okB mX0_secondOf 24 bX0_secondOf_24 = true := by decide +kernel
theorem eX0_secondOf_25 : decode mX0_secondOf.2.1 25 = .ok (.ireturn, 1) := by decide +kernel
def bX0_mayBeNoWorse_0 : List OP := [oi (.aload_n 0), (.getfield 12, 0, 0, 0, 2, 242), (.getfield 83, 1, 9, 1, 0, 210), oi (.aload_n 1), (.getfield 36, 2, 2, 2, 0, 155)]
theorem oX0_mayBeNoWorse_0 : okB mX0_mayBeNoWorse 0 bX0_mayBeNoWorse_0 = true := by decide +kernel
theorem eX0_mayBeNoWorse_11 : decode mX0_mayBeNoWorse.2.1 11 = .ok (.if_icmp .ge 5, 3) := by decide +kernel
def bX0_mayBeNoWorse_14 : List OP := [oi (.iconst 1)]
theorem oX0_mayBeNoWorse_14 : okB mX0_mayBeNoWorse 14 bX0_mayBeNoWorse_14 = true := by decide +kernel
theorem eX0_mayBeNoWorse_15 : decode mX0_mayBeNoWorse.2.1 15 = .ok (.ireturn, 1) := by decide +kernel
def bX0_mayBeNoWorse_16 : List OP := [oi (.iconst 0), oi (.istore_n 3), oi (.iload_n 2), oi (.iconst 1), oi .iadd, oi (.aload_n 0), (.getfield 46, 6, 0, 6, 0, 249)]
theorem oX0_mayBeNoWorse_16 : okB mX0_mayBeNoWorse 16 bX0_mayBeNoWorse_16 = true := by decide +kernel
theorem eX0_mayBeNoWorse_25 : decode mX0_mayBeNoWorse.2.1 25 = .ok (.if_icmp .lt 37, 3) := by decide +kernel
def bX0_mayBeNoWorse_28 : List OP := [oi (.aload_n 0), (.getfield 30, 4, 0, 4, 2, 247), oi (.iload_n 2), oi .iaload, oi (.bipush 60)]
theorem oX0_mayBeNoWorse_28 : okB mX0_mayBeNoWorse 28 bX0_mayBeNoWorse_28 = true := by decide +kernel
theorem eX0_mayBeNoWorse_36 : decode mX0_mayBeNoWorse.2.1 36 = .ok (.if_icmp .lt 5, 3) := by decide +kernel
def bX0_mayBeNoWorse_39 : List OP := [oi (.iconst 0)]
theorem oX0_mayBeNoWorse_39 : okB mX0_mayBeNoWorse 39 bX0_mayBeNoWorse_39 = true := by decide +kernel
theorem eX0_mayBeNoWorse_40 : decode mX0_mayBeNoWorse.2.1 40 = .ok (.ireturn, 1) := by decide +kernel
def bX0_mayBeNoWorse_41 : List OP := [oi (.aload_n 0), (.getfield 30, 4, 0, 4, 2, 247), oi (.iload_n 2), oi .iaload, oi (.iload_n 2), oi .isub, oi (.aload_n 0), (.getfield 27, 3, 0, 3, 2, 246), oi (.aload_n 0), (.getfield 46, 6, 0, 6, 0, 249), oi (.iconst 1), oi .isub, oi .iaload, oi .isub, oi (.istore_n 3)]
theorem oX0_mayBeNoWorse_41 : okB mX0_mayBeNoWorse 41 bX0_mayBeNoWorse_41 = true := by decide +kernel
def bX0_mayBeNoWorse_62 : List OP := [oi (.aload_n 0), (.getfield 33, 5, 0, 5, 2, 248), oi (.iload_n 2), oi .iaload, oi (.aload_n 1), (.getfield 36, 2, 2, 2, 0, 155), oi (.iconst 1), oi .isub, oi (.iload_n 2), oi .isub, oi (.iconst 2), oi .imul, oi .iadd, oi (.istore 4), oi (.iload_n 3), oi (.aload_n 0), (.getfield 12, 0, 0, 0, 2, 242), (.getfield 86, 2, 9, 2, 0, 212)]
theorem oX0_mayBeNoWorse_62 : okB mX0_mayBeNoWorse 62 bX0_mayBeNoWorse_62 = true := by decide +kernel
theorem eX0_mayBeNoWorse_89 : decode mX0_mayBeNoWorse.2.1 89 = .ok (.if_icmp .lt 26, 3) := by decide +kernel
def bX0_mayBeNoWorse_92 : List OP := [oi (.iload_n 3), oi (.aload_n 0), (.getfield 12, 0, 0, 0, 2, 242), (.getfield 86, 2, 9, 2, 0, 212)]
theorem oX0_mayBeNoWorse_92 : okB mX0_mayBeNoWorse 92 bX0_mayBeNoWorse_92 = true := by decide +kernel
theorem eX0_mayBeNoWorse_100 : decode mX0_mayBeNoWorse.2.1 100 = .ok (.if_icmp .ne 19, 3) := by decide +kernel
def bX0_mayBeNoWorse_103 : List OP := [oi (.iload 4), oi (.aload_n 0), (.getfield 12, 0, 0, 0, 2, 242), (.getfield 89, 3, 9, 3, 0, 214)]
theorem oX0_mayBeNoWorse_103 : okB mX0_mayBeNoWorse 103 bX0_mayBeNoWorse_103 = true := by decide +kernel
theorem eX0_mayBeNoWorse_112 : decode mX0_mayBeNoWorse.2.1 112 = .ok (.if_icmp .lt 7, 3) := by decide +kernel
def bX0_mayBeNoWorse_115 : List OP := [oi (.iconst 1), (.goto 4, 0, 0, 120, 0, 0)]
theorem oX0_mayBeNoWorse_115 : okB mX0_mayBeNoWorse 115 bX0_mayBeNoWorse_115 = true := by decide +kernel
def bX0_mayBeNoWorse_119 : List OP := [oi (.iconst 0)]
theorem oX0_mayBeNoWorse_119 : okB mX0_mayBeNoWorse 119 bX0_mayBeNoWorse_119 = true := by decide +kernel
theorem eX0_mayBeNoWorse_120 : decode mX0_mayBeNoWorse.2.1 120 = .ok (.ireturn, 1) := by decide +kernel
def bX0_judge_0 : List OP := [oi (.aload_n 0), oi (.iconst 0), (.putfield 92, 7, 0, 7, 0, 250), oi (.aload_n 0), oi (.iconst 0), (.putfield 95, 8, 0, 8, 0, 251), oi (.aload_n 0), oi (.iconst 0), (.putfield 98, 9, 0, 9, 0, 252), oi (.aload_n 0), oi (.bipush (-6)), (.putfield 101, 10, 0, 10, 0, 253), oi (.aload_n 0), (.getfield 27, 3, 0, 3, 2, 246), oi (.iload_n 2), oi (.iconst 1), oi .isub, oi .iaload, oi (.bipush 60)]
theorem oX0_judge_0 : okB mX0_judge 0 bX0_judge_0 = true := by decide +kernel
theorem eX0_judge_31 : decode mX0_judge.2.1 31 = .ok (.if_icmp .ge 7, 3) := by decide +kernel
def bX0_judge_34 : List OP := [oi (.iload_n 2), (.goto 6, 0, 0, 41, 0, 0)]
theorem oX0_judge_34 : okB mX0_judge 34 bX0_judge_34 = true := by decide +kernel
def bX0_judge_38 : List OP := [oi (.iload_n 2), oi (.iconst 1), oi .isub]
theorem oX0_judge_38 : okB mX0_judge 38 bX0_judge_38 = true := by decide +kernel
def bX0_judge_41 : List OP := [oi (.istore_n 3), oi (.iload_n 3), oi (.aload_n 0), (.getfield 46, 6, 0, 6, 0, 249)]
theorem oX0_judge_41 : okB mX0_judge 41 bX0_judge_41 = true := by decide +kernel
theorem eX0_judge_47 : decode mX0_judge.2.1 47 = .ok (.if_icmp .lt 9, 3) := by decide +kernel
def bX0_judge_50 : List OP := [oi (.aload_n 0), oi (.aload_n 1), oi (.iload_n 3)]
theorem oX0_judge_50 : okB mX0_judge 50 bX0_judge_50 = true := by decide +kernel
theorem eX0_judge_53 : decode mX0_judge.2.1 53 = .ok (.invokevirtual 104, 3) := by decide +kernel
theorem lX0_judge_53 : okL 693 (.methodLink mX0_judge.1.cls 104 mX0_watch.1) = true := by decide +kernel
def bX0_judge_56 : List OP := [oi (.aload_n 0)]
theorem oX0_judge_56 : okB mX0_judge 56 bX0_judge_56 = true := by decide +kernel
theorem eX0_judge_57 : decode mX0_judge.2.1 57 = .ok (.invokevirtual 107, 3) := by decide +kernel
theorem lX0_judge_57 : okL 697 (.methodLink mX0_judge.1.cls 107 mX0_isNoWorse.1) = true := by decide +kernel
theorem eX0_judge_60 : decode mX0_judge.2.1 60 = .ok (.ifCond .eq 8, 3) := by decide +kernel
def bX0_judge_63 : List OP := [oi (.aload_n 0), oi (.iload_n 2)]
theorem oX0_judge_63 : okB mX0_judge 63 bX0_judge_63 = true := by decide +kernel
theorem eX0_judge_65 : decode mX0_judge.2.1 65 = .ok (.invokevirtual 111, 3) := by decide +kernel
theorem lX0_judge_65 : okL 701 (.methodLink mX0_judge.1.cls 111 mX0_keep.1) = true := by decide +kernel
theorem eX0_judge_68 : decode mX0_judge.2.1 68 = .ok (.return_, 1) := by decide +kernel
def bX0_watch_0 : List OP := [oi (.aload_n 0), (.getfield 27, 3, 0, 3, 2, 246), oi (.aload_n 0), (.getfield 46, 6, 0, 6, 0, 249), oi (.iconst 1), oi .isub, oi .iaload, oi (.istore_n 3), oi (.iload_n 3), oi (.istore 4), oi (.iconst 0), oi (.istore 5)]
theorem oX0_watch_0 : okB mX0_watch 0 bX0_watch_0 = true := by decide +kernel
def bX0_watch_18 : List OP := [oi (.iload 5), oi (.iload_n 2)]
theorem oX0_watch_18 : okB mX0_watch 18 bX0_watch_18 = true := by decide +kernel
theorem eX0_watch_21 : decode mX0_watch.2.1 21 = .ok (.if_icmp .ge 43, 3) := by decide +kernel
def bX0_watch_24 : List OP := [oi (.iload 4), oi (.bipush 60)]
theorem oX0_watch_24 : okB mX0_watch 24 bX0_watch_24 = true := by decide +kernel
theorem eX0_watch_28 : decode mX0_watch.2.1 28 = .ok (.if_icmp .ge 36, 3) := by decide +kernel
def bX0_watch_31 : List OP := [oi (.iload 4), oi (.aload_n 0), (.getfield 27, 3, 0, 3, 2, 246), oi (.iload 5), oi .iaload]
theorem oX0_watch_31 : okB mX0_watch 31 bX0_watch_31 = true := by decide +kernel
theorem eX0_watch_40 : decode mX0_watch.2.1 40 = .ok (.invokestatic 72, 3) := by decide +kernel
theorem lX0_watch_40 : okL 688 (.methodLink mX0_watch.1.cls 72 mJ9_max.1) = true := by decide +kernel
def bX0_watch_43 : List OP := [oi (.istore 4), oi (.aload_n 0), oi .dup, (.getfield 92, 7, 0, 7, 0, 250), oi (.iconst 1), oi .iadd, (.putfield 92, 7, 0, 7, 0, 250), oi (.iinc 4 1), oi (.iinc 5 1), (.goto (-43), 0, 0, 18, 0, 0)]
theorem oX0_watch_43 : okB mX0_watch 43 bX0_watch_43 = true := by decide +kernel
def bX0_watch_64 : List OP := [oi (.aload_n 0), oi (.aload_n 0), (.getfield 92, 7, 0, 7, 0, 250)]
theorem oX0_watch_64 : okB mX0_watch 64 bX0_watch_64 = true := by decide +kernel
theorem eX0_watch_69 : decode mX0_watch.2.1 69 = .ok (.ifCond .le 17, 3) := by decide +kernel
def bX0_watch_72 : List OP := [oi (.aload_n 0), (.getfield 33, 5, 0, 5, 2, 248), oi (.aload_n 0), (.getfield 92, 7, 0, 7, 0, 250), oi (.iconst 1), oi .isub, oi .iaload, (.goto 4, 0, 0, 87, 0, 0)]
theorem oX0_watch_72 : okB mX0_watch 72 bX0_watch_72 = true := by decide +kernel
def bX0_watch_86 : List OP := [oi (.iconst 0)]
theorem oX0_watch_86 : okB mX0_watch 86 bX0_watch_86 = true := by decide +kernel
def bX0_watch_87 : List OP := [(.putfield 98, 9, 0, 9, 0, 252), oi (.bipush 60), oi (.istore 5), oi (.aload_n 0), (.getfield 92, 7, 0, 7, 0, 250), oi (.aload_n 1), (.getfield 36, 2, 2, 2, 0, 155)]
theorem oX0_watch_87 : okB mX0_watch 87 bX0_watch_87 = true := by decide +kernel
theorem eX0_watch_102 : decode mX0_watch.2.1 102 = .ok (.if_icmp .ne 15, 3) := by decide +kernel
def bX0_watch_105 : List OP := [oi (.iload 4), oi (.istore 5), oi (.aload_n 0), oi (.iload 4), oi (.iconst 1), oi .isub, (.putfield 101, 10, 0, 10, 0, 253)]
theorem oX0_watch_105 : okB mX0_watch 105 bX0_watch_105 = true := by decide +kernel
def bX0_watch_117 : List OP := [oi (.aload_n 0), oi (.iload 5), oi (.iload_n 3), oi .isub, oi (.aload_n 0), (.getfield 92, 7, 0, 7, 0, 250), oi .isub, (.putfield 95, 8, 0, 8, 0, 251)]
theorem oX0_watch_117 : okB mX0_watch 117 bX0_watch_117 = true := by decide +kernel
theorem eX0_watch_130 : decode mX0_watch.2.1 130 = .ok (.return_, 1) := by decide +kernel
def bX0_isNoWorse_0 : List OP := [oi (.aload_n 0), (.getfield 92, 7, 0, 7, 0, 250), oi (.aload_n 0), (.getfield 12, 0, 0, 0, 2, 242), (.getfield 83, 1, 9, 1, 0, 210)]
theorem oX0_isNoWorse_0 : okB mX0_isNoWorse 0 bX0_isNoWorse_0 = true := by decide +kernel
theorem eX0_isNoWorse_11 : decode mX0_isNoWorse.2.1 11 = .ok (.if_icmp .eq 23, 3) := by decide +kernel
def bX0_isNoWorse_14 : List OP := [oi (.aload_n 0), (.getfield 92, 7, 0, 7, 0, 250), oi (.aload_n 0), (.getfield 12, 0, 0, 0, 2, 242), (.getfield 83, 1, 9, 1, 0, 210)]
theorem oX0_isNoWorse_14 : okB mX0_isNoWorse 14 bX0_isNoWorse_14 = true := by decide +kernel
theorem eX0_isNoWorse_25 : decode mX0_isNoWorse.2.1 25 = .ok (.if_icmp .le 7, 3) := by decide +kernel
def bX0_isNoWorse_28 : List OP := [oi (.iconst 1), (.goto 4, 0, 0, 33, 0, 0)]
theorem oX0_isNoWorse_28 : okB mX0_isNoWorse 28 bX0_isNoWorse_28 = true := by decide +kernel
def bX0_isNoWorse_32 : List OP := [oi (.iconst 0)]
theorem oX0_isNoWorse_32 : okB mX0_isNoWorse 32 bX0_isNoWorse_32 = true := by decide +kernel
theorem eX0_isNoWorse_33 : decode mX0_isNoWorse.2.1 33 = .ok (.ireturn, 1) := by decide +kernel
def bX0_isNoWorse_34 : List OP := [oi (.aload_n 0), (.getfield 95, 8, 0, 8, 0, 251), oi (.aload_n 0), (.getfield 12, 0, 0, 0, 2, 242), (.getfield 86, 2, 9, 2, 0, 212)]
theorem oX0_isNoWorse_34 : okB mX0_isNoWorse 34 bX0_isNoWorse_34 = true := by decide +kernel
theorem eX0_isNoWorse_45 : decode mX0_isNoWorse.2.1 45 = .ok (.if_icmp .eq 23, 3) := by decide +kernel
def bX0_isNoWorse_48 : List OP := [oi (.aload_n 0), (.getfield 95, 8, 0, 8, 0, 251), oi (.aload_n 0), (.getfield 12, 0, 0, 0, 2, 242), (.getfield 86, 2, 9, 2, 0, 212)]
theorem oX0_isNoWorse_48 : okB mX0_isNoWorse 48 bX0_isNoWorse_48 = true := by decide +kernel
theorem eX0_isNoWorse_59 : decode mX0_isNoWorse.2.1 59 = .ok (.if_icmp .ge 7, 3) := by decide +kernel
def bX0_isNoWorse_62 : List OP := [oi (.iconst 1), (.goto 4, 0, 0, 67, 0, 0)]
theorem oX0_isNoWorse_62 : okB mX0_isNoWorse 62 bX0_isNoWorse_62 = true := by decide +kernel
def bX0_isNoWorse_66 : List OP := [oi (.iconst 0)]
theorem oX0_isNoWorse_66 : okB mX0_isNoWorse 66 bX0_isNoWorse_66 = true := by decide +kernel
theorem eX0_isNoWorse_67 : decode mX0_isNoWorse.2.1 67 = .ok (.ireturn, 1) := by decide +kernel
def bX0_isNoWorse_68 : List OP := [oi (.aload_n 0), (.getfield 98, 9, 0, 9, 0, 252), oi (.aload_n 0), (.getfield 12, 0, 0, 0, 2, 242), (.getfield 89, 3, 9, 3, 0, 214)]
theorem oX0_isNoWorse_68 : okB mX0_isNoWorse 68 bX0_isNoWorse_68 = true := by decide +kernel
theorem eX0_isNoWorse_79 : decode mX0_isNoWorse.2.1 79 = .ok (.if_icmp .lt 7, 3) := by decide +kernel
def bX0_isNoWorse_82 : List OP := [oi (.iconst 1), (.goto 4, 0, 0, 87, 0, 0)]
theorem oX0_isNoWorse_82 : okB mX0_isNoWorse 82 bX0_isNoWorse_82 = true := by decide +kernel
def bX0_isNoWorse_86 : List OP := [oi (.iconst 0)]
theorem oX0_isNoWorse_86 : okB mX0_isNoWorse 86 bX0_isNoWorse_86 = true := by decide +kernel
theorem eX0_isNoWorse_87 : decode mX0_isNoWorse.2.1 87 = .ok (.ireturn, 1) := by decide +kernel
def bX0_keep_0 : List OP := [oi (.aload_n 0), (.getfield 12, 0, 0, 0, 2, 242), oi (.aload_n 0), (.getfield 92, 7, 0, 7, 0, 250), (.putfield 83, 1, 9, 1, 0, 210), oi (.aload_n 0), (.getfield 12, 0, 0, 0, 2, 242), oi (.aload_n 0), (.getfield 95, 8, 0, 8, 0, 251), (.putfield 86, 2, 9, 2, 0, 212), oi (.aload_n 0), (.getfield 12, 0, 0, 0, 2, 242), oi (.aload_n 0), (.getfield 98, 9, 0, 9, 0, 252), (.putfield 89, 3, 9, 3, 0, 214), oi (.aload_n 0), (.getfield 12, 0, 0, 0, 2, 242), oi (.aload_n 0), (.getfield 101, 10, 0, 10, 0, 253), (.putfield 115, 4, 9, 4, 0, 216), oi (.iconst 0), oi (.istore_n 2)]
theorem oX0_keep_0 : okB mX0_keep 0 bX0_keep_0 = true := by decide +kernel
def bX0_keep_46 : List OP := [oi (.iload_n 2), oi (.bipush 8)]
theorem oX0_keep_46 : okB mX0_keep 46 bX0_keep_46 = true := by decide +kernel
theorem eX0_keep_49 : decode mX0_keep.2.1 49 = .ok (.if_icmp .ge 34, 3) := by decide +kernel
def bX0_keep_52 : List OP := [oi (.aload_n 0), (.getfield 12, 0, 0, 0, 2, 242), (.getfield 118, 0, 9, 0, 2, 208), oi (.iload_n 2), oi (.iload_n 2), oi (.iload_n 1)]
theorem oX0_keep_52 : okB mX0_keep 52 bX0_keep_52 = true := by decide +kernel
theorem eX0_keep_62 : decode mX0_keep.2.1 62 = .ok (.if_icmp .ge 12, 3) := by decide +kernel
def bX0_keep_65 : List OP := [oi (.aload_n 0), (.getfield 24, 2, 0, 2, 2, 245), oi (.iload_n 2), oi .iaload, (.goto 5, 0, 0, 76, 0, 0)]
theorem oX0_keep_65 : okB mX0_keep 65 bX0_keep_65 = true := by decide +kernel
def bX0_keep_74 : List OP := [oi (.bipush (-6))]
theorem oX0_keep_74 : okB mX0_keep 74 bX0_keep_74 = true := by decide +kernel
def bX0_keep_76 : List OP := [oi .iastore, oi (.iinc 2 1), (.goto (-34), 0, 0, 46, 0, 0)]
theorem oX0_keep_76 : okB mX0_keep 76 bX0_keep_76 = true := by decide +kernel
theorem eX0_keep_83 : decode mX0_keep.2.1 83 = .ok (.return_, 1) := by decide +kernel
def bX1_cut_0 : List OP := [oi (.aload_n 1), (.getfield 24, 2, 3, 2, 2, 111), oi (.iload_n 2), oi .baload, oi (.istore 4), oi (.iconst 0), oi (.istore 5)]
theorem oX1_cut_0 : okB mX1_cut 0 bX1_cut_0 = true := by decide +kernel
def bX1_cut_11 : List OP := [oi (.iload 5), oi (.iconst 4)]
theorem oX1_cut_11 : okB mX1_cut 11 bX1_cut_11 = true := by decide +kernel
theorem eX1_cut_14 : decode mX1_cut.2.1 14 = .ok (.if_icmp .ge 65, 3) := by decide +kernel
def bX1_cut_17 : List OP := [oi (.iload 4)]
theorem oX1_cut_17 : okB mX1_cut 17 bX1_cut_17 = true := by decide +kernel
theorem eX1_cut_19 : decode mX1_cut.2.1 19 = .ok (.ifCond .eq 8, 3) := by decide +kernel
def bX1_cut_22 : List OP := [oi (.bipush 9), (.goto 4, 0, 0, 28, 0, 0)]
theorem oX1_cut_22 : okB mX1_cut 22 bX1_cut_22 = true := by decide +kernel
def bX1_cut_27 : List OP := [oi (.iconst 0)]
theorem oX1_cut_27 : okB mX1_cut 27 bX1_cut_27 = true := by decide +kernel
def bX1_cut_28 : List OP := [oi (.istore 6)]
theorem oX1_cut_28 : okB mX1_cut 28 bX1_cut_28 = true := by decide +kernel
def bX1_cut_30 : List OP := [oi (.iload 6), oi (.bipush 11)]
theorem oX1_cut_30 : okB mX1_cut 30 bX1_cut_30 = true := by decide +kernel
theorem eX1_cut_34 : decode mX1_cut.2.1 34 = .ok (.if_icmp .ge 31, 3) := by decide +kernel
def bX1_cut_37 : List OP := [oi (.aload_n 0), (.getfield 11, 0, 1, 0, 2, 78), oi (.iload 5), oi (.bipush 11), oi .imul, oi (.iload 6), oi .iadd, oi (.aload_n 1), oi (.iload_n 2), oi (.iload 5), oi (.iload 6)]
theorem oX1_cut_37 : okB mX1_cut 37 bX1_cut_37 = true := by decide +kernel
theorem eX1_cut_55 : decode mX1_cut.2.1 55 = .ok (.invokestatic 28, 3) := by decide +kernel
theorem lX1_cut_55 : okL 472 (.methodLink mX1_cut.1.cls 28 mX1_lossBy.1) = true := by decide +kernel
def bX1_cut_58 : List OP := [oi .iastore, oi (.iinc 6 1), (.goto (-32), 0, 0, 30, 0, 0)]
theorem oX1_cut_58 : okB mX1_cut 58 bX1_cut_58 = true := by decide +kernel
def bX1_cut_65 : List OP := [oi (.aload_n 0), oi (.iload 5), oi (.iload 4)]
theorem oX1_cut_65 : okB mX1_cut 65 bX1_cut_65 = true := by decide +kernel
theorem eX1_cut_70 : decode mX1_cut.2.1 70 = .ok (.invokevirtual 32, 3) := by decide +kernel
theorem lX1_cut_70 : okL 488 (.methodLink mX1_cut.1.cls 32 mX1_gather.1) = true := by decide +kernel
def bX1_cut_73 : List OP := [oi (.iinc 5 1), (.goto (-65), 0, 0, 11, 0, 0)]
theorem oX1_cut_73 : okB mX1_cut 73 bX1_cut_73 = true := by decide +kernel
def bX1_cut_79 : List OP := [oi (.aload_n 0), oi (.iload 4)]
theorem oX1_cut_79 : okB mX1_cut 79 bX1_cut_79 = true := by decide +kernel
theorem eX1_cut_82 : decode mX1_cut.2.1 82 = .ok (.ifCond .eq 7, 3) := by decide +kernel
def bX1_cut_85 : List OP := [oi (.iconst 2), (.goto 4, 0, 0, 90, 0, 0)]
theorem oX1_cut_85 : okB mX1_cut 85 bX1_cut_85 = true := by decide +kernel
def bX1_cut_89 : List OP := [oi (.iconst 4)]
theorem oX1_cut_89 : okB mX1_cut 89 bX1_cut_89 = true := by decide +kernel
def bX1_cut_90 : List OP := [(.putfield 36, 4, 1, 4, 0, 82), oi (.aload_n 0), oi (.iload_n 3), oi (.iconst 4), oi (.iload 4)]
theorem oX1_cut_90 : okB mX1_cut 90 bX1_cut_90 = true := by decide +kernel
theorem eX1_cut_98 : decode mX1_cut.2.1 98 = .ok (.ifCond .eq 12, 3) := by decide +kernel
def bX1_cut_101 : List OP := [(.getstatic 40, 0, 2, 0, 0, 500), oi (.bipush 9), oi .iaload, (.goto 8, 0, 0, 115, 0, 0)]
theorem oX1_cut_101 : okB mX1_cut 101 bX1_cut_101 = true := by decide +kernel
def bX1_cut_110 : List OP := [(.getstatic 40, 0, 2, 0, 0, 500), oi (.iconst 4), oi .iaload]
theorem oX1_cut_110 : okB mX1_cut 110 bX1_cut_110 = true := by decide +kernel
def bX1_cut_115 : List OP := [oi .imul]
theorem oX1_cut_115 : okB mX1_cut 115 bX1_cut_115 = true := by decide +kernel
theorem eX1_cut_116 : decode mX1_cut.2.1 116 = .ok (.invokestatic 43, 3) := by decide +kernel
theorem lX1_cut_116 : okL 497 (.methodLink mX1_cut.1.cls 43 mJ9_max.1) = true := by decide +kernel
def bX1_cut_119 : List OP := [(.putfield 49, 5, 1, 5, 0, 83), oi (.aload_n 0), (.ldc 52, 1000000, 0, 0, 0, 502), (.putfield 53, 6, 1, 6, 0, 84), oi (.aload_n 0), (.ldc 52, 1000000, 0, 0, 0, 502), (.putfield 56, 7, 1, 7, 0, 85), oi (.aload_n 0), oi (.iconst 0), oi (.iconst 0), oi (.iconst 0)]
theorem oX1_cut_119 : okB mX1_cut 119 bX1_cut_119 = true := by decide +kernel
theorem eX1_cut_138 : decode mX1_cut.2.1 138 = .ok (.invokevirtual 59, 3) := by decide +kernel
theorem lX1_cut_138 : okL 503 (.methodLink mX1_cut.1.cls 59 mX1_tryBlock.1) = true := by decide +kernel
def bX1_cut_141 : List OP := [oi (.aload_n 0), oi (.aload_n 1), oi (.iload_n 2)]
theorem oX1_cut_141 : okB mX1_cut 141 bX1_cut_141 = true := by decide +kernel
theorem eX1_cut_144 : decode mX1_cut.2.1 144 = .ok (.invokevirtual 63, 3) := by decide +kernel
theorem lX1_cut_144 : okL 518 (.methodLink mX1_cut.1.cls 63 mX1_open.1) = true := by decide +kernel
theorem eX1_cut_147 : decode mX1_cut.2.1 147 = .ok (.return_, 1) := by decide +kernel
def bX1_gather_0 : List OP := [oi (.iload_n 1), oi (.iconst 4), oi .imul, oi (.istore_n 3), oi (.iload_n 2)]
theorem oX1_gather_0 : okB mX1_gather 0 bX1_gather_0 = true := by decide +kernel
theorem eX1_gather_5 : decode mX1_gather.2.1 5 = .ok (.ifCond .ne 39, 3) := by decide +kernel
def bX1_gather_8 : List OP := [oi (.aload_n 0), oi (.iload_n 1)]
theorem oX1_gather_8 : okB mX1_gather 8 bX1_gather_8 = true := by decide +kernel
theorem eX1_gather_10 : decode mX1_gather.2.1 10 = .ok (.invokevirtual 67, 3) := by decide +kernel
theorem lX1_gather_10 : okL 492 (.methodLink mX1_gather.1.cls 67 mX1_bestMoved.1) = true := by decide +kernel
def bX1_gather_13 : List OP := [oi (.istore 4), oi (.aload_n 0), (.getfield 15, 1, 1, 1, 2, 79), oi (.iload_n 3), oi (.iload 4), oi (.iconst 4)]
theorem oX1_gather_13 : okB mX1_gather 13 bX1_gather_13 = true := by decide +kernel
theorem eX1_gather_23 : decode mX1_gather.2.1 23 = .ok (.invokestatic 71, 3) := by decide +kernel
theorem lX1_gather_23 : okL 496 (.methodLink mX1_gather.1.cls 71 mJ9_min.1) = true := by decide +kernel
def bX1_gather_26 : List OP := [oi .iastore, oi (.aload_n 0), (.getfield 15, 1, 1, 1, 2, 79), oi (.iload_n 3), oi (.iconst 1), oi .iadd, oi (.iload 4), oi (.iconst 4)]
theorem oX1_gather_26 : okB mX1_gather 26 bX1_gather_26 = true := by decide +kernel
theorem eX1_gather_37 : decode mX1_gather.2.1 37 = .ok (.invokestatic 43, 3) := by decide +kernel
theorem lX1_gather_37 : okL 497 (.methodLink mX1_gather.1.cls 43 mJ9_max.1) = true := by decide +kernel
def bX1_gather_40 : List OP := [oi .iastore, oi (.iinc 3 2)]
theorem oX1_gather_40 : okB mX1_gather 40 bX1_gather_40 = true := by decide +kernel
def bX1_gather_44 : List OP := [oi (.aload_n 0), (.getfield 15, 1, 1, 1, 2, 79), oi (.iload_n 3), oi (.bipush 9), oi .iastore, oi (.aload_n 0), (.getfield 15, 1, 1, 1, 2, 79), oi (.iload_n 3), oi (.iconst 1), oi .iadd, oi (.bipush 10), oi .iastore]
theorem oX1_gather_44 : okB mX1_gather 44 bX1_gather_44 = true := by decide +kernel
theorem eX1_gather_62 : decode mX1_gather.2.1 62 = .ok (.return_, 1) := by decide +kernel
def bX1_bestMoved_0 : List OP := [oi (.iconst 0), oi (.istore_n 2), oi (.iconst 1), oi (.istore_n 3)]
theorem oX1_bestMoved_0 : okB mX1_bestMoved 0 bX1_bestMoved_0 = true := by decide +kernel
def bX1_bestMoved_4 : List OP := [oi (.iload_n 3), oi (.bipush 9)]
theorem oX1_bestMoved_4 : okB mX1_bestMoved 4 bX1_bestMoved_4 = true := by decide +kernel
theorem eX1_bestMoved_7 : decode mX1_bestMoved.2.1 7 = .ok (.if_icmp .ge 41, 3) := by decide +kernel
def bX1_bestMoved_10 : List OP := [oi (.iload_n 3), oi (.iconst 4)]
theorem oX1_bestMoved_10 : okB mX1_bestMoved 10 bX1_bestMoved_10 = true := by decide +kernel
theorem eX1_bestMoved_12 : decode mX1_bestMoved.2.1 12 = .ok (.if_icmp .eq 30, 3) := by decide +kernel
def bX1_bestMoved_15 : List OP := [oi (.aload_n 0), (.getfield 11, 0, 1, 0, 2, 78), oi (.iload_n 1), oi (.bipush 11), oi .imul, oi (.iload_n 3), oi .iadd, oi .iaload, oi (.aload_n 0), (.getfield 11, 0, 1, 0, 2, 78), oi (.iload_n 1), oi (.bipush 11), oi .imul, oi (.iload_n 2), oi .iadd, oi .iaload]
theorem oX1_bestMoved_15 : okB mX1_bestMoved 15 bX1_bestMoved_15 = true := by decide +kernel
theorem eX1_bestMoved_37 : decode mX1_bestMoved.2.1 37 = .ok (.if_icmp .ge 5, 3) := by decide +kernel
def bX1_bestMoved_40 : List OP := [oi (.iload_n 3), oi (.istore_n 2)]
theorem oX1_bestMoved_40 : okB mX1_bestMoved 40 bX1_bestMoved_40 = true := by decide +kernel
def bX1_bestMoved_42 : List OP := [oi (.iinc 3 1), (.goto (-41), 0, 0, 4, 0, 0)]
theorem oX1_bestMoved_42 : okB mX1_bestMoved 42 bX1_bestMoved_42 = true := by decide +kernel
def bX1_bestMoved_48 : List OP := [oi (.iload_n 2)]
theorem oX1_bestMoved_48 : okB mX1_bestMoved 48 bX1_bestMoved_48 = true := by decide +kernel
theorem eX1_bestMoved_49 : decode mX1_bestMoved.2.1 49 = .ok (.ireturn, 1) := by decide +kernel
def bX1_lossBy_0 : List OP := [oi (.iconst 0), oi (.istore 4), oi (.iconst 0), oi (.istore 5)]
theorem oX1_lossBy_0 : okB mX1_lossBy 0 bX1_lossBy_0 = true := by decide +kernel
def bX1_lossBy_6 : List OP := [oi (.iload 5), oi (.iconst 4)]
theorem oX1_lossBy_6 : okB mX1_lossBy 6 bX1_lossBy_6 = true := by decide +kernel
theorem eX1_lossBy_9 : decode mX1_lossBy.2.1 9 = .ok (.if_icmp .ge 57, 3) := by decide +kernel
def bX1_lossBy_12 : List OP := [(.getstatic 74, 0, 3, 0, 0, 475), oi (.iload_n 2), oi .iaload, (.getstatic 77, 0, 4, 0, 0, 477), oi (.iload 5), oi .iaload, oi .iadd, oi (.istore 6), oi (.aload_n 0), oi (.iload_n 1), oi (.iload_n 2), oi (.iload 6), oi (.iload_n 3)]
theorem oX1_lossBy_12 : okB mX1_lossBy 12 bX1_lossBy_12 = true := by decide +kernel
theorem eX1_lossBy_32 : decode mX1_lossBy.2.1 32 = .ok (.invokestatic 80, 3) := by decide +kernel
theorem lX1_lossBy_32 : okL 479 (.methodLink mX1_lossBy.1.cls 80 mX1_dotBy.1) = true := by decide +kernel
def bX1_lossBy_35 : List OP := [oi (.aload_n 0), (.getfield 84, 0, 3, 0, 2, 106), oi (.iload_n 1), oi (.bipush 16), oi .imul, oi (.iload 6), oi .iadd, oi .iaload, oi .isub, oi (.istore 7), oi (.iload 4), oi (.iload 7), oi (.iload 7), oi .imul, oi .iadd, oi (.istore 4), oi (.iinc 5 1), (.goto (-57), 0, 0, 6, 0, 0)]
theorem oX1_lossBy_35 : okB mX1_lossBy 35 bX1_lossBy_35 = true := by decide +kernel
def bX1_lossBy_66 : List OP := [oi (.iload 4)]
theorem oX1_lossBy_66 : okB mX1_lossBy 66 bX1_lossBy_66 = true := by decide +kernel
theorem eX1_lossBy_68 : decode mX1_lossBy.2.1 68 = .ok (.ireturn, 1) := by decide +kernel
def bX1_dotBy_0 : List OP := [oi (.iload 4), oi (.bipush 9)]
theorem oX1_dotBy_0 : okB mX1_dotBy 0 bX1_dotBy_0 = true := by decide +kernel
theorem eX1_dotBy_4 : decode mX1_dotBy.2.1 4 = .ok (.if_icmp .ne 10, 3) := by decide +kernel
def bX1_dotBy_7 : List OP := [oi (.aload_n 0), oi (.iload_n 1), oi (.iload_n 2)]
theorem oX1_dotBy_7 : okB mX1_dotBy 7 bX1_dotBy_7 = true := by decide +kernel
theorem eX1_dotBy_10 : decode mX1_dotBy.2.1 10 = .ok (.invokestatic 87, 3) := by decide +kernel
theorem lX1_dotBy_10 : okL 482 (.methodLink mX1_dotBy.1.cls 87 mX1_mean.1) = true := by decide +kernel
theorem eX1_dotBy_13 : decode mX1_dotBy.2.1 13 = .ok (.ireturn, 1) := by decide +kernel
def bX1_dotBy_14 : List OP := [oi (.iload 4), oi (.bipush 10)]
theorem oX1_dotBy_14 : okB mX1_dotBy 14 bX1_dotBy_14 = true := by decide +kernel
theorem eX1_dotBy_18 : decode mX1_dotBy.2.1 18 = .ok (.if_icmp .eq 7, 3) := by decide +kernel
def bX1_dotBy_21 : List OP := [oi (.iload_n 1)]
theorem oX1_dotBy_21 : okB mX1_dotBy 21 bX1_dotBy_21 = true := by decide +kernel
theorem eX1_dotBy_22 : decode mX1_dotBy.2.1 22 = .ok (.ifCond .ne 15, 3) := by decide +kernel
def bX1_dotBy_25 : List OP := [oi (.aload_n 0), (.getfield 84, 0, 3, 0, 2, 106), oi (.iload_n 1), oi (.bipush 16), oi .imul, oi (.iload_n 3), oi .iadd, oi .iaload]
theorem oX1_dotBy_25 : okB mX1_dotBy 25 bX1_dotBy_25 = true := by decide +kernel
theorem eX1_dotBy_36 : decode mX1_dotBy.2.1 36 = .ok (.ireturn, 1) := by decide +kernel
def bX1_dotBy_37 : List OP := [oi (.iload_n 3), oi (.iconst 4), oi .idiv, oi (.iload 4), oi (.iconst 3), oi .idiv, oi .iadd, oi (.iconst 1), oi .isub]
theorem oX1_dotBy_37 : okB mX1_dotBy 37 bX1_dotBy_37 = true := by decide +kernel
theorem eX1_dotBy_47 : decode mX1_dotBy.2.1 47 = .ok (.invokestatic 91, 3) := by decide +kernel
theorem lX1_dotBy_47 : okL 485 (.methodLink mX1_dotBy.1.cls 91 mX1_withinRim.1) = true := by decide +kernel
def bX1_dotBy_50 : List OP := [oi (.istore 5), oi (.iload_n 3), oi (.iconst 4), oi .irem, oi (.iload 4), oi (.iconst 3), oi .irem, oi .iadd, oi (.iconst 1), oi .isub]
theorem oX1_dotBy_50 : okB mX1_dotBy 50 bX1_dotBy_50 = true := by decide +kernel
theorem eX1_dotBy_62 : decode mX1_dotBy.2.1 62 = .ok (.invokestatic 91, 3) := by decide +kernel
theorem lX1_dotBy_62 : okL 485 (.methodLink mX1_dotBy.1.cls 91 mX1_withinRim.1) = true := by decide +kernel
def bX1_dotBy_65 : List OP := [oi (.istore 6), oi (.aload_n 0), (.getfield 94, 1, 3, 1, 2, 108), oi (.iload_n 1), oi (.iconst 1), oi .isub, oi (.bipush 16), oi .imul, oi (.iload 5), oi (.iconst 4), oi .imul, oi .iadd, oi (.iload 6), oi .iadd, oi .iaload]
theorem oX1_dotBy_65 : okB mX1_dotBy 65 bX1_dotBy_65 = true := by decide +kernel
theorem eX1_dotBy_86 : decode mX1_dotBy.2.1 86 = .ok (.ireturn, 1) := by decide +kernel
def bX1_mean_0 : List OP := [oi (.iload_n 1), oi (.bipush 16), oi .imul, (.getstatic 74, 0, 3, 0, 0, 475), oi (.iload_n 2), oi .iaload, oi .iadd, oi (.istore_n 3), oi (.iconst 0), oi (.istore 4), oi (.iconst 0), oi (.istore 5)]
theorem oX1_mean_0 : okB mX1_mean 0 bX1_mean_0 = true := by decide +kernel
def bX1_mean_17 : List OP := [oi (.iload 5), oi (.iconst 4)]
theorem oX1_mean_17 : okB mX1_mean 17 bX1_mean_17 = true := by decide +kernel
theorem eX1_mean_20 : decode mX1_mean.2.1 20 = .ok (.if_icmp .ge 27, 3) := by decide +kernel
def bX1_mean_23 : List OP := [oi (.iload 4), oi (.aload_n 0), (.getfield 84, 0, 3, 0, 2, 106), oi (.iload_n 3), (.getstatic 77, 0, 4, 0, 0, 477), oi (.iload 5), oi .iaload, oi .iadd, oi .iaload, oi .iadd, oi (.istore 4), oi (.iinc 5 1), (.goto (-27), 0, 0, 17, 0, 0)]
theorem oX1_mean_23 : okB mX1_mean 23 bX1_mean_23 = true := by decide +kernel
def bX1_mean_47 : List OP := [oi (.iload 4), oi (.iconst 4), oi .idiv]
theorem oX1_mean_47 : okB mX1_mean 47 bX1_mean_47 = true := by decide +kernel
theorem eX1_mean_51 : decode mX1_mean.2.1 51 = .ok (.ireturn, 1) := by decide +kernel
def bX1_withinRim_0 : List OP := [oi (.iload_n 0)]
theorem oX1_withinRim_0 : okB mX1_withinRim 0 bX1_withinRim_0 = true := by decide +kernel
theorem eX1_withinRim_1 : decode mX1_withinRim.2.1 1 = .ok (.ifCond .ge 7, 3) := by decide +kernel
def bX1_withinRim_4 : List OP := [oi (.iconst 0), (.goto 13, 0, 0, 18, 0, 0)]
theorem oX1_withinRim_4 : okB mX1_withinRim 4 bX1_withinRim_4 = true := by decide +kernel
def bX1_withinRim_8 : List OP := [oi (.iload_n 0), oi (.iconst 3)]
theorem oX1_withinRim_8 : okB mX1_withinRim 8 bX1_withinRim_8 = true := by decide +kernel
theorem eX1_withinRim_10 : decode mX1_withinRim.2.1 10 = .ok (.if_icmp .le 7, 3) := by decide +kernel
def bX1_withinRim_13 : List OP := [oi (.iconst 3), (.goto 4, 0, 0, 18, 0, 0)]
theorem oX1_withinRim_13 : okB mX1_withinRim 13 bX1_withinRim_13 = true := by decide +kernel
def bX1_withinRim_17 : List OP := [oi (.iload_n 0)]
theorem oX1_withinRim_17 : okB mX1_withinRim 17 bX1_withinRim_17 = true := by decide +kernel
theorem eX1_withinRim_18 : decode mX1_withinRim.2.1 18 = .ok (.ireturn, 1) := by decide +kernel
def bX1_tryBlock_0 : List OP := [oi (.iload_n 2), oi (.aload_n 0), (.getfield 49, 5, 1, 5, 0, 83)]
theorem oX1_tryBlock_0 : okB mX1_tryBlock 0 bX1_tryBlock_0 = true := by decide +kernel
theorem eX1_tryBlock_5 : decode mX1_tryBlock.2.1 5 = .ok (.if_icmp .gt 11, 3) := by decide +kernel
def bX1_tryBlock_8 : List OP := [oi (.iload_n 3), oi (.aload_n 0), (.getfield 53, 6, 1, 6, 0, 84)]
theorem oX1_tryBlock_8 : okB mX1_tryBlock 8 bX1_tryBlock_8 = true := by decide +kernel
theorem eX1_tryBlock_13 : decode mX1_tryBlock.2.1 13 = .ok (.if_icmp .le 4, 3) := by decide +kernel
theorem eX1_tryBlock_16 : decode mX1_tryBlock.2.1 16 = .ok (.return_, 1) := by decide +kernel
def bX1_tryBlock_17 : List OP := [oi (.iload_n 1), oi (.iconst 4)]
theorem oX1_tryBlock_17 : okB mX1_tryBlock 17 bX1_tryBlock_17 = true := by decide +kernel
theorem eX1_tryBlock_19 : decode mX1_tryBlock.2.1 19 = .ok (.if_icmp .lt 10, 3) := by decide +kernel
def bX1_tryBlock_22 : List OP := [oi (.aload_n 0), oi (.iload_n 2), oi (.iload_n 3)]
theorem oX1_tryBlock_22 : okB mX1_tryBlock 22 bX1_tryBlock_22 = true := by decide +kernel
theorem eX1_tryBlock_25 : decode mX1_tryBlock.2.1 25 = .ok (.invokevirtual 97, 3) := by decide +kernel
theorem lX1_tryBlock_25 : okL 507 (.methodLink mX1_tryBlock.1.cls 97 mX1_weigh.1) = true := by decide +kernel
theorem eX1_tryBlock_28 : decode mX1_tryBlock.2.1 28 = .ok (.return_, 1) := by decide +kernel
def bX1_tryBlock_29 : List OP := [oi (.iconst 0), oi (.istore 4)]
theorem oX1_tryBlock_29 : okB mX1_tryBlock 29 bX1_tryBlock_29 = true := by decide +kernel
def bX1_tryBlock_32 : List OP := [oi (.iload 4), oi (.aload_n 0), (.getfield 36, 4, 1, 4, 0, 82)]
theorem oX1_tryBlock_32 : okB mX1_tryBlock 32 bX1_tryBlock_32 = true := by decide +kernel
theorem eX1_tryBlock_38 : decode mX1_tryBlock.2.1 38 = .ok (.if_icmp .ge 27, 3) := by decide +kernel
def bX1_tryBlock_41 : List OP := [oi (.aload_n 0), oi (.iload_n 1), oi (.aload_n 0), (.getfield 15, 1, 1, 1, 2, 79), oi (.iload_n 1), oi (.iconst 4), oi .imul, oi (.iload 4), oi .iadd, oi .iaload, oi (.iload_n 2), oi (.iload_n 3)]
theorem oX1_tryBlock_41 : okB mX1_tryBlock 41 bX1_tryBlock_41 = true := by decide +kernel
theorem eX1_tryBlock_56 : decode mX1_tryBlock.2.1 56 = .ok (.invokevirtual 101, 3) := by decide +kernel
theorem lX1_tryBlock_56 : okL 514 (.methodLink mX1_tryBlock.1.cls 101 mX1_tryWay.1) = true := by decide +kernel
def bX1_tryBlock_59 : List OP := [oi (.iinc 4 1), (.goto (-30), 0, 0, 32, 0, 0)]
theorem oX1_tryBlock_59 : okB mX1_tryBlock 59 bX1_tryBlock_59 = true := by decide +kernel
theorem eX1_tryBlock_65 : decode mX1_tryBlock.2.1 65 = .ok (.return_, 1) := by decide +kernel
def bX1_tryWay_0 : List OP := [oi (.aload_n 0), (.getfield 18, 2, 1, 2, 2, 80), oi (.iload_n 1), oi (.iload_n 2), oi .iastore, oi (.aload_n 0), oi (.iload_n 1), oi (.iconst 1), oi .iadd, oi (.iload_n 3), (.getstatic 40, 0, 2, 0, 0, 500), oi (.iload_n 2), oi .iaload, oi .iadd, oi (.iload 4), oi (.aload_n 0), (.getfield 11, 0, 1, 0, 2, 78), oi (.iload_n 1), oi (.bipush 11), oi .imul, oi (.iload_n 2), oi .iadd, oi .iaload, oi .iadd]
theorem oX1_tryWay_0 : okB mX1_tryWay 0 bX1_tryWay_0 = true := by decide +kernel
theorem eX1_tryWay_32 : decode mX1_tryWay.2.1 32 = .ok (.invokevirtual 59, 3) := by decide +kernel
theorem lX1_tryWay_32 : okL 503 (.methodLink mX1_tryWay.1.cls 59 mX1_tryBlock.1) = true := by decide +kernel
theorem eX1_tryWay_35 : decode mX1_tryWay.2.1 35 = .ok (.return_, 1) := by decide +kernel
def bX1_weigh_0 : List OP := [oi (.iload_n 2), oi (.aload_n 0), (.getfield 53, 6, 1, 6, 0, 84)]
theorem oX1_weigh_0 : okB mX1_weigh 0 bX1_weigh_0 = true := by decide +kernel
theorem eX1_weigh_5 : decode mX1_weigh.2.1 5 = .ok (.if_icmp .lt 19, 3) := by decide +kernel
def bX1_weigh_8 : List OP := [oi (.iload_n 2), oi (.aload_n 0), (.getfield 53, 6, 1, 6, 0, 84)]
theorem oX1_weigh_8 : okB mX1_weigh 8 bX1_weigh_8 = true := by decide +kernel
theorem eX1_weigh_13 : decode mX1_weigh.2.1 13 = .ok (.if_icmp .ne 35, 3) := by decide +kernel
def bX1_weigh_16 : List OP := [oi (.iload_n 1), oi (.aload_n 0), (.getfield 56, 7, 1, 7, 0, 85)]
theorem oX1_weigh_16 : okB mX1_weigh 16 bX1_weigh_16 = true := by decide +kernel
theorem eX1_weigh_21 : decode mX1_weigh.2.1 21 = .ok (.if_icmp .ge 27, 3) := by decide +kernel
def bX1_weigh_24 : List OP := [oi (.aload_n 0), oi (.iload_n 2), (.putfield 53, 6, 1, 6, 0, 84), oi (.aload_n 0), oi (.iload_n 1), (.putfield 56, 7, 1, 7, 0, 85), oi (.aload_n 0), (.getfield 18, 2, 1, 2, 2, 80), oi (.iconst 0), oi (.aload_n 0), (.getfield 21, 3, 1, 3, 2, 81), oi (.iconst 0), oi (.iconst 4)]
theorem oX1_weigh_24 : okB mX1_weigh 24 bX1_weigh_24 = true := by decide +kernel
theorem eX1_weigh_45 : decode mX1_weigh.2.1 45 = .ok (.invokestatic 105, 3) := by decide +kernel
theorem eX1_weigh_48 : decode mX1_weigh.2.1 48 = .ok (.return_, 1) := by decide +kernel
def bX1_open_0 : List OP := [oi (.aload_n 1), (.getfield 111, 4, 3, 4, 2, 117), oi (.iload_n 2), oi (.aload_n 0), (.getfield 56, 7, 1, 7, 0, 85), oi .iastore, oi (.aload_n 1), (.getfield 114, 5, 3, 5, 2, 120), oi (.iload_n 2), oi (.aload_n 0), (.getfield 53, 6, 1, 6, 0, 84), oi .iastore, oi (.iconst 0), oi (.istore_n 3)]
theorem oX1_open_0 : okB mX1_open 0 bX1_open_0 = true := by decide +kernel
def bX1_open_22 : List OP := [oi (.iload_n 3), oi (.iconst 4)]
theorem oX1_open_22 : okB mX1_open 22 bX1_open_22 = true := by decide +kernel
theorem eX1_open_24 : decode mX1_open.2.1 24 = .ok (.if_icmp .ge 80, 3) := by decide +kernel
def bX1_open_27 : List OP := [oi (.aload_n 1), (.getfield 117, 3, 3, 3, 2, 114), oi (.iload_n 2), oi (.iconst 4), oi .imul, oi (.iload_n 3), oi .iadd, oi (.aload_n 0), (.getfield 21, 3, 1, 3, 2, 81), oi (.iload_n 3), oi .iaload, oi .iastore, oi (.iconst 0), oi (.istore 4)]
theorem oX1_open_27 : okB mX1_open 27 bX1_open_27 = true := by decide +kernel
def bX1_open_46 : List OP := [oi (.iload 4), oi (.iconst 4)]
theorem oX1_open_46 : okB mX1_open 46 bX1_open_46 = true := by decide +kernel
theorem eX1_open_49 : decode mX1_open.2.1 49 = .ok (.if_icmp .ge 49, 3) := by decide +kernel
def bX1_open_52 : List OP := [(.getstatic 74, 0, 3, 0, 0, 475), oi (.iload_n 3), oi .iaload, (.getstatic 77, 0, 4, 0, 0, 477), oi (.iload 4), oi .iaload, oi .iadd, oi (.istore 5), oi (.aload_n 1), (.getfield 94, 1, 3, 1, 2, 108), oi (.iload_n 2), oi (.bipush 16), oi .imul, oi (.iload 5), oi .iadd, oi (.aload_n 1), oi (.iload_n 2), oi (.iload_n 3), oi (.iload 5), oi (.aload_n 0), (.getfield 21, 3, 1, 3, 2, 81), oi (.iload_n 3), oi .iaload]
theorem oX1_open_52 : okB mX1_open 52 bX1_open_52 = true := by decide +kernel
theorem eX1_open_88 : decode mX1_open.2.1 88 = .ok (.invokestatic 80, 3) := by decide +kernel
theorem lX1_open_88 : okL 479 (.methodLink mX1_open.1.cls 80 mX1_dotBy.1) = true := by decide +kernel
def bX1_open_91 : List OP := [oi .iastore, oi (.iinc 4 1), (.goto (-49), 0, 0, 46, 0, 0)]
theorem oX1_open_91 : okB mX1_open 91 bX1_open_91 = true := by decide +kernel
def bX1_open_98 : List OP := [oi (.iinc 3 1), (.goto (-79), 0, 0, 22, 0, 0)]
theorem oX1_open_98 : okB mX1_open 98 bX1_open_98 = true := by decide +kernel
theorem eX1_open_104 : decode mX1_open.2.1 104 = .ok (.return_, 1) := by decide +kernel
def bX3_has_0 : List OP := [oi (.iload_n 1)]
theorem oX3_has_0 : okB mX3_has 0 bX3_has_0 = true := by decide +kernel
theorem eX3_has_1 : decode mX3_has.2.1 1 = .ok (.ifCond .lt 15, 3) := by decide +kernel
def bX3_has_4 : List OP := [oi (.iload_n 1), oi (.aload_n 0), (.getfield 36, 7, 3, 7, 0, 123)]
theorem oX3_has_4 : okB mX3_has 4 bX3_has_4 = true := by decide +kernel
theorem eX3_has_9 : decode mX3_has.2.1 9 = .ok (.if_icmp .ge 7, 3) := by decide +kernel
def bX3_has_12 : List OP := [oi (.iconst 1), (.goto 4, 0, 0, 17, 0, 0)]
theorem oX3_has_12 : okB mX3_has 12 bX3_has_12 = true := by decide +kernel
def bX3_has_16 : List OP := [oi (.iconst 0)]
theorem oX3_has_16 : okB mX3_has 16 bX3_has_16 = true := by decide +kernel
theorem eX3_has_17 : decode mX3_has.2.1 17 = .ok (.ireturn, 1) := by decide +kernel
def bX3_add_0 : List OP := [oi (.aload_n 0), (.getfield 36, 7, 3, 7, 0, 123), oi (.istore_n 1), oi (.aload_n 0), (.getfield 16, 2, 3, 2, 2, 110), oi (.iload_n 1), oi (.iload_n 1)]
theorem oX3_add_0 : okB mX3_add 0 bX3_add_0 = true := by decide +kernel
theorem eX3_add_11 : decode mX3_add.2.1 11 = .ok (.ifCond .ne 7, 3) := by decide +kernel
def bX3_add_14 : List OP := [oi (.iconst 1), (.goto 4, 0, 0, 19, 0, 0)]
theorem oX3_add_14 : okB mX3_add 14 bX3_add_14 = true := by decide +kernel
def bX3_add_18 : List OP := [oi (.iconst 0)]
theorem oX3_add_18 : okB mX3_add 18 bX3_add_18 = true := by decide +kernel
def bX3_add_19 : List OP := [oi .bastore, oi (.aload_n 0), oi .dup, (.getfield 36, 7, 3, 7, 0, 123), oi (.iconst 1), oi .iadd, (.putfield 36, 7, 3, 7, 0, 123), oi (.iload_n 1)]
theorem oX3_add_19 : okB mX3_add 19 bX3_add_19 = true := by decide +kernel
theorem eX3_add_31 : decode mX3_add.2.1 31 = .ok (.ireturn, 1) := by decide +kernel
def bX3_changeDot_0 : List OP := [oi (.aload_n 0), (.getfield 9, 0, 3, 0, 2, 105), oi (.iload_n 1), oi (.bipush 16), oi .imul, oi (.iload_n 2), oi .iadd, oi .iaload, oi (.istore 4), oi (.aload_n 0), (.getfield 9, 0, 3, 0, 2, 105), oi (.iload_n 1), oi (.bipush 16), oi .imul, oi (.iload_n 2), oi .iadd, oi (.iload_n 3), oi .iastore, oi (.aload_n 0), oi (.iload_n 1)]
theorem oX3_changeDot_0 : okB mX3_changeDot 0 bX3_changeDot_0 = true := by decide +kernel
theorem eX3_changeDot_27 : decode mX3_changeDot.2.1 27 = .ok (.invokevirtual 40, 3) := by decide +kernel
theorem lX3_changeDot_27 : okL 432 (.methodLink mX3_changeDot.1.cls 40 mX3_forgetCutsFrom.1) = true := by decide +kernel
def bX3_changeDot_30 : List OP := [oi (.iload 4)]
theorem oX3_changeDot_30 : okB mX3_changeDot 30 bX3_changeDot_30 = true := by decide +kernel
theorem eX3_changeDot_32 : decode mX3_changeDot.2.1 32 = .ok (.ireturn, 1) := by decide +kernel
def bX3_changeKey_0 : List OP := [oi (.aload_n 0), (.getfield 16, 2, 3, 2, 2, 110), oi (.iload_n 1), oi .baload, oi (.istore_n 3), oi (.aload_n 0), (.getfield 16, 2, 3, 2, 2, 110), oi (.iload_n 1), oi (.iload_n 2), oi .bastore, oi (.aload_n 0), oi (.iload_n 1)]
theorem oX3_changeKey_0 : okB mX3_changeKey 0 bX3_changeKey_0 = true := by decide +kernel
theorem eX3_changeKey_16 : decode mX3_changeKey.2.1 16 = .ok (.invokevirtual 40, 3) := by decide +kernel
theorem lX3_changeKey_16 : okL 432 (.methodLink mX3_changeKey.1.cls 40 mX3_forgetCutsFrom.1) = true := by decide +kernel
def bX3_changeKey_19 : List OP := [oi (.iload_n 3)]
theorem oX3_changeKey_19 : okB mX3_changeKey 19 bX3_changeKey_19 = true := by decide +kernel
theorem eX3_changeKey_20 : decode mX3_changeKey.2.1 20 = .ok (.ireturn, 1) := by decide +kernel
def bX3_forgetCutsFrom_0 : List OP := [oi (.aload_n 0), oi (.aload_n 0), (.getfield 44, 8, 3, 8, 0, 124), oi (.iload_n 1)]
theorem oX3_forgetCutsFrom_0 : okB mX3_forgetCutsFrom 0 bX3_forgetCutsFrom_0 = true := by decide +kernel
theorem eX3_forgetCutsFrom_6 : decode mX3_forgetCutsFrom.2.1 6 = .ok (.invokestatic 47, 3) := by decide +kernel
theorem lX3_forgetCutsFrom_6 : okL 436 (.methodLink mX3_forgetCutsFrom.1.cls 47 mJ9_min.1) = true := by decide +kernel
def bX3_forgetCutsFrom_9 : List OP := [(.putfield 44, 8, 3, 8, 0, 124)]
theorem oX3_forgetCutsFrom_9 : okB mX3_forgetCutsFrom 9 bX3_forgetCutsFrom_9 = true := by decide +kernel
theorem eX3_forgetCutsFrom_12 : decode mX3_forgetCutsFrom.2.1 12 = .ok (.return_, 1) := by decide +kernel
def bX3_cutUpTo_0 : List OP := [oi (.aload_n 0), (.getfield 44, 8, 3, 8, 0, 124), oi (.istore_n 3)]
theorem oX3_cutUpTo_0 : okB mX3_cutUpTo 0 bX3_cutUpTo_0 = true := by decide +kernel
def bX3_cutUpTo_5 : List OP := [oi (.iload_n 3), oi (.iload_n 1)]
theorem oX3_cutUpTo_5 : okB mX3_cutUpTo 5 bX3_cutUpTo_5 = true := by decide +kernel
theorem eX3_cutUpTo_7 : decode mX3_cutUpTo.2.1 7 = .ok (.if_icmp .gt 19, 3) := by decide +kernel
def bX3_cutUpTo_10 : List OP := [oi (.aload_n 0), (.getfield 32, 6, 3, 6, 2, 121), oi (.aload_n 0), oi (.iload_n 3), oi (.iload_n 2)]
theorem oX3_cutUpTo_10 : okB mX3_cutUpTo 10 bX3_cutUpTo_10 = true := by decide +kernel
theorem eX3_cutUpTo_17 : decode mX3_cutUpTo.2.1 17 = .ok (.invokevirtual 53, 3) := by decide +kernel
theorem lX3_cutUpTo_17 : okL 468 (.methodLink mX3_cutUpTo.1.cls 53 mX1_cut.1) = true := by decide +kernel
def bX3_cutUpTo_20 : List OP := [oi (.iinc 3 1), (.goto (-18), 0, 0, 5, 0, 0)]
theorem oX3_cutUpTo_20 : okB mX3_cutUpTo 20 bX3_cutUpTo_20 = true := by decide +kernel
def bX3_cutUpTo_26 : List OP := [oi (.aload_n 0), oi (.aload_n 0), (.getfield 44, 8, 3, 8, 0, 124), oi (.iload_n 1), oi (.iconst 1), oi .iadd]
theorem oX3_cutUpTo_26 : okB mX3_cutUpTo 26 bX3_cutUpTo_26 = true := by decide +kernel
theorem eX3_cutUpTo_34 : decode mX3_cutUpTo.2.1 34 = .ok (.invokestatic 57, 3) := by decide +kernel
theorem lX3_cutUpTo_34 : okL 522 (.methodLink mX3_cutUpTo.1.cls 57 mJ9_max.1) = true := by decide +kernel
def bX3_cutUpTo_37 : List OP := [(.putfield 44, 8, 3, 8, 0, 124)]
theorem oX3_cutUpTo_37 : okB mX3_cutUpTo 37 bX3_cutUpTo_37 = true := by decide +kernel
theorem eX3_cutUpTo_40 : decode mX3_cutUpTo.2.1 40 = .ok (.return_, 1) := by decide +kernel
def bX3_unlike_0 : List OP := [oi (.iconst 0), oi (.istore_n 2), oi (.iload_n 1)]
theorem oX3_unlike_0 : okB mX3_unlike 0 bX3_unlike_0 = true := by decide +kernel
theorem eX3_unlike_3 : decode mX3_unlike.2.1 3 = .ok (.ifCond .le 46, 3) := by decide +kernel
def bX3_unlike_6 : List OP := [oi (.iload_n 1), oi (.bipush 16), oi .imul, oi (.istore_n 3)]
theorem oX3_unlike_6 : okB mX3_unlike 6 bX3_unlike_6 = true := by decide +kernel
def bX3_unlike_11 : List OP := [oi (.iload_n 3), oi (.iload_n 1), oi (.iconst 1), oi .iadd, oi (.bipush 16), oi .imul]
theorem oX3_unlike_11 : okB mX3_unlike 11 bX3_unlike_11 = true := by decide +kernel
theorem eX3_unlike_18 : decode mX3_unlike.2.1 18 = .ok (.if_icmp .ge 31, 3) := by decide +kernel
def bX3_unlike_21 : List OP := [oi (.iload_n 2), oi (.aload_n 0), (.getfield 9, 0, 3, 0, 2, 105), oi (.iload_n 3), oi .iaload, oi (.aload_n 0), (.getfield 9, 0, 3, 0, 2, 105), oi (.iload_n 3), oi (.bipush 16), oi .isub, oi .iaload, oi .isub]
theorem oX3_unlike_21 : okB mX3_unlike 21 bX3_unlike_21 = true := by decide +kernel
theorem eX3_unlike_38 : decode mX3_unlike.2.1 38 = .ok (.invokestatic 60, 3) := by decide +kernel
theorem lX3_unlike_38 : okL 535 (.methodLink mX3_unlike.1.cls 60 mJ9_abs.1) = true := by decide +kernel
def bX3_unlike_41 : List OP := [oi .iadd, oi (.istore_n 2), oi (.iinc 3 1), (.goto (-35), 0, 0, 11, 0, 0)]
theorem oX3_unlike_41 : okB mX3_unlike 41 bX3_unlike_41 = true := by decide +kernel
def bX3_unlike_49 : List OP := [oi (.iload_n 2)]
theorem oX3_unlike_49 : okB mX3_unlike 49 bX3_unlike_49 = true := by decide +kernel
theorem eX3_unlike_50 : decode mX3_unlike.2.1 50 = .ok (.ireturn, 1) := by decide +kernel
def bX3_isScene_0 : List OP := [oi (.iload_n 1)]
theorem oX3_isScene_0 : okB mX3_isScene 0 bX3_isScene_0 = true := by decide +kernel
theorem eX3_isScene_1 : decode mX3_isScene.2.1 1 = .ok (.ifCond .le 16, 3) := by decide +kernel
def bX3_isScene_4 : List OP := [oi (.aload_n 0), oi (.iload_n 1)]
theorem oX3_isScene_4 : okB mX3_isScene 4 bX3_isScene_4 = true := by decide +kernel
theorem eX3_isScene_6 : decode mX3_isScene.2.1 6 = .ok (.invokevirtual 64, 3) := by decide +kernel
theorem lX3_isScene_6 : okL 542 (.methodLink mX3_isScene.1.cls 64 mX3_unlike.1) = true := by decide +kernel
def bX3_isScene_9 : List OP := [oi (.iload_n 2)]
theorem oX3_isScene_9 : okB mX3_isScene 9 bX3_isScene_9 = true := by decide +kernel
theorem eX3_isScene_10 : decode mX3_isScene.2.1 10 = .ok (.if_icmp .lt 7, 3) := by decide +kernel
def bX3_isScene_13 : List OP := [oi (.iconst 1), (.goto 4, 0, 0, 18, 0, 0)]
theorem oX3_isScene_13 : okB mX3_isScene 13 bX3_isScene_13 = true := by decide +kernel
def bX3_isScene_17 : List OP := [oi (.iconst 0)]
theorem oX3_isScene_17 : okB mX3_isScene 17 bX3_isScene_17 = true := by decide +kernel
theorem eX3_isScene_18 : decode mX3_isScene.2.1 18 = .ok (.ireturn, 1) := by decide +kernel
def bX3_isStill_0 : List OP := [oi (.iload_n 1)]
theorem oX3_isStill_0 : okB mX3_isStill 0 bX3_isStill_0 = true := by decide +kernel
theorem eX3_isStill_1 : decode mX3_isStill.2.1 1 = .ok (.ifCond .le 15, 3) := by decide +kernel
def bX3_isStill_4 : List OP := [oi (.aload_n 0), oi (.iload_n 1)]
theorem oX3_isStill_4 : okB mX3_isStill 4 bX3_isStill_4 = true := by decide +kernel
theorem eX3_isStill_6 : decode mX3_isStill.2.1 6 = .ok (.invokevirtual 64, 3) := by decide +kernel
theorem lX3_isStill_6 : okL 542 (.methodLink mX3_isStill.1.cls 64 mX3_unlike.1) = true := by decide +kernel
theorem eX3_isStill_9 : decode mX3_isStill.2.1 9 = .ok (.ifCond .ne 7, 3) := by decide +kernel
def bX3_isStill_12 : List OP := [oi (.iconst 1), (.goto 4, 0, 0, 17, 0, 0)]
theorem oX3_isStill_12 : okB mX3_isStill 12 bX3_isStill_12 = true := by decide +kernel
def bX3_isStill_16 : List OP := [oi (.iconst 0)]
theorem oX3_isStill_16 : okB mX3_isStill 16 bX3_isStill_16 = true := by decide +kernel
theorem eX3_isStill_17 : decode mX3_isStill.2.1 17 = .ok (.ireturn, 1) := by decide +kernel
def bX3_scenes_0 : List OP := [oi (.iconst 0), oi (.istore_n 2), oi (.iconst 0), oi (.istore_n 3)]
theorem oX3_scenes_0 : okB mX3_scenes 0 bX3_scenes_0 = true := by decide +kernel
def bX3_scenes_4 : List OP := [oi (.iload_n 3), oi (.aload_n 0), (.getfield 36, 7, 3, 7, 0, 123)]
theorem oX3_scenes_4 : okB mX3_scenes 4 bX3_scenes_4 = true := by decide +kernel
theorem eX3_scenes_9 : decode mX3_scenes.2.1 9 = .ok (.if_icmp .ge 24, 3) := by decide +kernel
def bX3_scenes_12 : List OP := [oi (.aload_n 0), oi (.iload_n 3), oi (.iload_n 1)]
theorem oX3_scenes_12 : okB mX3_scenes 12 bX3_scenes_12 = true := by decide +kernel
theorem eX3_scenes_15 : decode mX3_scenes.2.1 15 = .ok (.invokevirtual 67, 3) := by decide +kernel
theorem lX3_scenes_15 : okL 955 (.methodLink mX3_scenes.1.cls 67 mX3_isScene.1) = true := by decide +kernel
theorem eX3_scenes_18 : decode mX3_scenes.2.1 18 = .ok (.ifCond .eq 9, 3) := by decide +kernel
def bX3_scenes_21 : List OP := [oi (.iload_n 2), oi (.iconst 1), oi (.iload_n 3), oi .ishl, oi .ior, oi (.istore_n 2)]
theorem oX3_scenes_21 : okB mX3_scenes 21 bX3_scenes_21 = true := by decide +kernel
def bX3_scenes_27 : List OP := [oi (.iinc 3 1), (.goto (-26), 0, 0, 4, 0, 0)]
theorem oX3_scenes_27 : okB mX3_scenes 27 bX3_scenes_27 = true := by decide +kernel
def bX3_scenes_33 : List OP := [oi (.iload_n 2)]
theorem oX3_scenes_33 : okB mX3_scenes 33 bX3_scenes_33 = true := by decide +kernel
theorem eX3_scenes_34 : decode mX3_scenes.2.1 34 = .ok (.ireturn, 1) := by decide +kernel
def bX3_stills_0 : List OP := [oi (.iconst 0), oi (.istore_n 1), oi (.iconst 0), oi (.istore_n 2)]
theorem oX3_stills_0 : okB mX3_stills 0 bX3_stills_0 = true := by decide +kernel
def bX3_stills_4 : List OP := [oi (.iload_n 2), oi (.aload_n 0), (.getfield 36, 7, 3, 7, 0, 123)]
theorem oX3_stills_4 : okB mX3_stills 4 bX3_stills_4 = true := by decide +kernel
theorem eX3_stills_9 : decode mX3_stills.2.1 9 = .ok (.if_icmp .ge 23, 3) := by decide +kernel
def bX3_stills_12 : List OP := [oi (.aload_n 0), oi (.iload_n 2)]
theorem oX3_stills_12 : okB mX3_stills 12 bX3_stills_12 = true := by decide +kernel
theorem eX3_stills_14 : decode mX3_stills.2.1 14 = .ok (.invokevirtual 71, 3) := by decide +kernel
theorem lX3_stills_14 : okL 960 (.methodLink mX3_stills.1.cls 71 mX3_isStill.1) = true := by decide +kernel
theorem eX3_stills_17 : decode mX3_stills.2.1 17 = .ok (.ifCond .eq 9, 3) := by decide +kernel
def bX3_stills_20 : List OP := [oi (.iload_n 1), oi (.iconst 1), oi (.iload_n 2), oi .ishl, oi .ior, oi (.istore_n 1)]
theorem oX3_stills_20 : okB mX3_stills 20 bX3_stills_20 = true := by decide +kernel
def bX3_stills_26 : List OP := [oi (.iinc 2 1), (.goto (-25), 0, 0, 4, 0, 0)]
theorem oX3_stills_26 : okB mX3_stills 26 bX3_stills_26 = true := by decide +kernel
def bX3_stills_32 : List OP := [oi (.iload_n 1)]
theorem oX3_stills_32 : okB mX3_stills 32 bX3_stills_32 = true := by decide +kernel
theorem eX3_stills_33 : decode mX3_stills.2.1 33 = .ok (.ireturn, 1) := by decide +kernel
def bX9_tells_0 : List OP := [oi (.iload_n 0)]
theorem oX9_tells_0 : okB mX9_tells 0 bX9_tells_0 = true := by decide +kernel
theorem eX9_tells_1 : decode mX9_tells.2.1 1 = .ok (.ifCond .lt 8, 3) := by decide +kernel
def bX9_tells_4 : List OP := [oi (.iload_n 0), oi (.iconst 3)]
theorem oX9_tells_4 : okB mX9_tells 4 bX9_tells_4 = true := by decide +kernel
theorem eX9_tells_6 : decode mX9_tells.2.1 6 = .ok (.if_icmp .le 15, 3) := by decide +kernel
def bX9_tells_9 : List OP := [oi (.iload_n 0), oi (.bipush 10)]
theorem oX9_tells_9 : okB mX9_tells 9 bX9_tells_9 = true := by decide +kernel
theorem eX9_tells_12 : decode mX9_tells.2.1 12 = .ok (.if_icmp .lt 13, 3) := by decide +kernel
def bX9_tells_15 : List OP := [oi (.iload_n 0), oi (.bipush 18)]
theorem oX9_tells_15 : okB mX9_tells 15 bX9_tells_15 = true := by decide +kernel
theorem eX9_tells_18 : decode mX9_tells.2.1 18 = .ok (.if_icmp .ge 7, 3) := by decide +kernel
def bX9_tells_21 : List OP := [oi (.iconst 1), (.goto 4, 0, 0, 26, 0, 0)]
theorem oX9_tells_21 : okB mX9_tells 21 bX9_tells_21 = true := by decide +kernel
def bX9_tells_25 : List OP := [oi (.iconst 0)]
theorem oX9_tells_25 : okB mX9_tells 25 bX9_tells_25 = true := by decide +kernel
theorem eX9_tells_26 : decode mX9_tells.2.1 26 = .ok (.ireturn, 1) := by decide +kernel
def bX9_answer_0 : List OP := [oi (.iload_n 1)]
theorem oX9_answer_0 : okB mX9_answer 0 bX9_answer_0 = true := by decide +kernel
theorem eX9_answer_1 : decode mX9_answer.2.1 1 = .ok (.tableswitch 51 0 3 #[31, 36, 41, 46], 31) := by decide +kernel
def bX9_answer_32 : List OP := [oi (.aload_n 0), (.getfield 17, 1, 9, 1, 0, 209)]
theorem oX9_answer_32 : okB mX9_answer 32 bX9_answer_32 = true := by decide +kernel
theorem eX9_answer_36 : decode mX9_answer.2.1 36 = .ok (.ireturn, 1) := by decide +kernel
def bX9_answer_37 : List OP := [oi (.aload_n 0), (.getfield 21, 2, 9, 2, 0, 211)]
theorem oX9_answer_37 : okB mX9_answer 37 bX9_answer_37 = true := by decide +kernel
theorem eX9_answer_41 : decode mX9_answer.2.1 41 = .ok (.ireturn, 1) := by decide +kernel
def bX9_answer_42 : List OP := [oi (.aload_n 0), (.getfield 24, 3, 9, 3, 0, 213)]
theorem oX9_answer_42 : okB mX9_answer 42 bX9_answer_42 = true := by decide +kernel
theorem eX9_answer_46 : decode mX9_answer.2.1 46 = .ok (.ireturn, 1) := by decide +kernel
def bX9_answer_47 : List OP := [oi (.aload_n 0), (.getfield 27, 4, 9, 4, 0, 215)]
theorem oX9_answer_47 : okB mX9_answer 47 bX9_answer_47 = true := by decide +kernel
theorem eX9_answer_51 : decode mX9_answer.2.1 51 = .ok (.ireturn, 1) := by decide +kernel
def bX9_answer_52 : List OP := [oi (.iload_n 1)]
theorem oX9_answer_52 : okB mX9_answer 52 bX9_answer_52 = true := by decide +kernel
theorem eX9_answer_53 : decode mX9_answer.2.1 53 = .ok (.invokestatic 30, 3) := by decide +kernel
theorem lX9_answer_53 : okL 663 (.methodLink mX9_answer.1.cls 30 mX9_tells.1) = true := by decide +kernel
theorem eX9_answer_56 : decode mX9_answer.2.1 56 = .ok (.ifCond .eq 15, 3) := by decide +kernel
def bX9_answer_59 : List OP := [oi (.aload_n 0), (.getfield 11, 0, 9, 0, 2, 207), oi (.iload_n 1), oi (.bipush 10), oi .isub, oi .iaload, (.goto 5, 0, 0, 73, 0, 0)]
theorem oX9_answer_59 : okB mX9_answer 59 bX9_answer_59 = true := by decide +kernel
def bX9_answer_71 : List OP := [oi (.bipush (-2))]
theorem oX9_answer_71 : okB mX9_answer 71 bX9_answer_71 = true := by decide +kernel
theorem eX9_answer_73 : decode mX9_answer.2.1 73 = .ok (.ireturn, 1) := by decide +kernel
def bX9_clear_0 : List OP := [oi (.aload_n 0), oi (.iconst 0), (.putfield 17, 1, 9, 1, 0, 209), oi (.aload_n 0), oi (.iconst 0), (.putfield 21, 2, 9, 2, 0, 211), oi (.aload_n 0), oi (.iconst 0), (.putfield 24, 3, 9, 3, 0, 213), oi (.aload_n 0), oi (.bipush (-6)), (.putfield 27, 4, 9, 4, 0, 215), oi (.iconst 0), oi (.istore_n 1)]
theorem oX9_clear_0 : okB mX9_clear 0 bX9_clear_0 = true := by decide +kernel
def bX9_clear_23 : List OP := [oi (.iload_n 1), oi (.bipush 8)]
theorem oX9_clear_23 : okB mX9_clear 23 bX9_clear_23 = true := by decide +kernel
theorem eX9_clear_26 : decode mX9_clear.2.1 26 = .ok (.if_icmp .ge 17, 3) := by decide +kernel
def bX9_clear_29 : List OP := [oi (.aload_n 0), (.getfield 11, 0, 9, 0, 2, 207), oi (.iload_n 1), oi (.bipush (-6)), oi .iastore, oi (.iinc 1 1), (.goto (-17), 0, 0, 23, 0, 0)]
theorem oX9_clear_29 : okB mX9_clear 29 bX9_clear_29 = true := by decide +kernel
theorem eX9_clear_43 : decode mX9_clear.2.1 43 = .ok (.return_, 1) := by decide +kernel
def bX9_run_0 : List OP := [oi (.aload_n 0)]
theorem oX9_run_0 : okB mX9_run 0 bX9_run_0 = true := by decide +kernel
theorem eX9_run_1 : decode mX9_run.2.1 1 = .ok (.invokevirtual 34, 3) := by decide +kernel
theorem lX9_run_1 : okL 630 (.methodLink mX9_run.1.cls 34 mX9_clear.1) = true := by decide +kernel
def bX9_run_4 : List OP := [oi (.aload_n 0), oi (.iconst 0), (.putfield 37, 5, 9, 5, 0, 217), oi (.aload_n 0), oi (.iconst 0), (.putfield 40, 6, 9, 6, 0, 218), oi (.iload_n 3), oi (.aload_n 1), (.getfield 43, 2, 2, 2, 0, 156)]
theorem oX9_run_4 : okB mX9_run 4 bX9_run_4 = true := by decide +kernel
theorem eX9_run_19 : decode mX9_run.2.1 19 = .ok (.invokestatic 46, 3) := by decide +kernel
theorem lX9_run_19 : okL 634 (.methodLink mX9_run.1.cls 46 mJ9_min.1) = true := by decide +kernel
def bX9_run_22 : List OP := [oi (.istore 4), oi (.iconst 0), oi (.istore 5)]
theorem oX9_run_22 : okB mX9_run 22 bX9_run_22 = true := by decide +kernel
def bX9_run_27 : List OP := [oi (.iload 5), oi (.bipush 60)]
theorem oX9_run_27 : okB mX9_run 27 bX9_run_27 = true := by decide +kernel
theorem eX9_run_31 : decode mX9_run.2.1 31 = .ok (.if_icmp .ge 44, 3) := by decide +kernel
def bX9_run_34 : List OP := [oi (.aload_n 0), (.getfield 17, 1, 9, 1, 0, 209), oi (.aload_n 1), (.getfield 43, 2, 2, 2, 0, 156)]
theorem oX9_run_34 : okB mX9_run 34 bX9_run_34 = true := by decide +kernel
theorem eX9_run_42 : decode mX9_run.2.1 42 = .ok (.if_icmp .ge 33, 3) := by decide +kernel
def bX9_run_45 : List OP := [oi (.aload_n 0), oi (.aload_n 1), oi (.aload_n 2), oi (.iload 5)]
theorem oX9_run_45 : okB mX9_run 45 bX9_run_45 = true := by decide +kernel
theorem eX9_run_50 : decode mX9_run.2.1 50 = .ok (.invokevirtual 52, 3) := by decide +kernel
theorem lX9_run_50 : okL 635 (.methodLink mX9_run.1.cls 52 mX9_load.1) = true := by decide +kernel
def bX9_run_53 : List OP := [oi (.aload_n 0), (.getfield 37, 5, 9, 5, 0, 217), oi (.iload 4)]
theorem oX9_run_53 : okB mX9_run 53 bX9_run_53 = true := by decide +kernel
theorem eX9_run_59 : decode mX9_run.2.1 59 = .ok (.if_icmp .lt 10, 3) := by decide +kernel
def bX9_run_62 : List OP := [oi (.aload_n 0), oi (.aload_n 1), oi (.iload 5)]
theorem oX9_run_62 : okB mX9_run 62 bX9_run_62 = true := by decide +kernel
theorem eX9_run_66 : decode mX9_run.2.1 66 = .ok (.invokevirtual 56, 3) := by decide +kernel
theorem lX9_run_66 : okL 655 (.methodLink mX9_run.1.cls 56 mX9_watch.1) = true := by decide +kernel
def bX9_run_69 : List OP := [oi (.iinc 5 1), (.goto (-45), 0, 0, 27, 0, 0)]
theorem oX9_run_69 : okB mX9_run 69 bX9_run_69 = true := by decide +kernel
theorem eX9_run_75 : decode mX9_run.2.1 75 = .ok (.return_, 1) := by decide +kernel
def bX9_load_0 : List OP := [oi (.aload_n 1), (.getfield 60, 0, 2, 0, 2, 152), oi (.iload_n 3), oi .iaload, oi (.istore 4), oi (.aload_n 0), (.getfield 37, 5, 9, 5, 0, 217), oi (.istore 5)]
theorem oX9_load_0 : okB mX9_load 0 bX9_load_0 = true := by decide +kernel
def bX9_load_14 : List OP := [oi (.iload 5), oi (.aload_n 1), (.getfield 43, 2, 2, 2, 0, 156)]
theorem oX9_load_14 : okB mX9_load 14 bX9_load_14 = true := by decide +kernel
theorem eX9_load_20 : decode mX9_load.2.1 20 = .ok (.if_icmp .ge 81, 3) := by decide +kernel
def bX9_load_23 : List OP := [oi (.iload 4)]
theorem oX9_load_23 : okB mX9_load 23 bX9_load_23 = true := by decide +kernel
theorem eX9_load_25 : decode mX9_load.2.1 25 = .ok (.ifCond .le 76, 3) := by decide +kernel
def bX9_load_28 : List OP := [oi (.aload_n 0), (.getfield 11, 0, 9, 0, 2, 207), oi (.iload 5), oi .iaload, oi (.bipush (-6))]
theorem oX9_load_28 : okB mX9_load 28 bX9_load_28 = true := by decide +kernel
theorem eX9_load_37 : decode mX9_load.2.1 37 = .ok (.if_icmp .ne 12, 3) := by decide +kernel
def bX9_load_40 : List OP := [oi (.aload_n 0), oi (.aload_n 1), oi (.aload_n 2), oi (.iload 5), oi (.iload_n 3)]
theorem oX9_load_40 : okB mX9_load 40 bX9_load_40 = true := by decide +kernel
theorem eX9_load_46 : decode mX9_load.2.1 46 = .ok (.invokevirtual 63, 3) := by decide +kernel
theorem lX9_load_46 : okL 639 (.methodLink mX9_load.1.cls 63 mX9_begin.1) = true := by decide +kernel
def bX9_load_49 : List OP := [oi (.iload 4), oi (.aload_n 0), (.getfield 40, 6, 9, 6, 0, 218)]
theorem oX9_load_49 : okB mX9_load 49 bX9_load_49 = true := by decide +kernel
theorem eX9_load_55 : decode mX9_load.2.1 55 = .ok (.invokestatic 46, 3) := by decide +kernel
theorem lX9_load_55 : okL 634 (.methodLink mX9_load.1.cls 46 mJ9_min.1) = true := by decide +kernel
def bX9_load_58 : List OP := [oi (.istore 6), oi (.iload 4), oi (.iload 6), oi .isub, oi (.istore 4), oi (.aload_n 0), oi .dup, (.getfield 40, 6, 9, 6, 0, 218), oi (.iload 6), oi .isub, (.putfield 40, 6, 9, 6, 0, 218), oi (.aload_n 0), (.getfield 40, 6, 9, 6, 0, 218)]
theorem oX9_load_58 : okB mX9_load 58 bX9_load_58 = true := by decide +kernel
theorem eX9_load_82 : decode mX9_load.2.1 82 = .ok (.ifCond .ne 13, 3) := by decide +kernel
def bX9_load_85 : List OP := [oi (.aload_n 0), oi .dup, (.getfield 37, 5, 9, 5, 0, 217), oi (.iconst 1), oi .iadd, (.putfield 37, 5, 9, 5, 0, 217)]
theorem oX9_load_85 : okB mX9_load 85 bX9_load_85 = true := by decide +kernel
def bX9_load_95 : List OP := [oi (.iinc 5 1), (.goto (-84), 0, 0, 14, 0, 0)]
theorem oX9_load_95 : okB mX9_load 95 bX9_load_95 = true := by decide +kernel
theorem eX9_load_101 : decode mX9_load.2.1 101 = .ok (.return_, 1) := by decide +kernel
def bX9_begin_0 : List OP := [oi (.iload_n 3)]
theorem oX9_begin_0 : okB mX9_begin 0 bX9_begin_0 = true := by decide +kernel
theorem eX9_begin_1 : decode mX9_begin.2.1 1 = .ok (.ifCond .le 14, 3) := by decide +kernel
def bX9_begin_4 : List OP := [oi (.aload_n 0), (.getfield 11, 0, 9, 0, 2, 207), oi (.iload_n 3), oi (.iconst 1), oi .isub, oi .iaload, (.goto 4, 0, 0, 16, 0, 0)]
theorem oX9_begin_4 : okB mX9_begin 4 bX9_begin_4 = true := by decide +kernel
def bX9_begin_15 : List OP := [oi (.iconst 0)]
theorem oX9_begin_15 : okB mX9_begin 15 bX9_begin_15 = true := by decide +kernel
def bX9_begin_16 : List OP := [oi (.istore 5), oi (.iload 4)]
theorem oX9_begin_16 : okB mX9_begin 16 bX9_begin_16 = true := by decide +kernel
theorem eX9_begin_20 : decode mX9_begin.2.1 20 = .ok (.ifCond .le 15, 3) := by decide +kernel
def bX9_begin_23 : List OP := [oi (.aload_n 1), (.getfield 60, 0, 2, 0, 2, 152), oi (.iload 4), oi (.iconst 1), oi .isub, oi .iaload, (.goto 4, 0, 0, 36, 0, 0)]
theorem oX9_begin_23 : okB mX9_begin 23 bX9_begin_23 = true := by decide +kernel
def bX9_begin_35 : List OP := [oi (.iconst 0)]
theorem oX9_begin_35 : okB mX9_begin 35 bX9_begin_35 = true := by decide +kernel
def bX9_begin_36 : List OP := [oi (.istore 6), oi (.aload_n 1), oi (.iload_n 3)]
theorem oX9_begin_36 : okB mX9_begin 36 bX9_begin_36 = true := by decide +kernel
theorem eX9_begin_40 : decode mX9_begin.2.1 40 = .ok (.invokevirtual 67, 3) := by decide +kernel
theorem lX9_begin_40 : okL 643 (.methodLink mX9_begin.1.cls 67 mX2_isDoor.1) = true := by decide +kernel
theorem eX9_begin_43 : decode mX9_begin.2.1 43 = .ok (.ifCond .eq 24, 3) := by decide +kernel
def bX9_begin_46 : List OP := [oi (.aload_n 2), oi (.aload_n 0), (.getfield 37, 5, 9, 5, 0, 217), oi (.aload_n 0), (.getfield 17, 1, 9, 1, 0, 209), oi .isub, oi (.iload 6), oi (.iload 5), oi (.iload_n 3)]
theorem oX9_begin_46 : okB mX9_begin 46 bX9_begin_46 = true := by decide +kernel
theorem eX9_begin_61 : decode mX9_begin.2.1 61 = .ok (.invokevirtual 70, 3) := by decide +kernel
theorem lX9_begin_61 : okL 647 (.methodLink mX9_begin.1.cls 70 mX8_pick.1) = true := by decide +kernel
def bX9_begin_64 : List OP := [(.goto 5, 0, 0, 69, 0, 0)]
theorem oX9_begin_64 : okB mX9_begin 64 bX9_begin_64 = true := by decide +kernel
def bX9_begin_67 : List OP := [oi (.iload 5)]
theorem oX9_begin_67 : okB mX9_begin 67 bX9_begin_67 = true := by decide +kernel
def bX9_begin_69 : List OP := [oi (.istore 7), oi (.aload_n 0), (.getfield 11, 0, 9, 0, 2, 207), oi (.iload_n 3), oi (.iload 7), oi .iastore, oi (.aload_n 0), oi (.aload_n 1), oi (.iload_n 3), oi (.iload 7)]
theorem oX9_begin_69 : okB mX9_begin 69 bX9_begin_69 = true := by decide +kernel
theorem eX9_begin_84 : decode mX9_begin.2.1 84 = .ok (.invokevirtual 76, 3) := by decide +kernel
theorem lX9_begin_84 : okL 651 (.methodLink mX9_begin.1.cls 76 mX2_bitsOf.1) = true := by decide +kernel
def bX9_begin_87 : List OP := [(.putfield 40, 6, 9, 6, 0, 218)]
theorem oX9_begin_87 : okB mX9_begin 87 bX9_begin_87 = true := by decide +kernel
theorem eX9_begin_90 : decode mX9_begin.2.1 90 = .ok (.return_, 1) := by decide +kernel
def bX9_watch_0 : List OP := [oi (.aload_n 0), (.getfield 37, 5, 9, 5, 0, 217), oi (.aload_n 0), (.getfield 17, 1, 9, 1, 0, 209)]
theorem oX9_watch_0 : okB mX9_watch 0 bX9_watch_0 = true := by decide +kernel
theorem eX9_watch_8 : decode mX9_watch.2.1 8 = .ok (.if_icmp .gt 14, 3) := by decide +kernel
def bX9_watch_11 : List OP := [oi (.aload_n 0), oi .dup, (.getfield 21, 2, 9, 2, 0, 211), oi (.iconst 1), oi .iadd, (.putfield 21, 2, 9, 2, 0, 211)]
theorem oX9_watch_11 : okB mX9_watch 11 bX9_watch_11 = true := by decide +kernel
theorem eX9_watch_21 : decode mX9_watch.2.1 21 = .ok (.return_, 1) := by decide +kernel
def bX9_watch_22 : List OP := [oi (.aload_n 0), oi .dup, (.getfield 24, 3, 9, 3, 0, 213), oi (.aload_n 0), (.getfield 11, 0, 9, 0, 2, 207), oi (.aload_n 0), (.getfield 17, 1, 9, 1, 0, 209), oi .iaload, oi .iadd, (.putfield 24, 3, 9, 3, 0, 213), oi (.aload_n 0), oi .dup, (.getfield 17, 1, 9, 1, 0, 209), oi (.iconst 1), oi .iadd, (.putfield 17, 1, 9, 1, 0, 209), oi (.aload_n 0), (.getfield 17, 1, 9, 1, 0, 209), oi (.aload_n 1), (.getfield 43, 2, 2, 2, 0, 156)]
theorem oX9_watch_22 : okB mX9_watch 22 bX9_watch_22 = true := by decide +kernel
theorem eX9_watch_58 : decode mX9_watch.2.1 58 = .ok (.if_icmp .ne 8, 3) := by decide +kernel
def bX9_watch_61 : List OP := [oi (.aload_n 0), oi (.iload_n 2), (.putfield 27, 4, 9, 4, 0, 215)]
theorem oX9_watch_61 : okB mX9_watch 61 bX9_watch_61 = true := by decide +kernel
theorem eX9_watch_66 : decode mX9_watch.2.1 66 = .ok (.return_, 1) := by decide +kernel
end
section
/-! ===== code as blocks ===== -/
def bX11_frame_0 : List OP := [oi (.aload_n 0), (.getfield 16, 1, 11, 1, 2, 370), (.getfield 83, 7, 3, 7, 0, 122), oi (.bipush 10)]
theorem oX11_frame_0 : okB mX11_frame 0 bX11_frame_0 = true := by decide +kernel
theorem eX11_frame_9 : decode mX11_frame.2.1 9 = .ok (.if_icmp .ne 6, 3) := by decide +kernel
def bX11_frame_12 : List OP := [oi (.bipush (-4))]
theorem oX11_frame_12 : okB mX11_frame 12 bX11_frame_12 = true := by decide +kernel
theorem eX11_frame_14 : decode mX11_frame.2.1 14 = .ok (.ireturn, 1) := by decide +kernel
def bX11_frame_15 : List OP := [oi (.aload_n 0), (.getfield 16, 1, 11, 1, 2, 370)]
theorem oX11_frame_15 : okB mX11_frame 15 bX11_frame_15 = true := by decide +kernel
theorem eX11_frame_19 : decode mX11_frame.2.1 19 = .ok (.invokevirtual 87, 3) := by decide +kernel
theorem lX11_frame_19 : okL 413 (.methodLink mX11_frame.1.cls 87 mX3_add.1) = true := by decide +kernel
theorem eX11_frame_22 : decode mX11_frame.2.1 22 = .ok (.ireturn, 1) := by decide +kernel
def bX11_dot_0 : List OP := [oi (.aload_n 0), (.getfield 16, 1, 11, 1, 2, 370), oi (.iload_n 1)]
theorem oX11_dot_0 : okB mX11_dot 0 bX11_dot_0 = true := by decide +kernel
theorem eX11_dot_5 : decode mX11_dot.2.1 5 = .ok (.invokevirtual 91, 3) := by decide +kernel
theorem lX11_dot_5 : okL 421 (.methodLink mX11_dot.1.cls 91 mX3_has.1) = true := by decide +kernel
theorem eX11_dot_8 : decode mX11_dot.2.1 8 = .ok (.ifCond .ne 5, 3) := by decide +kernel
def bX11_dot_11 : List OP := [oi (.iconst (-1))]
theorem oX11_dot_11 : okB mX11_dot 11 bX11_dot_11 = true := by decide +kernel
theorem eX11_dot_12 : decode mX11_dot.2.1 12 = .ok (.ireturn, 1) := by decide +kernel
def bX11_dot_13 : List OP := [oi (.iload_n 2), oi (.iconst 0), oi (.bipush 15)]
theorem oX11_dot_13 : okB mX11_dot 13 bX11_dot_13 = true := by decide +kernel
theorem eX11_dot_17 : decode mX11_dot.2.1 17 = .ok (.invokestatic 95, 3) := by decide +kernel
theorem lX11_dot_17 : okL 425 (.methodLink mX11_dot.1.cls 95 mX11_between.1) = true := by decide +kernel
theorem eX11_dot_20 : decode mX11_dot.2.1 20 = .ok (.ifCond .eq 13, 3) := by decide +kernel
def bX11_dot_23 : List OP := [oi (.iload_n 3), oi (.iconst 0), oi (.bipush 15)]
theorem oX11_dot_23 : okB mX11_dot 23 bX11_dot_23 = true := by decide +kernel
theorem eX11_dot_27 : decode mX11_dot.2.1 27 = .ok (.invokestatic 95, 3) := by decide +kernel
theorem lX11_dot_27 : okL 425 (.methodLink mX11_dot.1.cls 95 mX11_between.1) = true := by decide +kernel
theorem eX11_dot_30 : decode mX11_dot.2.1 30 = .ok (.ifCond .ne 6, 3) := by decide +kernel
def bX11_dot_33 : List OP := [oi (.bipush (-2))]
theorem oX11_dot_33 : okB mX11_dot 33 bX11_dot_33 = true := by decide +kernel
theorem eX11_dot_35 : decode mX11_dot.2.1 35 = .ok (.ireturn, 1) := by decide +kernel
def bX11_dot_36 : List OP := [oi (.aload_n 0), (.getfield 16, 1, 11, 1, 2, 370), oi (.iload_n 1), oi (.iload_n 2), oi (.iload_n 3)]
theorem oX11_dot_36 : okB mX11_dot 36 bX11_dot_36 = true := by decide +kernel
theorem eX11_dot_43 : decode mX11_dot.2.1 43 = .ok (.invokevirtual 99, 3) := by decide +kernel
theorem lX11_dot_43 : okL 428 (.methodLink mX11_dot.1.cls 99 mX3_changeDot.1) = true := by decide +kernel
theorem eX11_dot_46 : decode mX11_dot.2.1 46 = .ok (.ireturn, 1) := by decide +kernel
def bX11_key_0 : List OP := [oi (.aload_n 0), (.getfield 16, 1, 11, 1, 2, 370), oi (.iload_n 1)]
theorem oX11_key_0 : okB mX11_key 0 bX11_key_0 = true := by decide +kernel
theorem eX11_key_5 : decode mX11_key.2.1 5 = .ok (.invokevirtual 91, 3) := by decide +kernel
theorem lX11_key_5 : okL 421 (.methodLink mX11_key.1.cls 91 mX3_has.1) = true := by decide +kernel
theorem eX11_key_8 : decode mX11_key.2.1 8 = .ok (.ifCond .ne 5, 3) := by decide +kernel
def bX11_key_11 : List OP := [oi (.iconst (-1))]
theorem oX11_key_11 : okB mX11_key 11 bX11_key_11 = true := by decide +kernel
theorem eX11_key_12 : decode mX11_key.2.1 12 = .ok (.ireturn, 1) := by decide +kernel
def bX11_key_13 : List OP := [oi (.iload_n 1)]
theorem oX11_key_13 : okB mX11_key 13 bX11_key_13 = true := by decide +kernel
theorem eX11_key_14 : decode mX11_key.2.1 14 = .ok (.ifCond .ne 6, 3) := by decide +kernel
def bX11_key_17 : List OP := [oi (.bipush (-5))]
theorem oX11_key_17 : okB mX11_key 17 bX11_key_17 = true := by decide +kernel
theorem eX11_key_19 : decode mX11_key.2.1 19 = .ok (.ireturn, 1) := by decide +kernel
def bX11_key_20 : List OP := [oi (.aload_n 0), (.getfield 16, 1, 11, 1, 2, 370), oi (.iload_n 1), oi (.iload_n 2)]
theorem oX11_key_20 : okB mX11_key 20 bX11_key_20 = true := by decide +kernel
theorem eX11_key_26 : decode mX11_key.2.1 26 = .ok (.invokevirtual 103, 3) := by decide +kernel
theorem lX11_key_26 : okL 443 (.methodLink mX11_key.1.cls 103 mX3_changeKey.1) = true := by decide +kernel
theorem eX11_key_29 : decode mX11_key.2.1 29 = .ok (.ifCond .eq 7, 3) := by decide +kernel
def bX11_key_32 : List OP := [oi (.iconst 1), (.goto 4, 0, 0, 37, 0, 0)]
theorem oX11_key_32 : okB mX11_key 32 bX11_key_32 = true := by decide +kernel
def bX11_key_36 : List OP := [oi (.iconst 0)]
theorem oX11_key_36 : okB mX11_key 36 bX11_key_36 = true := by decide +kernel
theorem eX11_key_37 : decode mX11_key.2.1 37 = .ok (.ireturn, 1) := by decide +kernel
def bX11_set_0 : List OP := [oi (.iload_n 1), oi (.iconst 0), oi (.bipush 6)]
theorem oX11_set_0 : okB mX11_set 0 bX11_set_0 = true := by decide +kernel
theorem eX11_set_4 : decode mX11_set.2.1 4 = .ok (.invokestatic 95, 3) := by decide +kernel
theorem lX11_set_4 : okL 425 (.methodLink mX11_set.1.cls 95 mX11_between.1) = true := by decide +kernel
theorem eX11_set_7 : decode mX11_set.2.1 7 = .ok (.ifCond .eq 20, 3) := by decide +kernel
def bX11_set_10 : List OP := [oi (.iload_n 2), (.getstatic 107, 0, 0, 0, 0, 451), oi (.iload_n 1), oi .iaload, (.getstatic 110, 0, 1, 0, 0, 453), oi (.iload_n 1), oi .iaload]
theorem oX11_set_10 : okB mX11_set 10 bX11_set_10 = true := by decide +kernel
theorem eX11_set_21 : decode mX11_set.2.1 21 = .ok (.invokestatic 95, 3) := by decide +kernel
theorem lX11_set_21 : okL 425 (.methodLink mX11_set.1.cls 95 mX11_between.1) = true := by decide +kernel
theorem eX11_set_24 : decode mX11_set.2.1 24 = .ok (.ifCond .ne 6, 3) := by decide +kernel
def bX11_set_27 : List OP := [oi (.bipush (-2))]
theorem oX11_set_27 : okB mX11_set 27 bX11_set_27 = true := by decide +kernel
theorem eX11_set_29 : decode mX11_set.2.1 29 = .ok (.ireturn, 1) := by decide +kernel
def bX11_set_30 : List OP := [oi (.aload_n 0), (.getfield 7, 0, 11, 0, 2, 369), oi (.iload_n 1), oi .iaload, oi (.istore_n 3), oi (.aload_n 0), (.getfield 7, 0, 11, 0, 2, 369), oi (.iload_n 1), oi (.iload_n 2), oi .iastore, oi (.iload_n 1)]
theorem oX11_set_30 : okB mX11_set 30 bX11_set_30 = true := by decide +kernel
theorem eX11_set_45 : decode mX11_set.2.1 45 = .ok (.ifCond .ne 11, 3) := by decide +kernel
def bX11_set_48 : List OP := [oi (.aload_n 0), (.getfield 16, 1, 11, 1, 2, 370), oi (.iconst 0)]
theorem oX11_set_48 : okB mX11_set 48 bX11_set_48 = true := by decide +kernel
theorem eX11_set_53 : decode mX11_set.2.1 53 = .ok (.invokevirtual 113, 3) := by decide +kernel
theorem lX11_set_53 : okL 455 (.methodLink mX11_set.1.cls 113 mX3_forgetCutsFrom.1) = true := by decide +kernel
def bX11_set_56 : List OP := [oi (.iload_n 1), oi (.iconst 2)]
theorem oX11_set_56 : okB mX11_set 56 bX11_set_56 = true := by decide +kernel
theorem eX11_set_58 : decode mX11_set.2.1 58 = .ok (.if_icmp .ne 7, 3) := by decide +kernel
def bX11_set_61 : List OP := [oi (.aload_n 0)]
theorem oX11_set_61 : okB mX11_set 61 bX11_set_61 = true := by decide +kernel
theorem eX11_set_62 : decode mX11_set.2.1 62 = .ok (.invokevirtual 117, 3) := by decide +kernel
theorem lX11_set_62 : okL 456 (.methodLink mX11_set.1.cls 117 mX11_forgetShows.1) = true := by decide +kernel
def bX11_set_65 : List OP := [oi (.iload_n 3)]
theorem oX11_set_65 : okB mX11_set 65 bX11_set_65 = true := by decide +kernel
theorem eX11_set_66 : decode mX11_set.2.1 66 = .ok (.ireturn, 1) := by decide +kernel
def bX11_way_0 : List OP := [oi (.aload_n 0), (.getfield 16, 1, 11, 1, 2, 370), oi (.iload_n 1)]
theorem oX11_way_0 : okB mX11_way 0 bX11_way_0 = true := by decide +kernel
theorem eX11_way_5 : decode mX11_way.2.1 5 = .ok (.invokevirtual 91, 3) := by decide +kernel
theorem lX11_way_5 : okL 421 (.methodLink mX11_way.1.cls 91 mX3_has.1) = true := by decide +kernel
theorem eX11_way_8 : decode mX11_way.2.1 8 = .ok (.ifCond .eq 12, 3) := by decide +kernel
def bX11_way_11 : List OP := [oi (.iload_n 2), oi (.iconst 0), oi (.iconst 3)]
theorem oX11_way_11 : okB mX11_way 11 bX11_way_11 = true := by decide +kernel
theorem eX11_way_14 : decode mX11_way.2.1 14 = .ok (.invokestatic 95, 3) := by decide +kernel
theorem lX11_way_14 : okL 425 (.methodLink mX11_way.1.cls 95 mX11_between.1) = true := by decide +kernel
theorem eX11_way_17 : decode mX11_way.2.1 17 = .ok (.ifCond .ne 5, 3) := by decide +kernel
def bX11_way_20 : List OP := [oi (.iconst (-1))]
theorem oX11_way_20 : okB mX11_way 20 bX11_way_20 = true := by decide +kernel
theorem eX11_way_21 : decode mX11_way.2.1 21 = .ok (.ireturn, 1) := by decide +kernel
def bX11_way_22 : List OP := [oi (.aload_n 0), (.getfield 16, 1, 11, 1, 2, 370), oi (.iload_n 1), oi (.aload_n 0), (.getfield 7, 0, 11, 0, 2, 369), oi (.iconst 0), oi .iaload]
theorem oX11_way_22 : okB mX11_way 22 bX11_way_22 = true := by decide +kernel
theorem eX11_way_33 : decode mX11_way.2.1 33 = .ok (.invokevirtual 120, 3) := by decide +kernel
theorem lX11_way_33 : okL 464 (.methodLink mX11_way.1.cls 120 mX3_cutUpTo.1) = true := by decide +kernel
def bX11_way_36 : List OP := [oi (.aload_n 0), (.getfield 16, 1, 11, 1, 2, 370), (.getfield 124, 3, 3, 3, 2, 113), oi (.iload_n 1), oi (.iconst 4), oi .imul, oi (.iload_n 2), oi .iadd, oi .iaload]
theorem oX11_way_36 : okB mX11_way 36 bX11_way_36 = true := by decide +kernel
theorem eX11_way_49 : decode mX11_way.2.1 49 = .ok (.ireturn, 1) := by decide +kernel
def bX11_opened_0 : List OP := [oi (.aload_n 0), (.getfield 16, 1, 11, 1, 2, 370), oi (.iload_n 1)]
theorem oX11_opened_0 : okB mX11_opened 0 bX11_opened_0 = true := by decide +kernel
theorem eX11_opened_5 : decode mX11_opened.2.1 5 = .ok (.invokevirtual 91, 3) := by decide +kernel
theorem lX11_opened_5 : okL 421 (.methodLink mX11_opened.1.cls 91 mX3_has.1) = true := by decide +kernel
theorem eX11_opened_8 : decode mX11_opened.2.1 8 = .ok (.ifCond .ne 5, 3) := by decide +kernel
def bX11_opened_11 : List OP := [oi (.iconst (-1))]
theorem oX11_opened_11 : okB mX11_opened 11 bX11_opened_11 = true := by decide +kernel
theorem eX11_opened_12 : decode mX11_opened.2.1 12 = .ok (.ireturn, 1) := by decide +kernel
def bX11_opened_13 : List OP := [oi (.iload_n 2), oi (.iconst 0), oi (.bipush 15)]
theorem oX11_opened_13 : okB mX11_opened 13 bX11_opened_13 = true := by decide +kernel
theorem eX11_opened_17 : decode mX11_opened.2.1 17 = .ok (.invokestatic 95, 3) := by decide +kernel
theorem lX11_opened_17 : okL 425 (.methodLink mX11_opened.1.cls 95 mX11_between.1) = true := by decide +kernel
theorem eX11_opened_20 : decode mX11_opened.2.1 20 = .ok (.ifCond .ne 6, 3) := by decide +kernel
def bX11_opened_23 : List OP := [oi (.bipush (-2))]
theorem oX11_opened_23 : okB mX11_opened 23 bX11_opened_23 = true := by decide +kernel
theorem eX11_opened_25 : decode mX11_opened.2.1 25 = .ok (.ireturn, 1) := by decide +kernel
def bX11_opened_26 : List OP := [oi (.aload_n 0), (.getfield 16, 1, 11, 1, 2, 370), oi (.iload_n 1), oi (.aload_n 0), (.getfield 7, 0, 11, 0, 2, 369), oi (.iconst 0), oi .iaload]
theorem oX11_opened_26 : okB mX11_opened 26 bX11_opened_26 = true := by decide +kernel
theorem eX11_opened_37 : decode mX11_opened.2.1 37 = .ok (.invokevirtual 120, 3) := by decide +kernel
theorem lX11_opened_37 : okL 464 (.methodLink mX11_opened.1.cls 120 mX3_cutUpTo.1) = true := by decide +kernel
def bX11_opened_40 : List OP := [oi (.aload_n 0), (.getfield 16, 1, 11, 1, 2, 370), (.getfield 127, 1, 3, 1, 2, 109), oi (.iload_n 1), oi (.bipush 16), oi .imul, oi (.iload_n 2), oi .iadd, oi .iaload]
theorem oX11_opened_40 : okB mX11_opened 40 bX11_opened_40 = true := by decide +kernel
theorem eX11_opened_54 : decode mX11_opened.2.1 54 = .ok (.ireturn, 1) := by decide +kernel
def bX11_of_0 : List OP := [oi (.aload_n 0), (.getfield 16, 1, 11, 1, 2, 370), oi (.iload_n 1)]
theorem oX11_of_0 : okB mX11_of 0 bX11_of_0 = true := by decide +kernel
theorem eX11_of_5 : decode mX11_of.2.1 5 = .ok (.invokevirtual 91, 3) := by decide +kernel
theorem lX11_of_5 : okL 421 (.methodLink mX11_of.1.cls 91 mX3_has.1) = true := by decide +kernel
theorem eX11_of_8 : decode mX11_of.2.1 8 = .ok (.ifCond .ne 5, 3) := by decide +kernel
def bX11_of_11 : List OP := [oi (.iconst (-1))]
theorem oX11_of_11 : okB mX11_of 11 bX11_of_11 = true := by decide +kernel
theorem eX11_of_12 : decode mX11_of.2.1 12 = .ok (.ireturn, 1) := by decide +kernel
def bX11_of_13 : List OP := [oi (.iload_n 2)]
theorem oX11_of_13 : okB mX11_of 13 bX11_of_13 = true := by decide +kernel
theorem eX11_of_14 : decode mX11_of.2.1 14 = .ok (.tableswitch 131 0 4 #[34, 58, 82, 91, 114], 34) := by decide +kernel
def bX11_of_48 : List OP := [oi (.aload_n 0), (.getfield 16, 1, 11, 1, 2, 370), oi (.iload_n 1), oi (.aload_n 0), (.getfield 7, 0, 11, 0, 2, 369), oi (.iconst 0), oi .iaload]
theorem oX11_of_48 : okB mX11_of 48 bX11_of_48 = true := by decide +kernel
theorem eX11_of_59 : decode mX11_of.2.1 59 = .ok (.invokevirtual 120, 3) := by decide +kernel
theorem lX11_of_59 : okL 464 (.methodLink mX11_of.1.cls 120 mX3_cutUpTo.1) = true := by decide +kernel
def bX11_of_62 : List OP := [oi (.aload_n 0), (.getfield 16, 1, 11, 1, 2, 370), (.getfield 130, 4, 3, 4, 2, 116), oi (.iload_n 1), oi .iaload]
theorem oX11_of_62 : okB mX11_of 62 bX11_of_62 = true := by decide +kernel
theorem eX11_of_71 : decode mX11_of.2.1 71 = .ok (.ireturn, 1) := by decide +kernel
def bX11_of_72 : List OP := [oi (.aload_n 0), (.getfield 16, 1, 11, 1, 2, 370), oi (.iload_n 1), oi (.aload_n 0), (.getfield 7, 0, 11, 0, 2, 369), oi (.iconst 0), oi .iaload]
theorem oX11_of_72 : okB mX11_of 72 bX11_of_72 = true := by decide +kernel
theorem eX11_of_83 : decode mX11_of.2.1 83 = .ok (.invokevirtual 120, 3) := by decide +kernel
theorem lX11_of_83 : okL 464 (.methodLink mX11_of.1.cls 120 mX3_cutUpTo.1) = true := by decide +kernel
def bX11_of_86 : List OP := [oi (.aload_n 0), (.getfield 16, 1, 11, 1, 2, 370), (.getfield 133, 5, 3, 5, 2, 119), oi (.iload_n 1), oi .iaload]
theorem oX11_of_86 : okB mX11_of 86 bX11_of_86 = true := by decide +kernel
theorem eX11_of_95 : decode mX11_of.2.1 95 = .ok (.ireturn, 1) := by decide +kernel
def bX11_of_96 : List OP := [oi (.aload_n 0), (.getfield 16, 1, 11, 1, 2, 370), oi (.iload_n 1)]
theorem oX11_of_96 : okB mX11_of 96 bX11_of_96 = true := by decide +kernel
theorem eX11_of_101 : decode mX11_of.2.1 101 = .ok (.invokevirtual 136, 3) := by decide +kernel
theorem lX11_of_101 : okL 531 (.methodLink mX11_of.1.cls 136 mX3_unlike.1) = true := by decide +kernel
theorem eX11_of_104 : decode mX11_of.2.1 104 = .ok (.ireturn, 1) := by decide +kernel
def bX11_of_105 : List OP := [oi (.aload_n 0), (.getfield 16, 1, 11, 1, 2, 370), oi (.iload_n 1), oi (.aload_n 0), (.getfield 7, 0, 11, 0, 2, 369), oi (.iconst 1), oi .iaload]
theorem oX11_of_105 : okB mX11_of 105 bX11_of_105 = true := by decide +kernel
theorem eX11_of_116 : decode mX11_of.2.1 116 = .ok (.invokevirtual 140, 3) := by decide +kernel
theorem lX11_of_116 : okL 538 (.methodLink mX11_of.1.cls 140 mX3_isScene.1) = true := by decide +kernel
theorem eX11_of_119 : decode mX11_of.2.1 119 = .ok (.ifCond .eq 7, 3) := by decide +kernel
def bX11_of_122 : List OP := [oi (.iconst 1), (.goto 4, 0, 0, 127, 0, 0)]
theorem oX11_of_122 : okB mX11_of 122 bX11_of_122 = true := by decide +kernel
def bX11_of_126 : List OP := [oi (.iconst 0)]
theorem oX11_of_126 : okB mX11_of 126 bX11_of_126 = true := by decide +kernel
theorem eX11_of_127 : decode mX11_of.2.1 127 = .ok (.ireturn, 1) := by decide +kernel
def bX11_of_128 : List OP := [oi (.aload_n 0), (.getfield 16, 1, 11, 1, 2, 370), oi (.iload_n 1)]
theorem oX11_of_128 : okB mX11_of 128 bX11_of_128 = true := by decide +kernel
theorem eX11_of_133 : decode mX11_of.2.1 133 = .ok (.invokevirtual 144, 3) := by decide +kernel
theorem lX11_of_133 : okL 543 (.methodLink mX11_of.1.cls 144 mX3_isStill.1) = true := by decide +kernel
theorem eX11_of_136 : decode mX11_of.2.1 136 = .ok (.ifCond .eq 7, 3) := by decide +kernel
def bX11_of_139 : List OP := [oi (.iconst 1), (.goto 4, 0, 0, 144, 0, 0)]
theorem oX11_of_139 : okB mX11_of 139 bX11_of_139 = true := by decide +kernel
def bX11_of_143 : List OP := [oi (.iconst 0)]
theorem oX11_of_143 : okB mX11_of 143 bX11_of_143 = true := by decide +kernel
theorem eX11_of_144 : decode mX11_of.2.1 144 = .ok (.ireturn, 1) := by decide +kernel
def bX11_of_145 : List OP := [oi (.bipush (-2))]
theorem oX11_of_145 : okB mX11_of 145 bX11_of_145 = true := by decide +kernel
theorem eX11_of_147 : decode mX11_of.2.1 147 = .ok (.ireturn, 1) := by decide +kernel
def bX11_pieces_0 : List OP := [oi (.iload_n 1), oi (.iconst 1), oi (.bipush 8)]
theorem oX11_pieces_0 : okB mX11_pieces 0 bX11_pieces_0 = true := by decide +kernel
theorem eX11_pieces_4 : decode mX11_pieces.2.1 4 = .ok (.invokestatic 95, 3) := by decide +kernel
theorem lX11_pieces_4 : okL 425 (.methodLink mX11_pieces.1.cls 95 mX11_between.1) = true := by decide +kernel
theorem eX11_pieces_7 : decode mX11_pieces.2.1 7 = .ok (.ifCond .ne 6, 3) := by decide +kernel
def bX11_pieces_10 : List OP := [oi (.bipush (-2))]
theorem oX11_pieces_10 : okB mX11_pieces 10 bX11_pieces_10 = true := by decide +kernel
theorem eX11_pieces_12 : decode mX11_pieces.2.1 12 = .ok (.ireturn, 1) := by decide +kernel
def bX11_pieces_13 : List OP := [oi (.aload_n 0), (.getfield 23, 2, 11, 2, 2, 371), (.getfield 147, 2, 2, 2, 0, 157), oi (.istore_n 2), oi (.aload_n 0), (.getfield 23, 2, 11, 2, 2, 371), oi (.iload_n 1), (.putfield 147, 2, 2, 2, 0, 157), oi (.aload_n 0)]
theorem oX11_pieces_13 : okB mX11_pieces 13 bX11_pieces_13 = true := by decide +kernel
theorem eX11_pieces_30 : decode mX11_pieces.2.1 30 = .ok (.invokevirtual 117, 3) := by decide +kernel
theorem lX11_pieces_30 : okL 456 (.methodLink mX11_pieces.1.cls 117 mX11_forgetShows.1) = true := by decide +kernel
def bX11_pieces_33 : List OP := [oi (.iload_n 2)]
theorem oX11_pieces_33 : okB mX11_pieces 33 bX11_pieces_33 = true := by decide +kernel
theorem eX11_pieces_34 : decode mX11_pieces.2.1 34 = .ok (.ireturn, 1) := by decide +kernel
def bX11_bits_0 : List OP := [oi (.iload_n 1), oi (.iconst 0), oi (.bipush 7)]
theorem oX11_bits_0 : okB mX11_bits 0 bX11_bits_0 = true := by decide +kernel
theorem eX11_bits_4 : decode mX11_bits.2.1 4 = .ok (.invokestatic 95, 3) := by decide +kernel
theorem lX11_bits_4 : okL 425 (.methodLink mX11_bits.1.cls 95 mX11_between.1) = true := by decide +kernel
theorem eX11_bits_7 : decode mX11_bits.2.1 7 = .ok (.ifCond .ne 5, 3) := by decide +kernel
def bX11_bits_10 : List OP := [oi (.iconst (-1))]
theorem oX11_bits_10 : okB mX11_bits 10 bX11_bits_10 = true := by decide +kernel
theorem eX11_bits_11 : decode mX11_bits.2.1 11 = .ok (.ireturn, 1) := by decide +kernel
def bX11_bits_12 : List OP := [oi (.iload_n 2), oi (.iconst 0), oi (.iconst 2)]
theorem oX11_bits_12 : okB mX11_bits 12 bX11_bits_12 = true := by decide +kernel
theorem eX11_bits_15 : decode mX11_bits.2.1 15 = .ok (.invokestatic 95, 3) := by decide +kernel
theorem lX11_bits_15 : okL 425 (.methodLink mX11_bits.1.cls 95 mX11_between.1) = true := by decide +kernel
theorem eX11_bits_18 : decode mX11_bits.2.1 18 = .ok (.ifCond .eq 14, 3) := by decide +kernel
def bX11_bits_21 : List OP := [oi (.iload_n 3), oi (.iconst 1), oi (.sipush 1000)]
theorem oX11_bits_21 : okB mX11_bits 21 bX11_bits_21 = true := by decide +kernel
theorem eX11_bits_26 : decode mX11_bits.2.1 26 = .ok (.invokestatic 95, 3) := by decide +kernel
theorem lX11_bits_26 : okL 425 (.methodLink mX11_bits.1.cls 95 mX11_between.1) = true := by decide +kernel
theorem eX11_bits_29 : decode mX11_bits.2.1 29 = .ok (.ifCond .ne 6, 3) := by decide +kernel
def bX11_bits_32 : List OP := [oi (.bipush (-2))]
theorem oX11_bits_32 : okB mX11_bits 32 bX11_bits_32 = true := by decide +kernel
theorem eX11_bits_34 : decode mX11_bits.2.1 34 = .ok (.ireturn, 1) := by decide +kernel
def bX11_bits_35 : List OP := [oi (.aload_n 0)]
theorem oX11_bits_35 : okB mX11_bits 35 bX11_bits_35 = true := by decide +kernel
theorem eX11_bits_36 : decode mX11_bits.2.1 36 = .ok (.invokevirtual 117, 3) := by decide +kernel
theorem lX11_bits_36 : okL 456 (.methodLink mX11_bits.1.cls 117 mX11_forgetShows.1) = true := by decide +kernel
def bX11_bits_39 : List OP := [oi (.aload_n 0), (.getfield 23, 2, 11, 2, 2, 371), oi (.iload_n 1), oi (.iload_n 2), oi (.iload_n 3)]
theorem oX11_bits_39 : okB mX11_bits 39 bX11_bits_39 = true := by decide +kernel
theorem eX11_bits_46 : decode mX11_bits.2.1 46 = .ok (.invokevirtual 148, 3) := by decide +kernel
theorem lX11_bits_46 : okL 555 (.methodLink mX11_bits.1.cls 148 mX2_changeBits.1) = true := by decide +kernel
theorem eX11_bits_49 : decode mX11_bits.2.1 49 = .ok (.ireturn, 1) := by decide +kernel
def bX11_doors_0 : List OP := [oi (.iload_n 1), oi (.iconst 0), oi (.sipush 255)]
theorem oX11_doors_0 : okB mX11_doors 0 bX11_doors_0 = true := by decide +kernel
theorem eX11_doors_5 : decode mX11_doors.2.1 5 = .ok (.invokestatic 95, 3) := by decide +kernel
theorem lX11_doors_5 : okL 425 (.methodLink mX11_doors.1.cls 95 mX11_between.1) = true := by decide +kernel
theorem eX11_doors_8 : decode mX11_doors.2.1 8 = .ok (.ifCond .ne 6, 3) := by decide +kernel
def bX11_doors_11 : List OP := [oi (.bipush (-2))]
theorem oX11_doors_11 : okB mX11_doors 11 bX11_doors_11 = true := by decide +kernel
theorem eX11_doors_13 : decode mX11_doors.2.1 13 = .ok (.ireturn, 1) := by decide +kernel
def bX11_doors_14 : List OP := [oi (.aload_n 0), (.getfield 23, 2, 11, 2, 2, 371), (.getfield 151, 3, 2, 3, 0, 159), oi (.istore_n 2), oi (.aload_n 0), (.getfield 23, 2, 11, 2, 2, 371), oi (.iload_n 1), (.putfield 151, 3, 2, 3, 0, 159), oi (.aload_n 0)]
theorem oX11_doors_14 : okB mX11_doors 14 bX11_doors_14 = true := by decide +kernel
theorem eX11_doors_31 : decode mX11_doors.2.1 31 = .ok (.invokevirtual 117, 3) := by decide +kernel
theorem lX11_doors_31 : okL 456 (.methodLink mX11_doors.1.cls 117 mX11_forgetShows.1) = true := by decide +kernel
def bX11_doors_34 : List OP := [oi (.iload_n 2)]
theorem oX11_doors_34 : okB mX11_doors 34 bX11_doors_34 = true := by decide +kernel
theorem eX11_doors_35 : decode mX11_doors.2.1 35 = .ok (.ireturn, 1) := by decide +kernel
def bX11_line_0 : List OP := [oi (.iload_n 1), oi (.iconst 0), oi (.bipush 59)]
theorem oX11_line_0 : okB mX11_line 0 bX11_line_0 = true := by decide +kernel
theorem eX11_line_4 : decode mX11_line.2.1 4 = .ok (.invokestatic 95, 3) := by decide +kernel
theorem lX11_line_4 : okL 425 (.methodLink mX11_line.1.cls 95 mX11_between.1) = true := by decide +kernel
theorem eX11_line_7 : decode mX11_line.2.1 7 = .ok (.ifCond .eq 24, 3) := by decide +kernel
def bX11_line_10 : List OP := [oi (.iload_n 2), oi (.iload_n 1), oi (.bipush 59)]
theorem oX11_line_10 : okB mX11_line 10 bX11_line_10 = true := by decide +kernel
theorem eX11_line_14 : decode mX11_line.2.1 14 = .ok (.invokestatic 95, 3) := by decide +kernel
theorem lX11_line_14 : okL 425 (.methodLink mX11_line.1.cls 95 mX11_between.1) = true := by decide +kernel
theorem eX11_line_17 : decode mX11_line.2.1 17 = .ok (.ifCond .eq 14, 3) := by decide +kernel
def bX11_line_20 : List OP := [oi (.iload_n 3), oi (.iconst 0), oi (.sipush 1000)]
theorem oX11_line_20 : okB mX11_line 20 bX11_line_20 = true := by decide +kernel
theorem eX11_line_25 : decode mX11_line.2.1 25 = .ok (.invokestatic 95, 3) := by decide +kernel
theorem lX11_line_25 : okL 425 (.methodLink mX11_line.1.cls 95 mX11_between.1) = true := by decide +kernel
theorem eX11_line_28 : decode mX11_line.2.1 28 = .ok (.ifCond .ne 6, 3) := by decide +kernel
def bX11_line_31 : List OP := [oi (.bipush (-2))]
theorem oX11_line_31 : okB mX11_line 31 bX11_line_31 = true := by decide +kernel
theorem eX11_line_33 : decode mX11_line.2.1 33 = .ok (.ireturn, 1) := by decide +kernel
def bX11_line_34 : List OP := [oi (.aload_n 0), (.getfield 23, 2, 11, 2, 2, 371), oi (.iload_n 1), oi (.iload_n 2), oi (.iload_n 3)]
theorem oX11_line_34 : okB mX11_line 34 bX11_line_34 = true := by decide +kernel
theorem eX11_line_41 : decode mX11_line.2.1 41 = .ok (.invokevirtual 154, 3) := by decide +kernel
theorem lX11_line_41 : okL 567 (.methodLink mX11_line.1.cls 154 mX2_changeLine.1) = true := by decide +kernel
def bX11_line_44 : List OP := [oi (.aload_n 0)]
theorem oX11_line_44 : okB mX11_line 44 bX11_line_44 = true := by decide +kernel
theorem eX11_line_45 : decode mX11_line.2.1 45 = .ok (.invokevirtual 117, 3) := by decide +kernel
theorem lX11_line_45 : okL 456 (.methodLink mX11_line.1.cls 117 mX11_forgetShows.1) = true := by decide +kernel
def bX11_line_48 : List OP := [oi (.iconst 1)]
theorem oX11_line_48 : okB mX11_line 48 bX11_line_48 = true := by decide +kernel
theorem eX11_line_49 : decode mX11_line.2.1 49 = .ok (.ireturn, 1) := by decide +kernel
def bX11_say_0 : List OP := [oi (.iload_n 1), oi (.bipush 33), oi (.bipush 126)]
theorem oX11_say_0 : okB mX11_say 0 bX11_say_0 = true := by decide +kernel
theorem eX11_say_5 : decode mX11_say.2.1 5 = .ok (.invokestatic 95, 3) := by decide +kernel
theorem lX11_say_5 : okL 425 (.methodLink mX11_say.1.cls 95 mX11_between.1) = true := by decide +kernel
theorem eX11_say_8 : decode mX11_say.2.1 8 = .ok (.ifCond .ne 6, 3) := by decide +kernel
def bX11_say_11 : List OP := [oi (.bipush (-2))]
theorem oX11_say_11 : okB mX11_say 11 bX11_say_11 = true := by decide +kernel
theorem eX11_say_13 : decode mX11_say.2.1 13 = .ok (.ireturn, 1) := by decide +kernel
def bX11_say_14 : List OP := [oi (.aload_n 0), (.getfield 30, 3, 11, 3, 2, 372), (.getfield 158, 1, 8, 1, 0, 177), oi (.bipush 40)]
theorem oX11_say_14 : okB mX11_say 14 bX11_say_14 = true := by decide +kernel
theorem eX11_say_23 : decode mX11_say.2.1 23 = .ok (.if_icmp .ne 6, 3) := by decide +kernel
def bX11_say_26 : List OP := [oi (.bipush (-4))]
theorem oX11_say_26 : okB mX11_say 26 bX11_say_26 = true := by decide +kernel
theorem eX11_say_28 : decode mX11_say.2.1 28 = .ok (.ireturn, 1) := by decide +kernel
def bX11_say_29 : List OP := [oi (.aload_n 0), (.getfield 30, 3, 11, 3, 2, 372), oi (.iload_n 1)]
theorem oX11_say_29 : okB mX11_say 29 bX11_say_29 = true := by decide +kernel
theorem eX11_say_34 : decode mX11_say.2.1 34 = .ok (.invokevirtual 159, 3) := by decide +kernel
theorem lX11_say_34 : okL 575 (.methodLink mX11_say.1.cls 159 mX8_addSign.1) = true := by decide +kernel
theorem eX11_say_37 : decode mX11_say.2.1 37 = .ok (.ireturn, 1) := by decide +kernel
def bX11_wipe_0 : List OP := [oi (.aload_n 0), (.getfield 30, 3, 11, 3, 2, 372)]
theorem oX11_wipe_0 : okB mX11_wipe 0 bX11_wipe_0 = true := by decide +kernel
theorem eX11_wipe_4 : decode mX11_wipe.2.1 4 = .ok (.invokevirtual 162, 3) := by decide +kernel
theorem lX11_wipe_4 : okL 583 (.methodLink mX11_wipe.1.cls 162 mX8_dropSigns.1) = true := by decide +kernel
theorem eX11_wipe_7 : decode mX11_wipe.2.1 7 = .ok (.ireturn, 1) := by decide +kernel
def bX11_fault_0 : List OP := [oi (.aload_n 0), (.getfield 30, 3, 11, 3, 2, 372)]
theorem oX11_fault_0 : okB mX11_fault 0 bX11_fault_0 = true := by decide +kernel
theorem eX11_fault_4 : decode mX11_fault.2.1 4 = .ok (.invokevirtual 165, 3) := by decide +kernel
theorem lX11_fault_4 : okL 591 (.methodLink mX11_fault.1.cls 165 mX8_firstFault.1) = true := by decide +kernel
theorem eX11_fault_7 : decode mX11_fault.2.1 7 = .ok (.ireturn, 1) := by decide +kernel
def bX11_rule_0 : List OP := [oi (.aload_n 0), (.getfield 30, 3, 11, 3, 2, 372)]
theorem oX11_rule_0 : okB mX11_rule 0 bX11_rule_0 = true := by decide +kernel
theorem eX11_rule_4 : decode mX11_rule.2.1 4 = .ok (.invokevirtual 165, 3) := by decide +kernel
theorem lX11_rule_4 : okL 591 (.methodLink mX11_rule.1.cls 165 mX8_firstFault.1) = true := by decide +kernel
def bX11_rule_7 : List OP := [oi (.bipush (-6))]
theorem oX11_rule_7 : okB mX11_rule 7 bX11_rule_7 = true := by decide +kernel
theorem eX11_rule_9 : decode mX11_rule.2.1 9 = .ok (.if_icmp .eq 6, 3) := by decide +kernel
def bX11_rule_12 : List OP := [oi (.bipush (-5))]
theorem oX11_rule_12 : okB mX11_rule 12 bX11_rule_12 = true := by decide +kernel
theorem eX11_rule_14 : decode mX11_rule.2.1 14 = .ok (.ireturn, 1) := by decide +kernel
def bX11_rule_15 : List OP := [oi (.aload_n 0), (.getfield 30, 3, 11, 3, 2, 372)]
theorem oX11_rule_15 : okB mX11_rule 15 bX11_rule_15 = true := by decide +kernel
theorem eX11_rule_19 : decode mX11_rule.2.1 19 = .ok (.invokevirtual 168, 3) := by decide +kernel
theorem lX11_rule_19 : okL 611 (.methodLink mX11_rule.1.cls 168 mX8_adopt.1) = true := by decide +kernel
def bX11_rule_22 : List OP := [oi (.aload_n 0), oi (.iconst 0), (.putfield 171, 11, 11, 11, 1, 380), oi (.iconst 1)]
theorem oX11_rule_22 : okB mX11_rule 22 bX11_rule_22 = true := by decide +kernel
theorem eX11_rule_28 : decode mX11_rule.2.1 28 = .ok (.ireturn, 1) := by decide +kernel
def bX11_show_0 : List OP := [oi (.iload_n 1)]
theorem oX11_show_0 : okB mX11_show 0 bX11_show_0 = true := by decide +kernel
theorem eX11_show_1 : decode mX11_show.2.1 1 = .ok (.invokestatic 175, 3) := by decide +kernel
theorem lX11_show_1 : okL 623 (.methodLink mX11_show.1.cls 175 mX9_tells.1) = true := by decide +kernel
theorem eX11_show_4 : decode mX11_show.2.1 4 = .ok (.ifCond .ne 6, 3) := by decide +kernel
def bX11_show_7 : List OP := [oi (.bipush (-2))]
theorem oX11_show_7 : okB mX11_show 7 bX11_show_7 = true := by decide +kernel
theorem eX11_show_9 : decode mX11_show.2.1 9 = .ok (.ireturn, 1) := by decide +kernel
def bX11_show_10 : List OP := [oi (.aload_n 0), (.getfield 171, 11, 11, 11, 1, 380)]
theorem oX11_show_10 : okB mX11_show 10 bX11_show_10 = true := by decide +kernel
theorem eX11_show_14 : decode mX11_show.2.1 14 = .ok (.ifCond .ne 29, 3) := by decide +kernel
def bX11_show_17 : List OP := [oi (.aload_n 0), (.getfield 37, 4, 11, 4, 2, 373), oi (.aload_n 0), (.getfield 23, 2, 11, 2, 2, 371), oi (.aload_n 0), (.getfield 30, 3, 11, 3, 2, 372), oi (.aload_n 0), (.getfield 7, 0, 11, 0, 2, 369), oi (.iconst 2), oi .iaload]
theorem oX11_show_17 : okB mX11_show 17 bX11_show_17 = true := by decide +kernel
theorem eX11_show_35 : decode mX11_show.2.1 35 = .ok (.invokevirtual 178, 3) := by decide +kernel
theorem lX11_show_35 : okL 626 (.methodLink mX11_show.1.cls 178 mX9_run.1) = true := by decide +kernel
def bX11_show_38 : List OP := [oi (.aload_n 0), oi (.iconst 1), (.putfield 171, 11, 11, 11, 1, 380)]
theorem oX11_show_38 : okB mX11_show 38 bX11_show_38 = true := by decide +kernel
def bX11_show_43 : List OP := [oi (.aload_n 0), (.getfield 37, 4, 11, 4, 2, 373), oi (.iload_n 1)]
theorem oX11_show_43 : okB mX11_show 43 bX11_show_43 = true := by decide +kernel
theorem eX11_show_48 : decode mX11_show.2.1 48 = .ok (.invokevirtual 182, 3) := by decide +kernel
theorem lX11_show_48 : okL 659 (.methodLink mX11_show.1.cls 182 mX9_answer.1) = true := by decide +kernel
theorem eX11_show_51 : decode mX11_show.2.1 51 = .ok (.ireturn, 1) := by decide +kernel
def bX11_best_0 : List OP := [oi (.iload_n 1)]
theorem oX11_best_0 : okB mX11_best 0 bX11_best_0 = true := by decide +kernel
theorem eX11_best_1 : decode mX11_best.2.1 1 = .ok (.invokestatic 175, 3) := by decide +kernel
theorem lX11_best_1 : okL 623 (.methodLink mX11_best.1.cls 175 mX9_tells.1) = true := by decide +kernel
theorem eX11_best_4 : decode mX11_best.2.1 4 = .ok (.ifCond .ne 6, 3) := by decide +kernel
def bX11_best_7 : List OP := [oi (.bipush (-2))]
theorem oX11_best_7 : okB mX11_best 7 bX11_best_7 = true := by decide +kernel
theorem eX11_best_9 : decode mX11_best.2.1 9 = .ok (.ireturn, 1) := by decide +kernel
def bX11_best_10 : List OP := [oi (.aload_n 0), (.getfield 185, 12, 11, 12, 1, 381)]
theorem oX11_best_10 : okB mX11_best 10 bX11_best_10 = true := by decide +kernel
theorem eX11_best_14 : decode mX11_best.2.1 14 = .ok (.ifCond .ne 25, 3) := by decide +kernel
def bX11_best_17 : List OP := [oi (.aload_n 0), (.getfield 44, 5, 11, 5, 2, 374), oi (.aload_n 0), (.getfield 23, 2, 11, 2, 2, 371), oi (.aload_n 0), (.getfield 7, 0, 11, 0, 2, 369), oi (.iconst 2), oi .iaload]
theorem oX11_best_17 : okB mX11_best 17 bX11_best_17 = true := by decide +kernel
theorem eX11_best_31 : decode mX11_best.2.1 31 = .ok (.invokevirtual 188, 3) := by decide +kernel
theorem lX11_best_31 : okL 668 (.methodLink mX11_best.1.cls 188 mX0_seek.1) = true := by decide +kernel
def bX11_best_34 : List OP := [oi (.aload_n 0), oi (.iconst 1), (.putfield 185, 12, 11, 12, 1, 381)]
theorem oX11_best_34 : okB mX11_best 34 bX11_best_34 = true := by decide +kernel
def bX11_best_39 : List OP := [oi (.aload_n 0), (.getfield 44, 5, 11, 5, 2, 374), (.getfield 192, 0, 0, 0, 2, 243), oi (.iload_n 1)]
theorem oX11_best_39 : okB mX11_best 39 bX11_best_39 = true := by decide +kernel
theorem eX11_best_47 : decode mX11_best.2.1 47 = .ok (.invokevirtual 182, 3) := by decide +kernel
theorem lX11_best_47 : okL 659 (.methodLink mX11_best.1.cls 182 mX9_answer.1) = true := by decide +kernel
theorem eX11_best_50 : decode mX11_best.2.1 50 = .ok (.ireturn, 1) := by decide +kernel
def bX11_town_0 : List OP := [oi (.iload_n 1), oi (.iconst 0), oi (.iconst 3)]
theorem oX11_town_0 : okB mX11_town 0 bX11_town_0 = true := by decide +kernel
theorem eX11_town_3 : decode mX11_town.2.1 3 = .ok (.invokestatic 95, 3) := by decide +kernel
theorem lX11_town_3 : okL 425 (.methodLink mX11_town.1.cls 95 mX11_between.1) = true := by decide +kernel
theorem eX11_town_6 : decode mX11_town.2.1 6 = .ok (.ifCond .ne 5, 3) := by decide +kernel
def bX11_town_9 : List OP := [oi (.iconst (-1))]
theorem oX11_town_9 : okB mX11_town 9 bX11_town_9 = true := by decide +kernel
theorem eX11_town_10 : decode mX11_town.2.1 10 = .ok (.ireturn, 1) := by decide +kernel
def bX11_town_11 : List OP := [oi (.iload_n 2), oi (.iconst 0), oi (.iconst 1)]
theorem oX11_town_11 : okB mX11_town 11 bX11_town_11 = true := by decide +kernel
theorem eX11_town_14 : decode mX11_town.2.1 14 = .ok (.invokestatic 95, 3) := by decide +kernel
theorem lX11_town_14 : okL 425 (.methodLink mX11_town.1.cls 95 mX11_between.1) = true := by decide +kernel
theorem eX11_town_17 : decode mX11_town.2.1 17 = .ok (.ifCond .eq 13, 3) := by decide +kernel
def bX11_town_20 : List OP := [oi (.iload_n 3), oi (.iconst 0), oi (.bipush 100)]
theorem oX11_town_20 : okB mX11_town 20 bX11_town_20 = true := by decide +kernel
theorem eX11_town_24 : decode mX11_town.2.1 24 = .ok (.invokestatic 95, 3) := by decide +kernel
theorem lX11_town_24 : okL 425 (.methodLink mX11_town.1.cls 95 mX11_between.1) = true := by decide +kernel
theorem eX11_town_27 : decode mX11_town.2.1 27 = .ok (.ifCond .ne 6, 3) := by decide +kernel
def bX11_town_30 : List OP := [oi (.bipush (-2))]
theorem oX11_town_30 : okB mX11_town 30 bX11_town_30 = true := by decide +kernel
theorem eX11_town_32 : decode mX11_town.2.1 32 = .ok (.ireturn, 1) := by decide +kernel
def bX11_town_33 : List OP := [oi (.iload_n 2)]
theorem oX11_town_33 : okB mX11_town 33 bX11_town_33 = true := by decide +kernel
theorem eX11_town_34 : decode mX11_town.2.1 34 = .ok (.ifCond .ne 15, 3) := by decide +kernel
def bX11_town_37 : List OP := [oi (.aload_n 0), (.getfield 51, 6, 11, 6, 2, 375), oi (.iload_n 1), oi (.iload_n 3)]
theorem oX11_town_37 : okB mX11_town 37 bX11_town_37 = true := by decide +kernel
theorem eX11_town_43 : decode mX11_town.2.1 43 = .ok (.invokevirtual 195, 3) := by decide +kernel
theorem lX11_town_43 : okL 713 (.methodLink mX11_town.1.cls 195 mX10_changeRoom.1) = true := by decide +kernel
def bX11_town_46 : List OP := [(.goto 12, 0, 0, 58, 0, 0)]
theorem oX11_town_46 : okB mX11_town 46 bX11_town_46 = true := by decide +kernel
def bX11_town_49 : List OP := [oi (.aload_n 0), (.getfield 51, 6, 11, 6, 2, 375), oi (.iload_n 1), oi (.iload_n 3)]
theorem oX11_town_49 : okB mX11_town 49 bX11_town_49 = true := by decide +kernel
theorem eX11_town_55 : decode mX11_town.2.1 55 = .ok (.invokevirtual 199, 3) := by decide +kernel
theorem lX11_town_55 : okL 717 (.methodLink mX11_town.1.cls 199 mX10_changeFar.1) = true := by decide +kernel
theorem eX11_town_58 : decode mX11_town.2.1 58 = .ok (.ireturn, 1) := by decide +kernel
def bX11_weight_0 : List OP := [oi (.iload_n 1)]
theorem oX11_weight_0 : okB mX11_weight 0 bX11_weight_0 = true := by decide +kernel
theorem eX11_weight_1 : decode mX11_weight.2.1 1 = .ok (.invokestatic 202, 3) := by decide +kernel
theorem lX11_weight_1 : okL 725 (.methodLink mX11_weight.1.cls 202 mX11_isFilm.1) = true := by decide +kernel
theorem eX11_weight_4 : decode mX11_weight.2.1 4 = .ok (.ifCond .ne 5, 3) := by decide +kernel
def bX11_weight_7 : List OP := [oi (.iconst (-1))]
theorem oX11_weight_7 : okB mX11_weight 7 bX11_weight_7 = true := by decide +kernel
theorem eX11_weight_8 : decode mX11_weight.2.1 8 = .ok (.ireturn, 1) := by decide +kernel
def bX11_weight_9 : List OP := [oi (.iload_n 2), oi (.iconst 1), oi (.bipush 50)]
theorem oX11_weight_9 : okB mX11_weight 9 bX11_weight_9 = true := by decide +kernel
theorem eX11_weight_13 : decode mX11_weight.2.1 13 = .ok (.invokestatic 95, 3) := by decide +kernel
theorem lX11_weight_13 : okL 425 (.methodLink mX11_weight.1.cls 95 mX11_between.1) = true := by decide +kernel
theorem eX11_weight_16 : decode mX11_weight.2.1 16 = .ok (.ifCond .ne 6, 3) := by decide +kernel
def bX11_weight_19 : List OP := [oi (.bipush (-2))]
theorem oX11_weight_19 : okB mX11_weight 19 bX11_weight_19 = true := by decide +kernel
theorem eX11_weight_21 : decode mX11_weight.2.1 21 = .ok (.ireturn, 1) := by decide +kernel
def bX11_weight_22 : List OP := [oi (.aload_n 0), (.getfield 51, 6, 11, 6, 2, 375), oi (.iload_n 1), oi (.iload_n 2)]
theorem oX11_weight_22 : okB mX11_weight 22 bX11_weight_22 = true := by decide +kernel
theorem eX11_weight_28 : decode mX11_weight.2.1 28 = .ok (.invokevirtual 205, 3) := by decide +kernel
theorem lX11_weight_28 : okL 728 (.methodLink mX11_weight.1.cls 205 mX10_changeWeight.1) = true := by decide +kernel
theorem eX11_weight_31 : decode mX11_weight.2.1 31 = .ok (.ireturn, 1) := by decide +kernel
def bX11_ask_0 : List OP := [oi (.iload_n 1), oi (.iconst 0), oi (.iconst 3)]
theorem oX11_ask_0 : okB mX11_ask 0 bX11_ask_0 = true := by decide +kernel
theorem eX11_ask_3 : decode mX11_ask.2.1 3 = .ok (.invokestatic 95, 3) := by decide +kernel
theorem lX11_ask_3 : okL 425 (.methodLink mX11_ask.1.cls 95 mX11_between.1) = true := by decide +kernel
theorem eX11_ask_6 : decode mX11_ask.2.1 6 = .ok (.ifCond .eq 10, 3) := by decide +kernel
def bX11_ask_9 : List OP := [oi (.iload_n 2)]
theorem oX11_ask_9 : okB mX11_ask 9 bX11_ask_9 = true := by decide +kernel
theorem eX11_ask_10 : decode mX11_ask.2.1 10 = .ok (.invokestatic 202, 3) := by decide +kernel
theorem lX11_ask_10 : okL 725 (.methodLink mX11_ask.1.cls 202 mX11_isFilm.1) = true := by decide +kernel
theorem eX11_ask_13 : decode mX11_ask.2.1 13 = .ok (.ifCond .ne 5, 3) := by decide +kernel
def bX11_ask_16 : List OP := [oi (.iconst (-1))]
theorem oX11_ask_16 : okB mX11_ask 16 bX11_ask_16 = true := by decide +kernel
theorem eX11_ask_17 : decode mX11_ask.2.1 17 = .ok (.ireturn, 1) := by decide +kernel
def bX11_ask_18 : List OP := [oi (.iload_n 3), oi (.iconst 0), oi (.sipush 1000)]
theorem oX11_ask_18 : okB mX11_ask 18 bX11_ask_18 = true := by decide +kernel
theorem eX11_ask_23 : decode mX11_ask.2.1 23 = .ok (.invokestatic 95, 3) := by decide +kernel
theorem lX11_ask_23 : okL 425 (.methodLink mX11_ask.1.cls 95 mX11_between.1) = true := by decide +kernel
theorem eX11_ask_26 : decode mX11_ask.2.1 26 = .ok (.ifCond .ne 6, 3) := by decide +kernel
def bX11_ask_29 : List OP := [oi (.bipush (-2))]
theorem oX11_ask_29 : okB mX11_ask 29 bX11_ask_29 = true := by decide +kernel
theorem eX11_ask_31 : decode mX11_ask.2.1 31 = .ok (.ireturn, 1) := by decide +kernel
def bX11_ask_32 : List OP := [oi (.aload_n 0), (.getfield 51, 6, 11, 6, 2, 375), oi (.iload_n 1), oi (.iload_n 2), oi (.iload_n 3)]
theorem oX11_ask_32 : okB mX11_ask 32 bX11_ask_32 = true := by decide +kernel
theorem eX11_ask_39 : decode mX11_ask.2.1 39 = .ok (.invokevirtual 208, 3) := by decide +kernel
theorem lX11_ask_39 : okL 736 (.methodLink mX11_ask.1.cls 208 mX10_changeAsks.1) = true := by decide +kernel
theorem eX11_ask_42 : decode mX11_ask.2.1 42 = .ok (.ireturn, 1) := by decide +kernel
def bX11_kept_0 : List OP := [oi (.iload_n 1), oi (.iconst 0), oi (.iconst 3)]
theorem oX11_kept_0 : okB mX11_kept 0 bX11_kept_0 = true := by decide +kernel
theorem eX11_kept_3 : decode mX11_kept.2.1 3 = .ok (.invokestatic 95, 3) := by decide +kernel
theorem lX11_kept_3 : okL 425 (.methodLink mX11_kept.1.cls 95 mX11_between.1) = true := by decide +kernel
theorem eX11_kept_6 : decode mX11_kept.2.1 6 = .ok (.ifCond .ne 5, 3) := by decide +kernel
def bX11_kept_9 : List OP := [oi (.iconst (-1))]
theorem oX11_kept_9 : okB mX11_kept 9 bX11_kept_9 = true := by decide +kernel
theorem eX11_kept_10 : decode mX11_kept.2.1 10 = .ok (.ireturn, 1) := by decide +kernel
def bX11_kept_11 : List OP := [oi (.iload_n 2), oi (.iconst 0), oi (.iconst 1)]
theorem oX11_kept_11 : okB mX11_kept 11 bX11_kept_11 = true := by decide +kernel
theorem eX11_kept_14 : decode mX11_kept.2.1 14 = .ok (.invokestatic 95, 3) := by decide +kernel
theorem lX11_kept_14 : okL 425 (.methodLink mX11_kept.1.cls 95 mX11_between.1) = true := by decide +kernel
theorem eX11_kept_17 : decode mX11_kept.2.1 17 = .ok (.ifCond .ne 6, 3) := by decide +kernel
def bX11_kept_20 : List OP := [oi (.bipush (-2))]
theorem oX11_kept_20 : okB mX11_kept 20 bX11_kept_20 = true := by decide +kernel
theorem eX11_kept_22 : decode mX11_kept.2.1 22 = .ok (.ireturn, 1) := by decide +kernel
def bX11_kept_23 : List OP := [oi (.aload_n 0), (.getfield 51, 6, 11, 6, 2, 375), oi (.iload_n 1)]
theorem oX11_kept_23 : okB mX11_kept 23 bX11_kept_23 = true := by decide +kernel
theorem eX11_kept_28 : decode mX11_kept.2.1 28 = .ok (.invokevirtual 211, 3) := by decide +kernel
theorem lX11_kept_28 : okL 744 (.methodLink mX11_kept.1.cls 211 mX10_bestFilms.1) = true := by decide +kernel
def bX11_kept_31 : List OP := [oi (.istore_n 3), oi (.iload_n 2)]
theorem oX11_kept_31 : okB mX11_kept 31 bX11_kept_31 = true := by decide +kernel
theorem eX11_kept_33 : decode mX11_kept.2.1 33 = .ok (.ifCond .ne 7, 3) := by decide +kernel
def bX11_kept_36 : List OP := [oi (.iload_n 3), (.goto 12, 0, 0, 49, 0, 0)]
theorem oX11_kept_36 : okB mX11_kept 36 bX11_kept_36 = true := by decide +kernel
def bX11_kept_40 : List OP := [oi (.aload_n 0), (.getfield 51, 6, 11, 6, 2, 375), oi (.iload_n 1), oi (.iload_n 3)]
theorem oX11_kept_40 : okB mX11_kept 40 bX11_kept_40 = true := by decide +kernel
theorem eX11_kept_46 : decode mX11_kept.2.1 46 = .ok (.invokevirtual 214, 3) := by decide +kernel
theorem lX11_kept_46 : okL 756 (.methodLink mX11_kept.1.cls 214 mX10_costOf.1) = true := by decide +kernel
theorem eX11_kept_49 : decode mX11_kept.2.1 49 = .ok (.ireturn, 1) := by decide +kernel
def bX11_right_0 : List OP := [oi (.iload_n 1)]
theorem oX11_right_0 : okB mX11_right 0 bX11_right_0 = true := by decide +kernel
theorem eX11_right_1 : decode mX11_right.2.1 1 = .ok (.invokestatic 202, 3) := by decide +kernel
theorem lX11_right_1 : okL 725 (.methodLink mX11_right.1.cls 202 mX11_isFilm.1) = true := by decide +kernel
theorem eX11_right_4 : decode mX11_right.2.1 4 = .ok (.ifCond .eq 12, 3) := by decide +kernel
def bX11_right_7 : List OP := [oi (.iload_n 2), oi (.iconst 0), oi (.iconst 3)]
theorem oX11_right_7 : okB mX11_right 7 bX11_right_7 = true := by decide +kernel
theorem eX11_right_10 : decode mX11_right.2.1 10 = .ok (.invokestatic 95, 3) := by decide +kernel
theorem lX11_right_10 : okL 425 (.methodLink mX11_right.1.cls 95 mX11_between.1) = true := by decide +kernel
theorem eX11_right_13 : decode mX11_right.2.1 13 = .ok (.ifCond .ne 5, 3) := by decide +kernel
def bX11_right_16 : List OP := [oi (.iconst (-1))]
theorem oX11_right_16 : okB mX11_right 16 bX11_right_16 = true := by decide +kernel
theorem eX11_right_17 : decode mX11_right.2.1 17 = .ok (.ireturn, 1) := by decide +kernel
def bX11_right_18 : List OP := [oi (.iload_n 3), oi (.iconst 0), oi (.sipush 999)]
theorem oX11_right_18 : okB mX11_right 18 bX11_right_18 = true := by decide +kernel
theorem eX11_right_23 : decode mX11_right.2.1 23 = .ok (.invokestatic 95, 3) := by decide +kernel
theorem lX11_right_23 : okL 425 (.methodLink mX11_right.1.cls 95 mX11_between.1) = true := by decide +kernel
theorem eX11_right_26 : decode mX11_right.2.1 26 = .ok (.ifCond .eq 26, 3) := by decide +kernel
def bX11_right_29 : List OP := [oi (.iload 4), oi (.iload_n 3), oi (.sipush 999)]
theorem oX11_right_29 : okB mX11_right 29 bX11_right_29 = true := by decide +kernel
theorem eX11_right_35 : decode mX11_right.2.1 35 = .ok (.invokestatic 95, 3) := by decide +kernel
theorem lX11_right_35 : okL 425 (.methodLink mX11_right.1.cls 95 mX11_between.1) = true := by decide +kernel
theorem eX11_right_38 : decode mX11_right.2.1 38 = .ok (.ifCond .eq 14, 3) := by decide +kernel
def bX11_right_41 : List OP := [oi (.iload 5), oi (.iconst 1), oi (.bipush 20)]
theorem oX11_right_41 : okB mX11_right 41 bX11_right_41 = true := by decide +kernel
theorem eX11_right_46 : decode mX11_right.2.1 46 = .ok (.invokestatic 95, 3) := by decide +kernel
theorem lX11_right_46 : okL 425 (.methodLink mX11_right.1.cls 95 mX11_between.1) = true := by decide +kernel
theorem eX11_right_49 : decode mX11_right.2.1 49 = .ok (.ifCond .ne 6, 3) := by decide +kernel
def bX11_right_52 : List OP := [oi (.bipush (-2))]
theorem oX11_right_52 : okB mX11_right 52 bX11_right_52 = true := by decide +kernel
theorem eX11_right_54 : decode mX11_right.2.1 54 = .ok (.ireturn, 1) := by decide +kernel
def bX11_right_55 : List OP := [oi (.aload_n 0), (.getfield 58, 7, 11, 7, 2, 376), (.getfield 217, 5, 7, 5, 0, 308), oi (.bipush 12)]
theorem oX11_right_55 : okB mX11_right 55 bX11_right_55 = true := by decide +kernel
theorem eX11_right_64 : decode mX11_right.2.1 64 = .ok (.if_icmp .ne 6, 3) := by decide +kernel
def bX11_right_67 : List OP := [oi (.bipush (-4))]
theorem oX11_right_67 : okB mX11_right 67 bX11_right_67 = true := by decide +kernel
theorem eX11_right_69 : decode mX11_right.2.1 69 = .ok (.ireturn, 1) := by decide +kernel
def bX11_right_70 : List OP := [oi (.aload_n 0), (.getfield 58, 7, 11, 7, 2, 376), oi (.iload_n 1), oi (.iload_n 2), oi (.iload_n 3), oi (.iload 4), oi (.iload 5)]
theorem oX11_right_70 : okB mX11_right 70 bX11_right_70 = true := by decide +kernel
theorem eX11_right_81 : decode mX11_right.2.1 81 = .ok (.invokevirtual 218, 3) := by decide +kernel
theorem lX11_right_81 : okL 761 (.methodLink mX11_right.1.cls 218 mX7_add.1) = true := by decide +kernel
theorem eX11_right_84 : decode mX11_right.2.1 84 = .ok (.ireturn, 1) := by decide +kernel
def bX11_land_0 : List OP := [oi (.iload_n 1)]
theorem oX11_land_0 : okB mX11_land 0 bX11_land_0 = true := by decide +kernel
theorem eX11_land_1 : decode mX11_land.2.1 1 = .ok (.invokestatic 221, 3) := by decide +kernel
theorem lX11_land_1 : okL 769 (.methodLink mX11_land.1.cls 221 mX11_isSeer.1) = true := by decide +kernel
theorem eX11_land_4 : decode mX11_land.2.1 4 = .ok (.ifCond .eq 12, 3) := by decide +kernel
def bX11_land_7 : List OP := [oi (.iload_n 2), oi (.iconst 0), oi (.iconst 3)]
theorem oX11_land_7 : okB mX11_land 7 bX11_land_7 = true := by decide +kernel
theorem eX11_land_10 : decode mX11_land.2.1 10 = .ok (.invokestatic 95, 3) := by decide +kernel
theorem lX11_land_10 : okL 425 (.methodLink mX11_land.1.cls 95 mX11_between.1) = true := by decide +kernel
theorem eX11_land_13 : decode mX11_land.2.1 13 = .ok (.ifCond .ne 5, 3) := by decide +kernel
def bX11_land_16 : List OP := [oi (.iconst (-1))]
theorem oX11_land_16 : okB mX11_land 16 bX11_land_16 = true := by decide +kernel
theorem eX11_land_17 : decode mX11_land.2.1 17 = .ok (.ireturn, 1) := by decide +kernel
def bX11_land_18 : List OP := [oi (.aload_n 0), (.getfield 58, 7, 11, 7, 2, 376), oi (.iload_n 1), oi (.iload_n 2)]
theorem oX11_land_18 : okB mX11_land 18 bX11_land_18 = true := by decide +kernel
theorem eX11_land_24 : decode mX11_land.2.1 24 = .ok (.invokevirtual 224, 3) := by decide +kernel
theorem lX11_land_24 : okL 772 (.methodLink mX11_land.1.cls 224 mX7_changeLand.1) = true := by decide +kernel
theorem eX11_land_27 : decode mX11_land.2.1 27 = .ok (.ireturn, 1) := by decide +kernel
def bX11_may_0 : List OP := [oi (.iload_n 1)]
theorem oX11_may_0 : okB mX11_may 0 bX11_may_0 = true := by decide +kernel
theorem eX11_may_1 : decode mX11_may.2.1 1 = .ok (.invokestatic 221, 3) := by decide +kernel
theorem lX11_may_1 : okL 769 (.methodLink mX11_may.1.cls 221 mX11_isSeer.1) = true := by decide +kernel
theorem eX11_may_4 : decode mX11_may.2.1 4 = .ok (.ifCond .eq 10, 3) := by decide +kernel
def bX11_may_7 : List OP := [oi (.iload_n 2)]
theorem oX11_may_7 : okB mX11_may 7 bX11_may_7 = true := by decide +kernel
theorem eX11_may_8 : decode mX11_may.2.1 8 = .ok (.invokestatic 202, 3) := by decide +kernel
theorem lX11_may_8 : okL 725 (.methodLink mX11_may.1.cls 202 mX11_isFilm.1) = true := by decide +kernel
theorem eX11_may_11 : decode mX11_may.2.1 11 = .ok (.ifCond .ne 5, 3) := by decide +kernel
def bX11_may_14 : List OP := [oi (.iconst (-1))]
theorem oX11_may_14 : okB mX11_may 14 bX11_may_14 = true := by decide +kernel
theorem eX11_may_15 : decode mX11_may.2.1 15 = .ok (.ireturn, 1) := by decide +kernel
def bX11_may_16 : List OP := [oi (.iload_n 3), oi (.iconst 0), oi (.sipush 999)]
theorem oX11_may_16 : okB mX11_may 16 bX11_may_16 = true := by decide +kernel
theorem eX11_may_21 : decode mX11_may.2.1 21 = .ok (.invokestatic 95, 3) := by decide +kernel
theorem lX11_may_21 : okL 425 (.methodLink mX11_may.1.cls 95 mX11_between.1) = true := by decide +kernel
theorem eX11_may_24 : decode mX11_may.2.1 24 = .ok (.ifCond .ne 6, 3) := by decide +kernel
def bX11_may_27 : List OP := [oi (.bipush (-2))]
theorem oX11_may_27 : okB mX11_may 27 bX11_may_27 = true := by decide +kernel
theorem eX11_may_29 : decode mX11_may.2.1 29 = .ok (.ireturn, 1) := by decide +kernel
def bX11_may_30 : List OP := [oi (.aload_n 0), (.getfield 58, 7, 11, 7, 2, 376), oi (.iload_n 1), oi (.iload_n 2), oi (.iload_n 3)]
theorem oX11_may_30 : okB mX11_may 30 bX11_may_30 = true := by decide +kernel
theorem eX11_may_37 : decode mX11_may.2.1 37 = .ok (.invokevirtual 227, 3) := by decide +kernel
theorem lX11_may_37 : okL 780 (.methodLink mX11_may.1.cls 227 mX7_allow.1) = true := by decide +kernel
theorem eX11_may_40 : decode mX11_may.2.1 40 = .ok (.ifCond .eq 7, 3) := by decide +kernel
def bX11_may_43 : List OP := [oi (.iconst 1), (.goto 4, 0, 0, 48, 0, 0)]
theorem oX11_may_43 : okB mX11_may 43 bX11_may_43 = true := by decide +kernel
def bX11_may_47 : List OP := [oi (.iconst 0)]
theorem oX11_may_47 : okB mX11_may 47 bX11_may_47 = true := by decide +kernel
theorem eX11_may_48 : decode mX11_may.2.1 48 = .ok (.ireturn, 1) := by decide +kernel
def bX11_see_0 : List OP := [oi (.iload_n 1)]
theorem oX11_see_0 : okB mX11_see 0 bX11_see_0 = true := by decide +kernel
theorem eX11_see_1 : decode mX11_see.2.1 1 = .ok (.invokestatic 221, 3) := by decide +kernel
theorem lX11_see_1 : okL 769 (.methodLink mX11_see.1.cls 221 mX11_isSeer.1) = true := by decide +kernel
theorem eX11_see_4 : decode mX11_see.2.1 4 = .ok (.ifCond .eq 10, 3) := by decide +kernel
def bX11_see_7 : List OP := [oi (.iload_n 2)]
theorem oX11_see_7 : okB mX11_see 7 bX11_see_7 = true := by decide +kernel
theorem eX11_see_8 : decode mX11_see.2.1 8 = .ok (.invokestatic 202, 3) := by decide +kernel
theorem lX11_see_8 : okL 725 (.methodLink mX11_see.1.cls 202 mX11_isFilm.1) = true := by decide +kernel
theorem eX11_see_11 : decode mX11_see.2.1 11 = .ok (.ifCond .ne 5, 3) := by decide +kernel
def bX11_see_14 : List OP := [oi (.iconst (-1))]
theorem oX11_see_14 : okB mX11_see 14 bX11_see_14 = true := by decide +kernel
theorem eX11_see_15 : decode mX11_see.2.1 15 = .ok (.ireturn, 1) := by decide +kernel
def bX11_see_16 : List OP := [oi (.iload_n 3), oi (.iconst 0), oi (.sipush 999)]
theorem oX11_see_16 : okB mX11_see 16 bX11_see_16 = true := by decide +kernel
theorem eX11_see_21 : decode mX11_see.2.1 21 = .ok (.invokestatic 95, 3) := by decide +kernel
theorem lX11_see_21 : okL 425 (.methodLink mX11_see.1.cls 95 mX11_between.1) = true := by decide +kernel
theorem eX11_see_24 : decode mX11_see.2.1 24 = .ok (.ifCond .eq 26, 3) := by decide +kernel
def bX11_see_27 : List OP := [oi (.iload 4), oi (.iconst 0), oi (.bipush 59)]
theorem oX11_see_27 : okB mX11_see 27 bX11_see_27 = true := by decide +kernel
theorem eX11_see_32 : decode mX11_see.2.1 32 = .ok (.invokestatic 95, 3) := by decide +kernel
theorem lX11_see_32 : okL 425 (.methodLink mX11_see.1.cls 95 mX11_between.1) = true := by decide +kernel
theorem eX11_see_35 : decode mX11_see.2.1 35 = .ok (.ifCond .eq 15, 3) := by decide +kernel
def bX11_see_38 : List OP := [oi (.iload 5), oi (.iload 4), oi (.bipush 59)]
theorem oX11_see_38 : okB mX11_see 38 bX11_see_38 = true := by decide +kernel
theorem eX11_see_44 : decode mX11_see.2.1 44 = .ok (.invokestatic 95, 3) := by decide +kernel
theorem lX11_see_44 : okL 425 (.methodLink mX11_see.1.cls 95 mX11_between.1) = true := by decide +kernel
theorem eX11_see_47 : decode mX11_see.2.1 47 = .ok (.ifCond .ne 6, 3) := by decide +kernel
def bX11_see_50 : List OP := [oi (.bipush (-2))]
theorem oX11_see_50 : okB mX11_see 50 bX11_see_50 = true := by decide +kernel
theorem eX11_see_52 : decode mX11_see.2.1 52 = .ok (.ireturn, 1) := by decide +kernel
def bX11_see_53 : List OP := [oi (.aload_n 0), (.getfield 58, 7, 11, 7, 2, 376), oi (.iload_n 1), oi (.iload_n 2), oi (.iload_n 3)]
theorem oX11_see_53 : okB mX11_see 53 bX11_see_53 = true := by decide +kernel
theorem eX11_see_60 : decode mX11_see.2.1 60 = .ok (.invokevirtual 227, 3) := by decide +kernel
theorem lX11_see_60 : okL 780 (.methodLink mX11_see.1.cls 227 mX7_allow.1) = true := by decide +kernel
theorem eX11_see_63 : decode mX11_see.2.1 63 = .ok (.ifCond .ne 6, 3) := by decide +kernel
def bX11_see_66 : List OP := [oi (.bipush (-5))]
theorem oX11_see_66 : okB mX11_see 66 bX11_see_66 = true := by decide +kernel
theorem eX11_see_68 : decode mX11_see.2.1 68 = .ok (.ireturn, 1) := by decide +kernel
def bX11_see_69 : List OP := [oi (.aload_n 0), (.getfield 58, 7, 11, 7, 2, 376), oi (.iload_n 1), oi (.iload_n 2), oi (.iload 4), oi (.iload 5)]
theorem oX11_see_69 : okB mX11_see 69 bX11_see_69 = true := by decide +kernel
theorem eX11_see_79 : decode mX11_see.2.1 79 = .ok (.invokevirtual 230, 3) := by decide +kernel
theorem lX11_see_79 : okL 792 (.methodLink mX11_see.1.cls 230 mX7_addSeeing.1) = true := by decide +kernel
theorem eX11_see_82 : decode mX11_see.2.1 82 = .ok (.ireturn, 1) := by decide +kernel
def bX11_seen_0 : List OP := [oi (.iload_n 1)]
theorem oX11_seen_0 : okB mX11_seen 0 bX11_seen_0 = true := by decide +kernel
theorem eX11_seen_1 : decode mX11_seen.2.1 1 = .ok (.invokestatic 221, 3) := by decide +kernel
theorem lX11_seen_1 : okL 769 (.methodLink mX11_seen.1.cls 221 mX11_isSeer.1) = true := by decide +kernel
theorem eX11_seen_4 : decode mX11_seen.2.1 4 = .ok (.ifCond .eq 10, 3) := by decide +kernel
def bX11_seen_7 : List OP := [oi (.iload_n 2)]
theorem oX11_seen_7 : okB mX11_seen 7 bX11_seen_7 = true := by decide +kernel
theorem eX11_seen_8 : decode mX11_seen.2.1 8 = .ok (.invokestatic 202, 3) := by decide +kernel
theorem lX11_seen_8 : okL 725 (.methodLink mX11_seen.1.cls 202 mX11_isFilm.1) = true := by decide +kernel
theorem eX11_seen_11 : decode mX11_seen.2.1 11 = .ok (.ifCond .ne 5, 3) := by decide +kernel
def bX11_seen_14 : List OP := [oi (.iconst (-1))]
theorem oX11_seen_14 : okB mX11_seen 14 bX11_seen_14 = true := by decide +kernel
theorem eX11_seen_15 : decode mX11_seen.2.1 15 = .ok (.ireturn, 1) := by decide +kernel
def bX11_seen_16 : List OP := [oi (.iload_n 3), oi (.iconst 0), oi (.iconst 1)]
theorem oX11_seen_16 : okB mX11_seen 16 bX11_seen_16 = true := by decide +kernel
theorem eX11_seen_19 : decode mX11_seen.2.1 19 = .ok (.invokestatic 95, 3) := by decide +kernel
theorem lX11_seen_19 : okL 425 (.methodLink mX11_seen.1.cls 95 mX11_between.1) = true := by decide +kernel
theorem eX11_seen_22 : decode mX11_seen.2.1 22 = .ok (.ifCond .ne 6, 3) := by decide +kernel
def bX11_seen_25 : List OP := [oi (.bipush (-2))]
theorem oX11_seen_25 : okB mX11_seen 25 bX11_seen_25 = true := by decide +kernel
theorem eX11_seen_27 : decode mX11_seen.2.1 27 = .ok (.ireturn, 1) := by decide +kernel
def bX11_seen_28 : List OP := [oi (.iload_n 3)]
theorem oX11_seen_28 : okB mX11_seen 28 bX11_seen_28 = true := by decide +kernel
theorem eX11_seen_29 : decode mX11_seen.2.1 29 = .ok (.ifCond .ne 15, 3) := by decide +kernel
def bX11_seen_32 : List OP := [oi (.aload_n 0), (.getfield 58, 7, 11, 7, 2, 376), oi (.iload_n 1), oi (.iload_n 2)]
theorem oX11_seen_32 : okB mX11_seen 32 bX11_seen_32 = true := by decide +kernel
theorem eX11_seen_38 : decode mX11_seen.2.1 38 = .ok (.invokevirtual 234, 3) := by decide +kernel
theorem lX11_seen_38 : okL 807 (.methodLink mX11_seen.1.cls 234 mX7_secondsSeen.1) = true := by decide +kernel
def bX11_seen_41 : List OP := [(.goto 12, 0, 0, 53, 0, 0)]
theorem oX11_seen_41 : okB mX11_seen 41 bX11_seen_41 = true := by decide +kernel
def bX11_seen_44 : List OP := [oi (.aload_n 0), (.getfield 58, 7, 11, 7, 2, 376), oi (.iload_n 1), oi (.iload_n 2)]
theorem oX11_seen_44 : okB mX11_seen 44 bX11_seen_44 = true := by decide +kernel
theorem eX11_seen_50 : decode mX11_seen.2.1 50 = .ok (.invokevirtual 237, 3) := by decide +kernel
theorem lX11_seen_50 : okL 811 (.methodLink mX11_seen.1.cls 237 mX7_timesSeen.1) = true := by decide +kernel
theorem eX11_seen_53 : decode mX11_seen.2.1 53 = .ok (.ireturn, 1) := by decide +kernel
def bX11_owed_0 : List OP := [oi (.iload_n 1)]
theorem oX11_owed_0 : okB mX11_owed 0 bX11_owed_0 = true := by decide +kernel
theorem eX11_owed_1 : decode mX11_owed.2.1 1 = .ok (.invokestatic 202, 3) := by decide +kernel
theorem lX11_owed_1 : okL 725 (.methodLink mX11_owed.1.cls 202 mX11_isFilm.1) = true := by decide +kernel
theorem eX11_owed_4 : decode mX11_owed.2.1 4 = .ok (.ifCond .ne 5, 3) := by decide +kernel
def bX11_owed_7 : List OP := [oi (.iconst (-1))]
theorem oX11_owed_7 : okB mX11_owed 7 bX11_owed_7 = true := by decide +kernel
theorem eX11_owed_8 : decode mX11_owed.2.1 8 = .ok (.ireturn, 1) := by decide +kernel
def bX11_owed_9 : List OP := [oi (.aload_n 0), (.getfield 58, 7, 11, 7, 2, 376), oi (.iload_n 1), oi (.aload_n 0), (.getfield 7, 0, 11, 0, 2, 369), oi (.iconst 3), oi .iaload, oi (.aload_n 0), (.getfield 7, 0, 11, 0, 2, 369), oi (.iconst 4), oi .iaload]
theorem oX11_owed_9 : okB mX11_owed 9 bX11_owed_9 = true := by decide +kernel
theorem eX11_owed_26 : decode mX11_owed.2.1 26 = .ok (.invokevirtual 240, 3) := by decide +kernel
theorem lX11_owed_26 : okL 816 (.methodLink mX11_owed.1.cls 240 mX7_owedFor.1) = true := by decide +kernel
theorem eX11_owed_29 : decode mX11_owed.2.1 29 = .ok (.ireturn, 1) := by decide +kernel
def bX11_mark_0 : List OP := [oi (.iload_n 1)]
theorem oX11_mark_0 : okB mX11_mark 0 bX11_mark_0 = true := by decide +kernel
theorem eX11_mark_1 : decode mX11_mark.2.1 1 = .ok (.invokestatic 221, 3) := by decide +kernel
theorem lX11_mark_1 : okL 769 (.methodLink mX11_mark.1.cls 221 mX11_isSeer.1) = true := by decide +kernel
theorem eX11_mark_4 : decode mX11_mark.2.1 4 = .ok (.ifCond .ne 5, 3) := by decide +kernel
def bX11_mark_7 : List OP := [oi (.iconst (-1))]
theorem oX11_mark_7 : okB mX11_mark 7 bX11_mark_7 = true := by decide +kernel
theorem eX11_mark_8 : decode mX11_mark.2.1 8 = .ok (.ireturn, 1) := by decide +kernel
def bX11_mark_9 : List OP := [oi (.iload_n 2), oi (.iconst 0), oi (.sipush 255)]
theorem oX11_mark_9 : okB mX11_mark 9 bX11_mark_9 = true := by decide +kernel
theorem eX11_mark_14 : decode mX11_mark.2.1 14 = .ok (.invokestatic 95, 3) := by decide +kernel
theorem lX11_mark_14 : okL 425 (.methodLink mX11_mark.1.cls 95 mX11_between.1) = true := by decide +kernel
theorem eX11_mark_17 : decode mX11_mark.2.1 17 = .ok (.ifCond .ne 6, 3) := by decide +kernel
def bX11_mark_20 : List OP := [oi (.bipush (-2))]
theorem oX11_mark_20 : okB mX11_mark 20 bX11_mark_20 = true := by decide +kernel
theorem eX11_mark_22 : decode mX11_mark.2.1 22 = .ok (.ireturn, 1) := by decide +kernel
def bX11_mark_23 : List OP := [oi (.aload_n 0), (.getfield 65, 8, 11, 8, 2, 377), oi (.iload_n 1), oi (.iload_n 2)]
theorem oX11_mark_23 : okB mX11_mark 23 bX11_mark_23 = true := by decide +kernel
theorem eX11_mark_29 : decode mX11_mark.2.1 29 = .ok (.invokevirtual 243, 3) := by decide +kernel
theorem lX11_mark_29 : okL 826 (.methodLink mX11_mark.1.cls 243 mX5_change.1) = true := by decide +kernel
theorem eX11_mark_32 : decode mX11_mark.2.1 32 = .ok (.ireturn, 1) := by decide +kernel
def bX11_blame_0 : List OP := [oi (.iload_n 1), oi (.iconst 0), oi (.sipush 255)]
theorem oX11_blame_0 : okB mX11_blame 0 bX11_blame_0 = true := by decide +kernel
theorem eX11_blame_5 : decode mX11_blame.2.1 5 = .ok (.invokestatic 95, 3) := by decide +kernel
theorem lX11_blame_5 : okL 425 (.methodLink mX11_blame.1.cls 95 mX11_between.1) = true := by decide +kernel
theorem eX11_blame_8 : decode mX11_blame.2.1 8 = .ok (.ifCond .eq 14, 3) := by decide +kernel
def bX11_blame_11 : List OP := [oi (.iload_n 2), oi (.iconst 0), oi (.sipush 255)]
theorem oX11_blame_11 : okB mX11_blame 11 bX11_blame_11 = true := by decide +kernel
theorem eX11_blame_16 : decode mX11_blame.2.1 16 = .ok (.invokestatic 95, 3) := by decide +kernel
theorem lX11_blame_16 : okL 425 (.methodLink mX11_blame.1.cls 95 mX11_between.1) = true := by decide +kernel
theorem eX11_blame_19 : decode mX11_blame.2.1 19 = .ok (.ifCond .ne 6, 3) := by decide +kernel
def bX11_blame_22 : List OP := [oi (.bipush (-2))]
theorem oX11_blame_22 : okB mX11_blame 22 bX11_blame_22 = true := by decide +kernel
theorem eX11_blame_24 : decode mX11_blame.2.1 24 = .ok (.ireturn, 1) := by decide +kernel
def bX11_blame_25 : List OP := [oi (.iload_n 3)]
theorem oX11_blame_25 : okB mX11_blame 25 bX11_blame_25 = true := by decide +kernel
theorem eX11_blame_26 : decode mX11_blame.2.1 26 = .ok (.tableswitch 67 0 3 #[30, 40, 50, 60], 30) := by decide +kernel
def bX11_blame_56 : List OP := [oi (.aload_n 0), (.getfield 65, 8, 11, 8, 2, 377), oi (.iload_n 1), oi (.iload_n 2)]
theorem oX11_blame_56 : okB mX11_blame 56 bX11_blame_56 = true := by decide +kernel
theorem eX11_blame_62 : decode mX11_blame.2.1 62 = .ok (.invokevirtual 246, 3) := by decide +kernel
theorem lX11_blame_62 : okL 834 (.methodLink mX11_blame.1.cls 246 mX5_blamed.1) = true := by decide +kernel
theorem eX11_blame_65 : decode mX11_blame.2.1 65 = .ok (.ireturn, 1) := by decide +kernel
def bX11_blame_66 : List OP := [oi (.aload_n 0), (.getfield 65, 8, 11, 8, 2, 377), oi (.iload_n 1), oi (.iload_n 2)]
theorem oX11_blame_66 : okB mX11_blame 66 bX11_blame_66 = true := by decide +kernel
theorem eX11_blame_72 : decode mX11_blame.2.1 72 = .ok (.invokevirtual 249, 3) := by decide +kernel
theorem lX11_blame_72 : okL 842 (.methodLink mX11_blame.1.cls 249 mX5_pairs.1) = true := by decide +kernel
theorem eX11_blame_75 : decode mX11_blame.2.1 75 = .ok (.ireturn, 1) := by decide +kernel
def bX11_blame_76 : List OP := [oi (.aload_n 0), (.getfield 65, 8, 11, 8, 2, 377), oi (.iload_n 1), oi (.iload_n 2)]
theorem oX11_blame_76 : okB mX11_blame 76 bX11_blame_76 = true := by decide +kernel
theorem eX11_blame_82 : decode mX11_blame.2.1 82 = .ok (.invokevirtual 252, 3) := by decide +kernel
theorem lX11_blame_82 : okL 850 (.methodLink mX11_blame.1.cls 252 mX5_firstPair.1) = true := by decide +kernel
theorem eX11_blame_85 : decode mX11_blame.2.1 85 = .ok (.ireturn, 1) := by decide +kernel
def bX11_blame_86 : List OP := [oi (.iconst 1), oi (.iload_n 1)]
theorem oX11_blame_86 : okB mX11_blame 86 bX11_blame_86 = true := by decide +kernel
theorem eX11_blame_88 : decode mX11_blame.2.1 88 = .ok (.invokestatic 255, 3) := by decide +kernel
theorem lX11_blame_88 : okL 854 (.methodLink mX11_blame.1.cls 255 mJ6_bitCount.1) = true := by decide +kernel
def bX11_blame_91 : List OP := [oi .ishl]
theorem oX11_blame_91 : okB mX11_blame 91 bX11_blame_91 = true := by decide +kernel
theorem eX11_blame_92 : decode mX11_blame.2.1 92 = .ok (.ireturn, 1) := by decide +kernel
def bX11_blame_93 : List OP := [oi (.bipush (-2))]
theorem oX11_blame_93 : okB mX11_blame 93 bX11_blame_93 = true := by decide +kernel
theorem eX11_blame_95 : decode mX11_blame.2.1 95 = .ok (.ireturn, 1) := by decide +kernel
def bX11_put_0 : List OP := [oi (.iload_n 1), oi (.iconst 0), oi (.iconst 3)]
theorem oX11_put_0 : okB mX11_put 0 bX11_put_0 = true := by decide +kernel
theorem eX11_put_3 : decode mX11_put.2.1 3 = .ok (.invokestatic 95, 3) := by decide +kernel
theorem lX11_put_3 : okL 425 (.methodLink mX11_put.1.cls 95 mX11_between.1) = true := by decide +kernel
theorem eX11_put_6 : decode mX11_put.2.1 6 = .ok (.ifCond .ne 5, 3) := by decide +kernel
def bX11_put_9 : List OP := [oi (.iconst (-1))]
theorem oX11_put_9 : okB mX11_put 9 bX11_put_9 = true := by decide +kernel
theorem eX11_put_10 : decode mX11_put.2.1 10 = .ok (.ireturn, 1) := by decide +kernel
def bX11_put_11 : List OP := [oi (.iload_n 2), oi (.iconst 0), oi (.iconst 5)]
theorem oX11_put_11 : okB mX11_put 11 bX11_put_11 = true := by decide +kernel
theorem eX11_put_14 : decode mX11_put.2.1 14 = .ok (.invokestatic 95, 3) := by decide +kernel
theorem lX11_put_14 : okL 425 (.methodLink mX11_put.1.cls 95 mX11_between.1) = true := by decide +kernel
theorem eX11_put_17 : decode mX11_put.2.1 17 = .ok (.ifCond .eq 14, 3) := by decide +kernel
def bX11_put_20 : List OP := [oi (.iload_n 3), oi (.iconst 0), (.ldc_w 260, 65535, 0, 0, 0, 864)]
theorem oX11_put_20 : okB mX11_put 20 bX11_put_20 = true := by decide +kernel
theorem eX11_put_25 : decode mX11_put.2.1 25 = .ok (.invokestatic 95, 3) := by decide +kernel
theorem lX11_put_25 : okL 425 (.methodLink mX11_put.1.cls 95 mX11_between.1) = true := by decide +kernel
theorem eX11_put_28 : decode mX11_put.2.1 28 = .ok (.ifCond .ne 6, 3) := by decide +kernel
def bX11_put_31 : List OP := [oi (.bipush (-2))]
theorem oX11_put_31 : okB mX11_put 31 bX11_put_31 = true := by decide +kernel
theorem eX11_put_33 : decode mX11_put.2.1 33 = .ok (.ireturn, 1) := by decide +kernel
def bX11_put_34 : List OP := [oi (.aload_n 0), (.getfield 72, 9, 11, 9, 2, 378), oi (.iload_n 1), oi (.iload_n 2), oi (.iload_n 3)]
theorem oX11_put_34 : okB mX11_put 34 bX11_put_34 = true := by decide +kernel
theorem eX11_put_41 : decode mX11_put.2.1 41 = .ok (.invokevirtual 261, 3) := by decide +kernel
theorem lX11_put_41 : okL 865 (.methodLink mX11_put.1.cls 261 mX4_change.1) = true := by decide +kernel
theorem eX11_put_44 : decode mX11_put.2.1 44 = .ok (.ireturn, 1) := by decide +kernel
def bX11_sum_0 : List OP := [oi (.iload_n 1), oi (.iconst 0), oi (.iconst 3)]
theorem oX11_sum_0 : okB mX11_sum 0 bX11_sum_0 = true := by decide +kernel
theorem eX11_sum_3 : decode mX11_sum.2.1 3 = .ok (.invokestatic 95, 3) := by decide +kernel
theorem lX11_sum_3 : okL 425 (.methodLink mX11_sum.1.cls 95 mX11_between.1) = true := by decide +kernel
theorem eX11_sum_6 : decode mX11_sum.2.1 6 = .ok (.ifCond .ne 5, 3) := by decide +kernel
def bX11_sum_9 : List OP := [oi (.iconst (-1))]
theorem oX11_sum_9 : okB mX11_sum 9 bX11_sum_9 = true := by decide +kernel
theorem eX11_sum_10 : decode mX11_sum.2.1 10 = .ok (.ireturn, 1) := by decide +kernel
def bX11_sum_11 : List OP := [oi (.iload_n 2), oi (.iconst 0), oi (.iconst 1)]
theorem oX11_sum_11 : okB mX11_sum 11 bX11_sum_11 = true := by decide +kernel
theorem eX11_sum_14 : decode mX11_sum.2.1 14 = .ok (.invokestatic 95, 3) := by decide +kernel
theorem lX11_sum_14 : okL 425 (.methodLink mX11_sum.1.cls 95 mX11_between.1) = true := by decide +kernel
theorem eX11_sum_17 : decode mX11_sum.2.1 17 = .ok (.ifCond .ne 6, 3) := by decide +kernel
def bX11_sum_20 : List OP := [oi (.bipush (-2))]
theorem oX11_sum_20 : okB mX11_sum 20 bX11_sum_20 = true := by decide +kernel
theorem eX11_sum_22 : decode mX11_sum.2.1 22 = .ok (.ireturn, 1) := by decide +kernel
def bX11_sum_23 : List OP := [oi (.iload_n 2)]
theorem oX11_sum_23 : okB mX11_sum 23 bX11_sum_23 = true := by decide +kernel
theorem eX11_sum_24 : decode mX11_sum.2.1 24 = .ok (.ifCond .ne 14, 3) := by decide +kernel
def bX11_sum_27 : List OP := [oi (.aload_n 0), (.getfield 72, 9, 11, 9, 2, 378), oi (.iload_n 1)]
theorem oX11_sum_27 : okB mX11_sum 27 bX11_sum_27 = true := by decide +kernel
theorem eX11_sum_32 : decode mX11_sum.2.1 32 = .ok (.invokevirtual 263, 3) := by decide +kernel
theorem lX11_sum_32 : okL 873 (.methodLink mX11_sum.1.cls 263 mX4_plainSum.1) = true := by decide +kernel
def bX11_sum_35 : List OP := [(.goto 11, 0, 0, 46, 0, 0)]
theorem oX11_sum_35 : okB mX11_sum 35 bX11_sum_35 = true := by decide +kernel
def bX11_sum_38 : List OP := [oi (.aload_n 0), (.getfield 72, 9, 11, 9, 2, 378), oi (.iload_n 1)]
theorem oX11_sum_38 : okB mX11_sum 38 bX11_sum_38 = true := by decide +kernel
theorem eX11_sum_43 : decode mX11_sum.2.1 43 = .ok (.invokevirtual 266, 3) := by decide +kernel
theorem lX11_sum_43 : okL 881 (.methodLink mX11_sum.1.cls 266 mX4_placeSum.1) = true := by decide +kernel
theorem eX11_sum_46 : decode mX11_sum.2.1 46 = .ok (.ireturn, 1) := by decide +kernel
def bX11_restore_0 : List OP := [oi (.iload_n 1), oi (.iconst 0), oi (.iconst 3)]
theorem oX11_restore_0 : okB mX11_restore 0 bX11_restore_0 = true := by decide +kernel
theorem eX11_restore_3 : decode mX11_restore.2.1 3 = .ok (.invokestatic 95, 3) := by decide +kernel
theorem lX11_restore_3 : okL 425 (.methodLink mX11_restore.1.cls 95 mX11_between.1) = true := by decide +kernel
theorem eX11_restore_6 : decode mX11_restore.2.1 6 = .ok (.ifCond .ne 5, 3) := by decide +kernel
def bX11_restore_9 : List OP := [oi (.iconst (-1))]
theorem oX11_restore_9 : okB mX11_restore 9 bX11_restore_9 = true := by decide +kernel
theorem eX11_restore_10 : decode mX11_restore.2.1 10 = .ok (.ireturn, 1) := by decide +kernel
def bX11_restore_11 : List OP := [oi (.iload_n 2), oi (.iconst 0), oi (.sipush 255)]
theorem oX11_restore_11 : okB mX11_restore 11 bX11_restore_11 = true := by decide +kernel
theorem eX11_restore_16 : decode mX11_restore.2.1 16 = .ok (.invokestatic 95, 3) := by decide +kernel
theorem lX11_restore_16 : okL 425 (.methodLink mX11_restore.1.cls 95 mX11_between.1) = true := by decide +kernel
theorem eX11_restore_19 : decode mX11_restore.2.1 19 = .ok (.ifCond .eq 12, 3) := by decide +kernel
def bX11_restore_22 : List OP := [oi (.iload_n 3), oi (.iconst 0), oi (.iconst 5)]
theorem oX11_restore_22 : okB mX11_restore 22 bX11_restore_22 = true := by decide +kernel
theorem eX11_restore_25 : decode mX11_restore.2.1 25 = .ok (.invokestatic 95, 3) := by decide +kernel
theorem lX11_restore_25 : okL 425 (.methodLink mX11_restore.1.cls 95 mX11_between.1) = true := by decide +kernel
theorem eX11_restore_28 : decode mX11_restore.2.1 28 = .ok (.ifCond .ne 6, 3) := by decide +kernel
def bX11_restore_31 : List OP := [oi (.bipush (-2))]
theorem oX11_restore_31 : okB mX11_restore 31 bX11_restore_31 = true := by decide +kernel
theorem eX11_restore_33 : decode mX11_restore.2.1 33 = .ok (.ireturn, 1) := by decide +kernel
def bX11_restore_34 : List OP := [oi (.iload_n 2), oi (.iload_n 3), oi .ishr, oi (.iconst 1), oi .iand]
theorem oX11_restore_34 : okB mX11_restore 34 bX11_restore_34 = true := by decide +kernel
theorem eX11_restore_39 : decode mX11_restore.2.1 39 = .ok (.ifCond .ne 6, 3) := by decide +kernel
def bX11_restore_42 : List OP := [oi (.bipush (-5))]
theorem oX11_restore_42 : okB mX11_restore 42 bX11_restore_42 = true := by decide +kernel
theorem eX11_restore_44 : decode mX11_restore.2.1 44 = .ok (.ireturn, 1) := by decide +kernel
def bX11_restore_45 : List OP := [oi (.iload_n 2)]
theorem oX11_restore_45 : okB mX11_restore 45 bX11_restore_45 = true := by decide +kernel
theorem eX11_restore_46 : decode mX11_restore.2.1 46 = .ok (.invokestatic 269, 3) := by decide +kernel
theorem lX11_restore_46 : okL 889 (.methodLink mX11_restore.1.cls 269 mX4_restorable.1) = true := by decide +kernel
theorem eX11_restore_49 : decode mX11_restore.2.1 49 = .ok (.ifCond .eq 15, 3) := by decide +kernel
def bX11_restore_52 : List OP := [oi (.aload_n 0), (.getfield 72, 9, 11, 9, 2, 378), oi (.iload_n 1), oi (.iload_n 3)]
theorem oX11_restore_52 : okB mX11_restore 52 bX11_restore_52 = true := by decide +kernel
theorem eX11_restore_58 : decode mX11_restore.2.1 58 = .ok (.invokevirtual 272, 3) := by decide +kernel
theorem lX11_restore_58 : okL 893 (.methodLink mX11_restore.1.cls 272 mX4_numberAt.1) = true := by decide +kernel
def bX11_restore_61 : List OP := [(.goto 5, 0, 0, 66, 0, 0)]
theorem oX11_restore_61 : okB mX11_restore 61 bX11_restore_61 = true := by decide +kernel
def bX11_restore_64 : List OP := [oi (.bipush (-6))]
theorem oX11_restore_64 : okB mX11_restore 64 bX11_restore_64 = true := by decide +kernel
theorem eX11_restore_66 : decode mX11_restore.2.1 66 = .ok (.ireturn, 1) := by decide +kernel
def bX11_hang_0 : List OP := [oi (.iload_n 1)]
theorem oX11_hang_0 : okB mX11_hang 0 bX11_hang_0 = true := by decide +kernel
theorem eX11_hang_1 : decode mX11_hang.2.1 1 = .ok (.invokestatic 275, 3) := by decide +kernel
theorem lX11_hang_1 : okL 898 (.methodLink mX11_hang.1.cls 275 mX11_isNode.1) = true := by decide +kernel
theorem eX11_hang_4 : decode mX11_hang.2.1 4 = .ok (.ifCond .eq 10, 3) := by decide +kernel
def bX11_hang_7 : List OP := [oi (.iload_n 2)]
theorem oX11_hang_7 : okB mX11_hang 7 bX11_hang_7 = true := by decide +kernel
theorem eX11_hang_8 : decode mX11_hang.2.1 8 = .ok (.invokestatic 275, 3) := by decide +kernel
theorem lX11_hang_8 : okL 898 (.methodLink mX11_hang.1.cls 275 mX11_isNode.1) = true := by decide +kernel
theorem eX11_hang_11 : decode mX11_hang.2.1 11 = .ok (.ifCond .ne 5, 3) := by decide +kernel
def bX11_hang_14 : List OP := [oi (.iconst (-1))]
theorem oX11_hang_14 : okB mX11_hang 14 bX11_hang_14 = true := by decide +kernel
theorem eX11_hang_15 : decode mX11_hang.2.1 15 = .ok (.ireturn, 1) := by decide +kernel
def bX11_hang_16 : List OP := [oi (.iload_n 3), oi (.iconst 1), oi (.bipush 100)]
theorem oX11_hang_16 : okB mX11_hang 16 bX11_hang_16 = true := by decide +kernel
theorem eX11_hang_20 : decode mX11_hang.2.1 20 = .ok (.invokestatic 95, 3) := by decide +kernel
theorem lX11_hang_20 : okL 425 (.methodLink mX11_hang.1.cls 95 mX11_between.1) = true := by decide +kernel
theorem eX11_hang_23 : decode mX11_hang.2.1 23 = .ok (.ifCond .ne 6, 3) := by decide +kernel
def bX11_hang_26 : List OP := [oi (.bipush (-2))]
theorem oX11_hang_26 : okB mX11_hang 26 bX11_hang_26 = true := by decide +kernel
theorem eX11_hang_28 : decode mX11_hang.2.1 28 = .ok (.ireturn, 1) := by decide +kernel
def bX11_hang_29 : List OP := [oi (.aload_n 0), (.getfield 79, 10, 11, 10, 2, 379), (.getfield 278, 2, 6, 2, 2, 361), oi (.iload_n 1), oi .baload]
theorem oX11_hang_29 : okB mX11_hang 29 bX11_hang_29 = true := by decide +kernel
theorem eX11_hang_38 : decode mX11_hang.2.1 38 = .ok (.ifCond .ne 15, 3) := by decide +kernel
def bX11_hang_41 : List OP := [oi (.aload_n 0), (.getfield 79, 10, 11, 10, 2, 379), (.getfield 278, 2, 6, 2, 2, 361), oi (.iload_n 2), oi .baload]
theorem oX11_hang_41 : okB mX11_hang 41 bX11_hang_41 = true := by decide +kernel
theorem eX11_hang_50 : decode mX11_hang.2.1 50 = .ok (.ifCond .eq 6, 3) := by decide +kernel
def bX11_hang_53 : List OP := [oi (.bipush (-3))]
theorem oX11_hang_53 : okB mX11_hang 53 bX11_hang_53 = true := by decide +kernel
theorem eX11_hang_55 : decode mX11_hang.2.1 55 = .ok (.ireturn, 1) := by decide +kernel
def bX11_hang_56 : List OP := [oi (.iload_n 2), oi (.iload_n 1)]
theorem oX11_hang_56 : okB mX11_hang 56 bX11_hang_56 = true := by decide +kernel
theorem eX11_hang_58 : decode mX11_hang.2.1 58 = .ok (.if_icmp .lt 6, 3) := by decide +kernel
def bX11_hang_61 : List OP := [oi (.bipush (-5))]
theorem oX11_hang_61 : okB mX11_hang 61 bX11_hang_61 = true := by decide +kernel
theorem eX11_hang_63 : decode mX11_hang.2.1 63 = .ok (.ireturn, 1) := by decide +kernel
def bX11_hang_64 : List OP := [oi (.aload_n 0), (.getfield 79, 10, 11, 10, 2, 379), oi (.iload_n 2), oi (.iload_n 1)]
theorem oX11_hang_64 : okB mX11_hang 64 bX11_hang_64 = true := by decide +kernel
theorem eX11_hang_70 : decode mX11_hang.2.1 70 = .ok (.invokevirtual 282, 3) := by decide +kernel
theorem lX11_hang_70 : okL 901 (.methodLink mX11_hang.1.cls 282 mX6_hangingOn.1) = true := by decide +kernel
def bX11_hang_73 : List OP := [oi (.aload_n 0), (.getfield 7, 0, 11, 0, 2, 369), oi (.bipush 6), oi .iaload]
theorem oX11_hang_73 : okB mX11_hang 73 bX11_hang_73 = true := by decide +kernel
theorem eX11_hang_80 : decode mX11_hang.2.1 80 = .ok (.if_icmp .lt 6, 3) := by decide +kernel
def bX11_hang_83 : List OP := [oi (.bipush (-4))]
theorem oX11_hang_83 : okB mX11_hang 83 bX11_hang_83 = true := by decide +kernel
theorem eX11_hang_85 : decode mX11_hang.2.1 85 = .ok (.ireturn, 1) := by decide +kernel
def bX11_hang_86 : List OP := [oi (.aload_n 0), (.getfield 79, 10, 11, 10, 2, 379), oi (.iload_n 1), oi (.iload_n 2), oi (.iload_n 3)]
theorem oX11_hang_86 : okB mX11_hang 86 bX11_hang_86 = true := by decide +kernel
theorem eX11_hang_93 : decode mX11_hang.2.1 93 = .ok (.invokevirtual 285, 3) := by decide +kernel
theorem lX11_hang_93 : okL 905 (.methodLink mX11_hang.1.cls 285 mX6_rehang.1) = true := by decide +kernel
theorem eX11_hang_96 : decode mX11_hang.2.1 96 = .ok (.ireturn, 1) := by decide +kernel
def bX11_behind_0 : List OP := [oi (.iload_n 1)]
theorem oX11_behind_0 : okB mX11_behind 0 bX11_behind_0 = true := by decide +kernel
theorem eX11_behind_1 : decode mX11_behind.2.1 1 = .ok (.invokestatic 275, 3) := by decide +kernel
theorem lX11_behind_1 : okL 898 (.methodLink mX11_behind.1.cls 275 mX11_isNode.1) = true := by decide +kernel
theorem eX11_behind_4 : decode mX11_behind.2.1 4 = .ok (.ifCond .ne 5, 3) := by decide +kernel
def bX11_behind_7 : List OP := [oi (.iconst (-1))]
theorem oX11_behind_7 : okB mX11_behind 7 bX11_behind_7 = true := by decide +kernel
theorem eX11_behind_8 : decode mX11_behind.2.1 8 = .ok (.ireturn, 1) := by decide +kernel
def bX11_behind_9 : List OP := [oi (.aload_n 0), (.getfield 79, 10, 11, 10, 2, 379), (.getfield 278, 2, 6, 2, 2, 361), oi (.iload_n 1), oi .baload]
theorem oX11_behind_9 : okB mX11_behind 9 bX11_behind_9 = true := by decide +kernel
theorem eX11_behind_18 : decode mX11_behind.2.1 18 = .ok (.ifCond .eq 6, 3) := by decide +kernel
def bX11_behind_21 : List OP := [oi (.bipush (-3))]
theorem oX11_behind_21 : okB mX11_behind 21 bX11_behind_21 = true := by decide +kernel
theorem eX11_behind_23 : decode mX11_behind.2.1 23 = .ok (.ireturn, 1) := by decide +kernel
def bX11_behind_24 : List OP := [oi (.aload_n 0), (.getfield 79, 10, 11, 10, 2, 379), oi (.iload_n 1)]
theorem oX11_behind_24 : okB mX11_behind 24 bX11_behind_24 = true := by decide +kernel
theorem eX11_behind_29 : decode mX11_behind.2.1 29 = .ok (.invokevirtual 288, 3) := by decide +kernel
theorem lX11_behind_29 : okL 913 (.methodLink mX11_behind.1.cls 288 mX6_delayUpTo0.1) = true := by decide +kernel
theorem eX11_behind_32 : decode mX11_behind.2.1 32 = .ok (.ireturn, 1) := by decide +kernel
def bX11_fall_0 : List OP := [oi (.iload_n 1)]
theorem oX11_fall_0 : okB mX11_fall 0 bX11_fall_0 = true := by decide +kernel
theorem eX11_fall_1 : decode mX11_fall.2.1 1 = .ok (.invokestatic 275, 3) := by decide +kernel
theorem lX11_fall_1 : okL 898 (.methodLink mX11_fall.1.cls 275 mX11_isNode.1) = true := by decide +kernel
theorem eX11_fall_4 : decode mX11_fall.2.1 4 = .ok (.ifCond .ne 5, 3) := by decide +kernel
def bX11_fall_7 : List OP := [oi (.iconst (-1))]
theorem oX11_fall_7 : okB mX11_fall 7 bX11_fall_7 = true := by decide +kernel
theorem eX11_fall_8 : decode mX11_fall.2.1 8 = .ok (.ireturn, 1) := by decide +kernel
def bX11_fall_9 : List OP := [oi (.aload_n 0), (.getfield 79, 10, 11, 10, 2, 379), (.getfield 278, 2, 6, 2, 2, 361), oi (.iload_n 1), oi .baload]
theorem oX11_fall_9 : okB mX11_fall 9 bX11_fall_9 = true := by decide +kernel
theorem eX11_fall_18 : decode mX11_fall.2.1 18 = .ok (.ifCond .eq 6, 3) := by decide +kernel
def bX11_fall_21 : List OP := [oi (.bipush (-3))]
theorem oX11_fall_21 : okB mX11_fall 21 bX11_fall_21 = true := by decide +kernel
theorem eX11_fall_23 : decode mX11_fall.2.1 23 = .ok (.ireturn, 1) := by decide +kernel
def bX11_fall_24 : List OP := [oi (.iload_n 1)]
theorem oX11_fall_24 : okB mX11_fall 24 bX11_fall_24 = true := by decide +kernel
theorem eX11_fall_25 : decode mX11_fall.2.1 25 = .ok (.ifCond .ne 6, 3) := by decide +kernel
def bX11_fall_28 : List OP := [oi (.bipush (-5))]
theorem oX11_fall_28 : okB mX11_fall 28 bX11_fall_28 = true := by decide +kernel
theorem eX11_fall_30 : decode mX11_fall.2.1 30 = .ok (.ireturn, 1) := by decide +kernel
def bX11_fall_31 : List OP := [oi (.aload_n 0), (.getfield 79, 10, 11, 10, 2, 379), oi (.iload_n 1), oi (.aload_n 0), (.getfield 7, 0, 11, 0, 2, 369), oi (.bipush 6), oi .iaload]
theorem oX11_fall_31 : okB mX11_fall 31 bX11_fall_31 = true := by decide +kernel
theorem eX11_fall_43 : decode mX11_fall.2.1 43 = .ok (.invokevirtual 291, 3) := by decide +kernel
theorem lX11_fall_43 : okL 921 (.methodLink mX11_fall.1.cls 291 mX6_drop.1) = true := by decide +kernel
theorem eX11_fall_46 : decode mX11_fall.2.1 46 = .ok (.ireturn, 1) := by decide +kernel
def bX11_tree_0 : List OP := [oi (.iload_n 1)]
theorem oX11_tree_0 : okB mX11_tree 0 bX11_tree_0 = true := by decide +kernel
theorem eX11_tree_1 : decode mX11_tree.2.1 1 = .ok (.ifCond .ne 11, 3) := by decide +kernel
def bX11_tree_4 : List OP := [oi (.aload_n 0), (.getfield 79, 10, 11, 10, 2, 379)]
theorem oX11_tree_4 : okB mX11_tree 4 bX11_tree_4 = true := by decide +kernel
theorem eX11_tree_8 : decode mX11_tree.2.1 8 = .ok (.invokevirtual 294, 3) := by decide +kernel
theorem lX11_tree_8 : okL 935 (.methodLink mX11_tree.1.cls 294 mX6_standing.1) = true := by decide +kernel
theorem eX11_tree_11 : decode mX11_tree.2.1 11 = .ok (.ireturn, 1) := by decide +kernel
def bX11_tree_12 : List OP := [oi (.iload_n 1), oi (.iconst 1)]
theorem oX11_tree_12 : okB mX11_tree 12 bX11_tree_12 = true := by decide +kernel
theorem eX11_tree_14 : decode mX11_tree.2.1 14 = .ok (.if_icmp .ne 17, 3) := by decide +kernel
def bX11_tree_17 : List OP := [oi (.aload_n 0), (.getfield 79, 10, 11, 10, 2, 379), oi (.aload_n 0), (.getfield 7, 0, 11, 0, 2, 369), oi (.iconst 5), oi .iaload]
theorem oX11_tree_17 : okB mX11_tree 17 bX11_tree_17 = true := by decide +kernel
theorem eX11_tree_27 : decode mX11_tree.2.1 27 = .ok (.invokevirtual 297, 3) := by decide +kernel
theorem lX11_tree_27 : okL 939 (.methodLink mX11_tree.1.cls 297 mX6_standingWithin.1) = true := by decide +kernel
theorem eX11_tree_30 : decode mX11_tree.2.1 30 = .ok (.ireturn, 1) := by decide +kernel
def bX11_tree_31 : List OP := [oi (.iload_n 1), oi (.bipush 10), oi (.bipush 19)]
theorem oX11_tree_31 : okB mX11_tree 31 bX11_tree_31 = true := by decide +kernel
theorem eX11_tree_36 : decode mX11_tree.2.1 36 = .ok (.invokestatic 95, 3) := by decide +kernel
theorem lX11_tree_36 : okL 425 (.methodLink mX11_tree.1.cls 95 mX11_between.1) = true := by decide +kernel
theorem eX11_tree_39 : decode mX11_tree.2.1 39 = .ok (.ifCond .ne 6, 3) := by decide +kernel
def bX11_tree_42 : List OP := [oi (.bipush (-2))]
theorem oX11_tree_42 : okB mX11_tree 42 bX11_tree_42 = true := by decide +kernel
theorem eX11_tree_44 : decode mX11_tree.2.1 44 = .ok (.ireturn, 1) := by decide +kernel
def bX11_tree_45 : List OP := [oi (.aload_n 0), (.getfield 79, 10, 11, 10, 2, 379), oi (.iload_n 1), oi (.bipush 10), oi .isub]
theorem oX11_tree_45 : okB mX11_tree 45 bX11_tree_45 = true := by decide +kernel
theorem eX11_tree_53 : decode mX11_tree.2.1 53 = .ok (.invokevirtual 300, 3) := by decide +kernel
theorem lX11_tree_53 : okL 943 (.methodLink mX11_tree.1.cls 300 mX6_hangsOn.1) = true := by decide +kernel
theorem eX11_tree_56 : decode mX11_tree.2.1 56 = .ok (.ireturn, 1) := by decide +kernel
def bX11_told_0 : List OP := [oi (.iload_n 1)]
theorem oX11_told_0 : okB mX11_told 0 bX11_told_0 = true := by decide +kernel
theorem eX11_told_1 : decode mX11_told.2.1 1 = .ok (.tableswitch 105 0 6 #[43, 51, 65, 73, 81, 89, 97], 43) := by decide +kernel
def bX11_told_44 : List OP := [oi (.aload_n 0), (.getfield 16, 1, 11, 1, 2, 370), (.getfield 83, 7, 3, 7, 0, 122)]
theorem oX11_told_44 : okB mX11_told 44 bX11_told_44 = true := by decide +kernel
theorem eX11_told_51 : decode mX11_told.2.1 51 = .ok (.ireturn, 1) := by decide +kernel
def bX11_told_52 : List OP := [oi (.aload_n 0), (.getfield 16, 1, 11, 1, 2, 370), oi (.aload_n 0), (.getfield 7, 0, 11, 0, 2, 369), oi (.iconst 1), oi .iaload]
theorem oX11_told_52 : okB mX11_told 52 bX11_told_52 = true := by decide +kernel
theorem eX11_told_62 : decode mX11_told.2.1 62 = .ok (.invokevirtual 303, 3) := by decide +kernel
theorem lX11_told_62 : okL 951 (.methodLink mX11_told.1.cls 303 mX3_scenes.1) = true := by decide +kernel
theorem eX11_told_65 : decode mX11_told.2.1 65 = .ok (.ireturn, 1) := by decide +kernel
def bX11_told_66 : List OP := [oi (.aload_n 0), (.getfield 16, 1, 11, 1, 2, 370)]
theorem oX11_told_66 : okB mX11_told 66 bX11_told_66 = true := by decide +kernel
theorem eX11_told_70 : decode mX11_told.2.1 70 = .ok (.invokevirtual 306, 3) := by decide +kernel
theorem lX11_told_70 : okL 956 (.methodLink mX11_told.1.cls 306 mX3_stills.1) = true := by decide +kernel
theorem eX11_told_73 : decode mX11_told.2.1 73 = .ok (.ireturn, 1) := by decide +kernel
def bX11_told_74 : List OP := [oi (.aload_n 0), (.getfield 30, 3, 11, 3, 2, 372), (.getfield 158, 1, 8, 1, 0, 177)]
theorem oX11_told_74 : okB mX11_told 74 bX11_told_74 = true := by decide +kernel
theorem eX11_told_81 : decode mX11_told.2.1 81 = .ok (.ireturn, 1) := by decide +kernel
def bX11_told_82 : List OP := [oi (.aload_n 0), (.getfield 58, 7, 11, 7, 2, 376), (.getfield 217, 5, 7, 5, 0, 308)]
theorem oX11_told_82 : okB mX11_told 82 bX11_told_82 = true := by decide +kernel
theorem eX11_told_89 : decode mX11_told.2.1 89 = .ok (.ireturn, 1) := by decide +kernel
def bX11_told_90 : List OP := [oi (.aload_n 0), (.getfield 23, 2, 11, 2, 2, 371), (.getfield 147, 2, 2, 2, 0, 157)]
theorem oX11_told_90 : okB mX11_told 90 bX11_told_90 = true := by decide +kernel
theorem eX11_told_97 : decode mX11_told.2.1 97 = .ok (.ireturn, 1) := by decide +kernel
def bX11_told_98 : List OP := [oi (.aload_n 0), (.getfield 23, 2, 11, 2, 2, 371), (.getfield 151, 3, 2, 3, 0, 159)]
theorem oX11_told_98 : okB mX11_told 98 bX11_told_98 = true := by decide +kernel
theorem eX11_told_105 : decode mX11_told.2.1 105 = .ok (.ireturn, 1) := by decide +kernel
def bX11_told_106 : List OP := [oi (.bipush (-2))]
theorem oX11_told_106 : okB mX11_told 106 bX11_told_106 = true := by decide +kernel
theorem eX11_told_108 : decode mX11_told.2.1 108 = .ok (.ireturn, 1) := by decide +kernel
def bX11_between_0 : List OP := [oi (.iload_n 0), oi (.iload_n 1)]
theorem oX11_between_0 : okB mX11_between 0 bX11_between_0 = true := by decide +kernel
theorem eX11_between_2 : decode mX11_between.2.1 2 = .ok (.if_icmp .lt 12, 3) := by decide +kernel
def bX11_between_5 : List OP := [oi (.iload_n 0), oi (.iload_n 2)]
theorem oX11_between_5 : okB mX11_between 5 bX11_between_5 = true := by decide +kernel
theorem eX11_between_7 : decode mX11_between.2.1 7 = .ok (.if_icmp .gt 7, 3) := by decide +kernel
def bX11_between_10 : List OP := [oi (.iconst 1), (.goto 4, 0, 0, 15, 0, 0)]
theorem oX11_between_10 : okB mX11_between 10 bX11_between_10 = true := by decide +kernel
def bX11_between_14 : List OP := [oi (.iconst 0)]
theorem oX11_between_14 : okB mX11_between 14 bX11_between_14 = true := by decide +kernel
theorem eX11_between_15 : decode mX11_between.2.1 15 = .ok (.ireturn, 1) := by decide +kernel
def bX11_isFilm_0 : List OP := [oi (.iload_n 0), oi (.iconst 0), oi (.iconst 5)]
theorem oX11_isFilm_0 : okB mX11_isFilm 0 bX11_isFilm_0 = true := by decide +kernel
theorem eX11_isFilm_3 : decode mX11_isFilm.2.1 3 = .ok (.invokestatic 95, 3) := by decide +kernel
theorem lX11_isFilm_3 : okL 425 (.methodLink mX11_isFilm.1.cls 95 mX11_between.1) = true := by decide +kernel
theorem eX11_isFilm_6 : decode mX11_isFilm.2.1 6 = .ok (.ireturn, 1) := by decide +kernel
def bX11_isSeer_0 : List OP := [oi (.iload_n 0), oi (.iconst 0), oi (.bipush 7)]
theorem oX11_isSeer_0 : okB mX11_isSeer 0 bX11_isSeer_0 = true := by decide +kernel
theorem eX11_isSeer_4 : decode mX11_isSeer.2.1 4 = .ok (.invokestatic 95, 3) := by decide +kernel
theorem lX11_isSeer_4 : okL 425 (.methodLink mX11_isSeer.1.cls 95 mX11_between.1) = true := by decide +kernel
theorem eX11_isSeer_7 : decode mX11_isSeer.2.1 7 = .ok (.ireturn, 1) := by decide +kernel
def bX11_isNode_0 : List OP := [oi (.iload_n 0), oi (.iconst 0), oi (.bipush 9)]
theorem oX11_isNode_0 : okB mX11_isNode 0 bX11_isNode_0 = true := by decide +kernel
theorem eX11_isNode_4 : decode mX11_isNode.2.1 4 = .ok (.invokestatic 95, 3) := by decide +kernel
theorem lX11_isNode_4 : okL 425 (.methodLink mX11_isNode.1.cls 95 mX11_between.1) = true := by decide +kernel
theorem eX11_isNode_7 : decode mX11_isNode.2.1 7 = .ok (.ireturn, 1) := by decide +kernel
def bX11_forgetShows_0 : List OP := [oi (.aload_n 0), oi (.iconst 0), (.putfield 171, 11, 11, 11, 1, 380), oi (.aload_n 0), oi (.iconst 0), (.putfield 185, 12, 11, 12, 1, 381)]
theorem oX11_forgetShows_0 : okB mX11_forgetShows 0 bX11_forgetShows_0 = true := by decide +kernel
theorem eX11_forgetShows_10 : decode mX11_forgetShows.2.1 10 = .ok (.return_, 1) := by decide +kernel
end
section
/-! ===== code as blocks ===== -/
def bX12_in_0 : List OP := [oi (.iload_n 0), oi (.iload_n 1)]
theorem oX12_in_0 : okB mX12_in 0 bX12_in_0 = true := by decide +kernel
theorem eX12_in_2 : decode mX12_in.2.1 2 = .ok (.if_icmp .lt 12, 3) := by decide +kernel
def bX12_in_5 : List OP := [oi (.iload_n 0), oi (.iload_n 2)]
theorem oX12_in_5 : okB mX12_in 5 bX12_in_5 = true := by decide +kernel
theorem eX12_in_7 : decode mX12_in.2.1 7 = .ok (.if_icmp .gt 7, 3) := by decide +kernel
def bX12_in_10 : List OP := [oi (.iconst 1), (.goto 4, 0, 0, 15, 0, 0)]
theorem oX12_in_10 : okB mX12_in 10 bX12_in_10 = true := by decide +kernel
def bX12_in_14 : List OP := [oi (.iconst 0)]
theorem oX12_in_14 : okB mX12_in 14 bX12_in_14 = true := by decide +kernel
theorem eX12_in_15 : decode mX12_in.2.1 15 = .ok (.ireturn, 1) := by decide +kernel
def bX12_isFrame_0 : List OP := [oi (.iload_n 1), oi (.iconst 0), oi (.aload_n 0), (.getfield 99, 0, 12, 0, 0, 967), oi (.iconst 1), oi .isub]
theorem oX12_isFrame_0 : okB mX12_isFrame 0 bX12_isFrame_0 = true := by decide +kernel
theorem eX12_isFrame_8 : decode mX12_isFrame.2.1 8 = .ok (.invokestatic 102, 3) := by decide +kernel
theorem lX12_isFrame_8 : okL 1091 (.methodLink mX12_isFrame.1.cls 102 mX12_in.1) = true := by decide +kernel
theorem eX12_isFrame_11 : decode mX12_isFrame.2.1 11 = .ok (.ireturn, 1) := by decide +kernel
def bX12_frame_0 : List OP := [oi (.aload_n 0), (.getfield 99, 0, 12, 0, 0, 967), oi (.bipush 10)]
theorem oX12_frame_0 : okB mX12_frame 0 bX12_frame_0 = true := by decide +kernel
theorem eX12_frame_6 : decode mX12_frame.2.1 6 = .ok (.if_icmp .ne 6, 3) := by decide +kernel
def bX12_frame_9 : List OP := [oi (.bipush (-4))]
theorem oX12_frame_9 : okB mX12_frame 9 bX12_frame_9 = true := by decide +kernel
theorem eX12_frame_11 : decode mX12_frame.2.1 11 = .ok (.ireturn, 1) := by decide +kernel
def bX12_frame_12 : List OP := [oi (.aload_n 0), (.getfield 13, 2, 12, 2, 2, 969), oi (.aload_n 0), (.getfield 99, 0, 12, 0, 0, 967), oi (.aload_n 0), (.getfield 99, 0, 12, 0, 0, 967)]
theorem oX12_frame_12 : okB mX12_frame 12 bX12_frame_12 = true := by decide +kernel
theorem eX12_frame_24 : decode mX12_frame.2.1 24 = .ok (.ifCond .ne 7, 3) := by decide +kernel
def bX12_frame_27 : List OP := [oi (.iconst 1), (.goto 4, 0, 0, 32, 0, 0)]
theorem oX12_frame_27 : okB mX12_frame 27 bX12_frame_27 = true := by decide +kernel
def bX12_frame_31 : List OP := [oi (.iconst 0)]
theorem oX12_frame_31 : okB mX12_frame 31 bX12_frame_31 = true := by decide +kernel
def bX12_frame_32 : List OP := [oi .bastore, oi (.iconst 0), oi (.istore_n 1)]
theorem oX12_frame_32 : okB mX12_frame 32 bX12_frame_32 = true := by decide +kernel
def bX12_frame_35 : List OP := [oi (.iload_n 1), oi (.bipush 16)]
theorem oX12_frame_35 : okB mX12_frame 35 bX12_frame_35 = true := by decide +kernel
theorem eX12_frame_38 : decode mX12_frame.2.1 38 = .ok (.if_icmp .ge 24, 3) := by decide +kernel
def bX12_frame_41 : List OP := [oi (.aload_n 0), (.getfield 7, 1, 12, 1, 2, 968), oi (.bipush 16), oi (.aload_n 0), (.getfield 99, 0, 12, 0, 0, 967), oi .imul, oi (.iload_n 1), oi .iadd, oi (.iconst 0), oi .iastore, oi (.iinc 1 1), (.goto (-24), 0, 0, 35, 0, 0)]
theorem oX12_frame_41 : okB mX12_frame 41 bX12_frame_41 = true := by decide +kernel
def bX12_frame_62 : List OP := [oi (.aload_n 0), oi .dup, (.getfield 99, 0, 12, 0, 0, 967), oi (.iconst 1), oi .iadd, (.putfield 99, 0, 12, 0, 0, 967), oi (.aload_n 0), (.getfield 99, 0, 12, 0, 0, 967), oi (.iconst 1), oi .isub]
theorem oX12_frame_62 : okB mX12_frame 62 bX12_frame_62 = true := by decide +kernel
theorem eX12_frame_78 : decode mX12_frame.2.1 78 = .ok (.ireturn, 1) := by decide +kernel
def bX12_dot_0 : List OP := [oi (.aload_n 0), oi (.iload_n 1)]
theorem oX12_dot_0 : okB mX12_dot 0 bX12_dot_0 = true := by decide +kernel
theorem eX12_dot_2 : decode mX12_dot.2.1 2 = .ok (.invokevirtual 106, 3) := by decide +kernel
theorem lX12_dot_2 : okL 1087 (.methodLink mX12_dot.1.cls 106 mX12_isFrame.1) = true := by decide +kernel
theorem eX12_dot_5 : decode mX12_dot.2.1 5 = .ok (.ifCond .ne 5, 3) := by decide +kernel
def bX12_dot_8 : List OP := [oi (.iconst (-1))]
theorem oX12_dot_8 : okB mX12_dot 8 bX12_dot_8 = true := by decide +kernel
theorem eX12_dot_9 : decode mX12_dot.2.1 9 = .ok (.ireturn, 1) := by decide +kernel
def bX12_dot_10 : List OP := [oi (.iload_n 2), oi (.iconst 0), oi (.bipush 15)]
theorem oX12_dot_10 : okB mX12_dot 10 bX12_dot_10 = true := by decide +kernel
theorem eX12_dot_14 : decode mX12_dot.2.1 14 = .ok (.invokestatic 102, 3) := by decide +kernel
theorem lX12_dot_14 : okL 1091 (.methodLink mX12_dot.1.cls 102 mX12_in.1) = true := by decide +kernel
theorem eX12_dot_17 : decode mX12_dot.2.1 17 = .ok (.ifCond .eq 13, 3) := by decide +kernel
def bX12_dot_20 : List OP := [oi (.iload_n 3), oi (.iconst 0), oi (.bipush 15)]
theorem oX12_dot_20 : okB mX12_dot 20 bX12_dot_20 = true := by decide +kernel
theorem eX12_dot_24 : decode mX12_dot.2.1 24 = .ok (.invokestatic 102, 3) := by decide +kernel
theorem lX12_dot_24 : okL 1091 (.methodLink mX12_dot.1.cls 102 mX12_in.1) = true := by decide +kernel
theorem eX12_dot_27 : decode mX12_dot.2.1 27 = .ok (.ifCond .ne 6, 3) := by decide +kernel
def bX12_dot_30 : List OP := [oi (.bipush (-2))]
theorem oX12_dot_30 : okB mX12_dot 30 bX12_dot_30 = true := by decide +kernel
theorem eX12_dot_32 : decode mX12_dot.2.1 32 = .ok (.ireturn, 1) := by decide +kernel
def bX12_dot_33 : List OP := [oi (.aload_n 0), (.getfield 7, 1, 12, 1, 2, 968), oi (.bipush 16), oi (.iload_n 1), oi .imul, oi (.iload_n 2), oi .iadd, oi .iaload, oi (.istore 4), oi (.aload_n 0), (.getfield 7, 1, 12, 1, 2, 968), oi (.bipush 16), oi (.iload_n 1), oi .imul, oi (.iload_n 2), oi .iadd, oi (.iload_n 3), oi .iastore, oi (.iload 4)]
theorem oX12_dot_33 : okB mX12_dot 33 bX12_dot_33 = true := by decide +kernel
theorem eX12_dot_60 : decode mX12_dot.2.1 60 = .ok (.ireturn, 1) := by decide +kernel
def bX12_key_0 : List OP := [oi (.aload_n 0), oi (.iload_n 1)]
theorem oX12_key_0 : okB mX12_key 0 bX12_key_0 = true := by decide +kernel
theorem eX12_key_2 : decode mX12_key.2.1 2 = .ok (.invokevirtual 106, 3) := by decide +kernel
theorem lX12_key_2 : okL 1087 (.methodLink mX12_key.1.cls 106 mX12_isFrame.1) = true := by decide +kernel
theorem eX12_key_5 : decode mX12_key.2.1 5 = .ok (.ifCond .ne 5, 3) := by decide +kernel
def bX12_key_8 : List OP := [oi (.iconst (-1))]
theorem oX12_key_8 : okB mX12_key 8 bX12_key_8 = true := by decide +kernel
theorem eX12_key_9 : decode mX12_key.2.1 9 = .ok (.ireturn, 1) := by decide +kernel
def bX12_key_10 : List OP := [oi (.iload_n 1)]
theorem oX12_key_10 : okB mX12_key 10 bX12_key_10 = true := by decide +kernel
theorem eX12_key_11 : decode mX12_key.2.1 11 = .ok (.ifCond .ne 6, 3) := by decide +kernel
def bX12_key_14 : List OP := [oi (.bipush (-5))]
theorem oX12_key_14 : okB mX12_key 14 bX12_key_14 = true := by decide +kernel
theorem eX12_key_16 : decode mX12_key.2.1 16 = .ok (.ireturn, 1) := by decide +kernel
def bX12_key_17 : List OP := [oi (.aload_n 0), (.getfield 13, 2, 12, 2, 2, 969), oi (.iload_n 1), oi .baload]
theorem oX12_key_17 : okB mX12_key 17 bX12_key_17 = true := by decide +kernel
theorem eX12_key_23 : decode mX12_key.2.1 23 = .ok (.ifCond .eq 7, 3) := by decide +kernel
def bX12_key_26 : List OP := [oi (.iconst 1), (.goto 4, 0, 0, 31, 0, 0)]
theorem oX12_key_26 : okB mX12_key 26 bX12_key_26 = true := by decide +kernel
def bX12_key_30 : List OP := [oi (.iconst 0)]
theorem oX12_key_30 : okB mX12_key 30 bX12_key_30 = true := by decide +kernel
def bX12_key_31 : List OP := [oi (.istore_n 3), oi (.aload_n 0), (.getfield 13, 2, 12, 2, 2, 969), oi (.iload_n 1), oi (.iload_n 2), oi .bastore, oi (.iload_n 3)]
theorem oX12_key_31 : okB mX12_key 31 bX12_key_31 = true := by decide +kernel
theorem eX12_key_40 : decode mX12_key.2.1 40 = .ok (.ireturn, 1) := by decide +kernel
def bX12_set_0 : List OP := [oi (.iload_n 1), oi (.iconst 0), oi (.bipush 6)]
theorem oX12_set_0 : okB mX12_set 0 bX12_set_0 = true := by decide +kernel
theorem eX12_set_4 : decode mX12_set.2.1 4 = .ok (.invokestatic 102, 3) := by decide +kernel
theorem lX12_set_4 : okL 1091 (.methodLink mX12_set.1.cls 102 mX12_in.1) = true := by decide +kernel
theorem eX12_set_7 : decode mX12_set.2.1 7 = .ok (.ifCond .ne 6, 3) := by decide +kernel
def bX12_set_10 : List OP := [oi (.bipush (-2))]
theorem oX12_set_10 : okB mX12_set 10 bX12_set_10 = true := by decide +kernel
theorem eX12_set_12 : decode mX12_set.2.1 12 = .ok (.ireturn, 1) := by decide +kernel
def bX12_set_13 : List OP := [oi (.iload_n 1)]
theorem oX12_set_13 : okB mX12_set 13 bX12_set_13 = true := by decide +kernel
theorem eX12_set_14 : decode mX12_set.2.1 14 = .ok (.ifCond .ne 8, 3) := by decide +kernel
def bX12_set_17 : List OP := [oi (.bipush 80), (.goto 57, 0, 0, 76, 0, 0)]
theorem oX12_set_17 : okB mX12_set 17 bX12_set_17 = true := by decide +kernel
def bX12_set_22 : List OP := [oi (.iload_n 1), oi (.iconst 1)]
theorem oX12_set_22 : okB mX12_set 22 bX12_set_22 = true := by decide +kernel
theorem eX12_set_24 : decode mX12_set.2.1 24 = .ok (.if_icmp .ne 9, 3) := by decide +kernel
def bX12_set_27 : List OP := [oi (.sipush 240), (.goto 46, 0, 0, 76, 0, 0)]
theorem oX12_set_27 : okB mX12_set 27 bX12_set_27 = true := by decide +kernel
def bX12_set_33 : List OP := [oi (.iload_n 1), oi (.iconst 2)]
theorem oX12_set_33 : okB mX12_set 33 bX12_set_33 = true := by decide +kernel
theorem eX12_set_35 : decode mX12_set.2.1 35 = .ok (.if_icmp .ne 8, 3) := by decide +kernel
def bX12_set_38 : List OP := [oi (.bipush 8), (.goto 36, 0, 0, 76, 0, 0)]
theorem oX12_set_38 : okB mX12_set 38 bX12_set_38 = true := by decide +kernel
def bX12_set_43 : List OP := [oi (.iload_n 1), oi (.iconst 3)]
theorem oX12_set_43 : okB mX12_set 43 bX12_set_43 = true := by decide +kernel
theorem eX12_set_45 : decode mX12_set.2.1 45 = .ok (.if_icmp .ne 8, 3) := by decide +kernel
def bX12_set_48 : List OP := [oi (.bipush 100), (.goto 26, 0, 0, 76, 0, 0)]
theorem oX12_set_48 : okB mX12_set 48 bX12_set_48 = true := by decide +kernel
def bX12_set_53 : List OP := [oi (.iload_n 1), oi (.iconst 4)]
theorem oX12_set_53 : okB mX12_set 53 bX12_set_53 = true := by decide +kernel
theorem eX12_set_55 : decode mX12_set.2.1 55 = .ok (.if_icmp .ne 8, 3) := by decide +kernel
def bX12_set_58 : List OP := [oi (.bipush 60), (.goto 16, 0, 0, 76, 0, 0)]
theorem oX12_set_58 : okB mX12_set 58 bX12_set_58 = true := by decide +kernel
def bX12_set_63 : List OP := [oi (.iload_n 1), oi (.iconst 5)]
theorem oX12_set_63 : okB mX12_set 63 bX12_set_63 = true := by decide +kernel
theorem eX12_set_65 : decode mX12_set.2.1 65 = .ok (.if_icmp .ne 9, 3) := by decide +kernel
def bX12_set_68 : List OP := [oi (.sipush 1000), (.goto 5, 0, 0, 76, 0, 0)]
theorem oX12_set_68 : okB mX12_set 68 bX12_set_68 = true := by decide +kernel
def bX12_set_74 : List OP := [oi (.bipush 9)]
theorem oX12_set_74 : okB mX12_set 74 bX12_set_74 = true := by decide +kernel
def bX12_set_76 : List OP := [oi (.istore_n 3), oi (.iload_n 2), oi (.iload_n 1), oi (.iconst 2)]
theorem oX12_set_76 : okB mX12_set 76 bX12_set_76 = true := by decide +kernel
theorem eX12_set_80 : decode mX12_set.2.1 80 = .ok (.if_icmp .eq 9, 3) := by decide +kernel
def bX12_set_83 : List OP := [oi (.iload_n 1), oi (.bipush 6)]
theorem oX12_set_83 : okB mX12_set 83 bX12_set_83 = true := by decide +kernel
theorem eX12_set_86 : decode mX12_set.2.1 86 = .ok (.if_icmp .ne 7, 3) := by decide +kernel
def bX12_set_89 : List OP := [oi (.iconst 1), (.goto 4, 0, 0, 94, 0, 0)]
theorem oX12_set_89 : okB mX12_set 89 bX12_set_89 = true := by decide +kernel
def bX12_set_93 : List OP := [oi (.iconst 0)]
theorem oX12_set_93 : okB mX12_set 93 bX12_set_93 = true := by decide +kernel
def bX12_set_94 : List OP := [oi (.iload_n 3)]
theorem oX12_set_94 : okB mX12_set 94 bX12_set_94 = true := by decide +kernel
theorem eX12_set_95 : decode mX12_set.2.1 95 = .ok (.invokestatic 102, 3) := by decide +kernel
theorem lX12_set_95 : okL 1091 (.methodLink mX12_set.1.cls 102 mX12_in.1) = true := by decide +kernel
theorem eX12_set_98 : decode mX12_set.2.1 98 = .ok (.ifCond .ne 6, 3) := by decide +kernel
def bX12_set_101 : List OP := [oi (.bipush (-2))]
theorem oX12_set_101 : okB mX12_set 101 bX12_set_101 = true := by decide +kernel
theorem eX12_set_103 : decode mX12_set.2.1 103 = .ok (.ireturn, 1) := by decide +kernel
def bX12_set_104 : List OP := [oi (.aload_n 0), (.getfield 17, 3, 12, 3, 2, 970), oi (.iload_n 1), oi .iaload, oi (.istore 4), oi (.aload_n 0), (.getfield 17, 3, 12, 3, 2, 970), oi (.iload_n 1), oi (.iload_n 2), oi .iastore, oi (.iload 4)]
theorem oX12_set_104 : okB mX12_set 104 bX12_set_104 = true := by decide +kernel
theorem eX12_set_121 : decode mX12_set.2.1 121 = .ok (.ireturn, 1) := by decide +kernel
def bX12_costOf_0 : List OP := [oi (.iload_n 0), oi (.iconst 4)]
theorem oX12_costOf_0 : okB mX12_costOf 0 bX12_costOf_0 = true := by decide +kernel
theorem eX12_costOf_2 : decode mX12_costOf.2.1 2 = .ok (.if_icmp .ne 7, 3) := by decide +kernel
def bX12_costOf_5 : List OP := [oi (.iconst 1), (.goto 26, 0, 0, 32, 0, 0)]
theorem oX12_costOf_5 : okB mX12_costOf 5 bX12_costOf_5 = true := by decide +kernel
def bX12_costOf_9 : List OP := [oi (.iload_n 0), oi (.bipush 9)]
theorem oX12_costOf_9 : okB mX12_costOf 9 bX12_costOf_9 = true := by decide +kernel
theorem eX12_costOf_12 : decode mX12_costOf.2.1 12 = .ok (.if_icmp .ge 8, 3) := by decide +kernel
def bX12_costOf_15 : List OP := [oi (.bipush 6), (.goto 15, 0, 0, 32, 0, 0)]
theorem oX12_costOf_15 : okB mX12_costOf 15 bX12_costOf_15 = true := by decide +kernel
def bX12_costOf_20 : List OP := [oi (.iload_n 0), oi (.bipush 9)]
theorem oX12_costOf_20 : okB mX12_costOf 20 bX12_costOf_20 = true := by decide +kernel
theorem eX12_costOf_23 : decode mX12_costOf.2.1 23 = .ok (.if_icmp .ne 7, 3) := by decide +kernel
def bX12_costOf_26 : List OP := [oi (.iconst 5), (.goto 5, 0, 0, 32, 0, 0)]
theorem oX12_costOf_26 : okB mX12_costOf 26 bX12_costOf_26 = true := by decide +kernel
def bX12_costOf_30 : List OP := [oi (.bipush 20)]
theorem oX12_costOf_30 : okB mX12_costOf 30 bX12_costOf_30 = true := by decide +kernel
theorem eX12_costOf_32 : decode mX12_costOf.2.1 32 = .ok (.ireturn, 1) := by decide +kernel
def bX12_dotAt_0 : List OP := [oi (.bipush 8), oi (.iload_n 0), oi (.iconst 2), oi .idiv, oi .imul, oi (.iconst 4), oi (.iload_n 1), oi (.iconst 2), oi .idiv, oi .imul, oi .iadd, oi (.iconst 2), oi (.iload_n 0), oi (.iconst 2), oi .irem, oi .imul, oi .iadd, oi (.iload_n 1), oi (.iconst 2), oi .irem, oi .iadd]
theorem oX12_dotAt_0 : okB mX12_dotAt 0 bX12_dotAt_0 = true := by decide +kernel
theorem eX12_dotAt_22 : decode mX12_dotAt.2.1 22 = .ok (.ireturn, 1) := by decide +kernel
def bX12_held_0 : List OP := [oi (.iload_n 0)]
theorem oX12_held_0 : okB mX12_held 0 bX12_held_0 = true := by decide +kernel
theorem eX12_held_1 : decode mX12_held.2.1 1 = .ok (.ifCond .ge 7, 3) := by decide +kernel
def bX12_held_4 : List OP := [oi (.iconst 0), (.goto 13, 0, 0, 18, 0, 0)]
theorem oX12_held_4 : okB mX12_held 4 bX12_held_4 = true := by decide +kernel
def bX12_held_8 : List OP := [oi (.iload_n 0), oi (.iconst 3)]
theorem oX12_held_8 : okB mX12_held 8 bX12_held_8 = true := by decide +kernel
theorem eX12_held_10 : decode mX12_held.2.1 10 = .ok (.if_icmp .le 7, 3) := by decide +kernel
def bX12_held_13 : List OP := [oi (.iconst 3), (.goto 4, 0, 0, 18, 0, 0)]
theorem oX12_held_13 : okB mX12_held 13 bX12_held_13 = true := by decide +kernel
def bX12_held_17 : List OP := [oi (.iload_n 0)]
theorem oX12_held_17 : okB mX12_held 17 bX12_held_17 = true := by decide +kernel
theorem eX12_held_18 : decode mX12_held.2.1 18 = .ok (.ireturn, 1) := by decide +kernel
def bX12_openBy_0 : List OP := [oi (.iload_n 2), oi (.iload_n 3)]
theorem oX12_openBy_0 : okB mX12_openBy 0 bX12_openBy_0 = true := by decide +kernel
theorem eX12_openBy_2 : decode mX12_openBy.2.1 2 = .ok (.invokestatic 110, 3) := by decide +kernel
theorem lX12_openBy_2 : okL 1118 (.methodLink mX12_openBy.1.cls 110 mX12_dotAt.1) = true := by decide +kernel
def bX12_openBy_5 : List OP := [oi (.istore 5), oi (.iload 4), oi (.bipush 10)]
theorem oX12_openBy_5 : okB mX12_openBy 5 bX12_openBy_5 = true := by decide +kernel
theorem eX12_openBy_11 : decode mX12_openBy.2.1 11 = .ok (.if_icmp .ne 16, 3) := by decide +kernel
def bX12_openBy_14 : List OP := [oi (.aload_n 0), (.getfield 7, 1, 12, 1, 2, 968), oi (.bipush 16), oi (.iload_n 1), oi .imul, oi (.iload 5), oi .iadd, oi .iaload]
theorem oX12_openBy_14 : okB mX12_openBy 14 bX12_openBy_14 = true := by decide +kernel
theorem eX12_openBy_26 : decode mX12_openBy.2.1 26 = .ok (.ireturn, 1) := by decide +kernel
def bX12_openBy_27 : List OP := [oi (.iload 4), oi (.bipush 9)]
theorem oX12_openBy_27 : okB mX12_openBy 27 bX12_openBy_27 = true := by decide +kernel
theorem eX12_openBy_31 : decode mX12_openBy.2.1 31 = .ok (.if_icmp .ne 47, 3) := by decide +kernel
def bX12_openBy_34 : List OP := [oi (.iconst 0), oi (.istore 6), oi (.iconst 0), oi (.istore 7)]
theorem oX12_openBy_34 : okB mX12_openBy 34 bX12_openBy_34 = true := by decide +kernel
def bX12_openBy_40 : List OP := [oi (.iload 7), oi (.iconst 4)]
theorem oX12_openBy_40 : okB mX12_openBy 40 bX12_openBy_40 = true := by decide +kernel
theorem eX12_openBy_43 : decode mX12_openBy.2.1 43 = .ok (.if_icmp .ge 30, 3) := by decide +kernel
def bX12_openBy_46 : List OP := [oi (.iload 6), oi (.aload_n 0), (.getfield 7, 1, 12, 1, 2, 968), oi (.bipush 16), oi (.iload_n 1), oi .imul, oi (.iload_n 2), oi (.iload 7)]
theorem oX12_openBy_46 : okB mX12_openBy 46 bX12_openBy_46 = true := by decide +kernel
theorem eX12_openBy_59 : decode mX12_openBy.2.1 59 = .ok (.invokestatic 110, 3) := by decide +kernel
theorem lX12_openBy_59 : okL 1118 (.methodLink mX12_openBy.1.cls 110 mX12_dotAt.1) = true := by decide +kernel
def bX12_openBy_62 : List OP := [oi .iadd, oi .iaload, oi .iadd, oi (.istore 6), oi (.iinc 7 1), (.goto (-30), 0, 0, 40, 0, 0)]
theorem oX12_openBy_62 : okB mX12_openBy 62 bX12_openBy_62 = true := by decide +kernel
def bX12_openBy_73 : List OP := [oi (.iload 6), oi (.iconst 4), oi .idiv]
theorem oX12_openBy_73 : okB mX12_openBy 73 bX12_openBy_73 = true := by decide +kernel
theorem eX12_openBy_77 : decode mX12_openBy.2.1 77 = .ok (.ireturn, 1) := by decide +kernel
def bX12_openBy_78 : List OP := [oi (.iload 5), oi (.iconst 4), oi .irem, oi (.iload 4), oi (.iconst 3), oi .irem, oi .iadd, oi (.iconst 1), oi .isub]
theorem oX12_openBy_78 : okB mX12_openBy 78 bX12_openBy_78 = true := by decide +kernel
theorem eX12_openBy_89 : decode mX12_openBy.2.1 89 = .ok (.invokestatic 114, 3) := by decide +kernel
theorem lX12_openBy_89 : okL 1121 (.methodLink mX12_openBy.1.cls 114 mX12_held.1) = true := by decide +kernel
def bX12_openBy_92 : List OP := [oi (.istore 6), oi (.iload 5), oi (.iconst 4), oi .idiv, oi (.iload 4), oi (.iconst 3), oi .idiv, oi .iadd, oi (.iconst 1), oi .isub]
theorem oX12_openBy_92 : okB mX12_openBy 92 bX12_openBy_92 = true := by decide +kernel
theorem eX12_openBy_105 : decode mX12_openBy.2.1 105 = .ok (.invokestatic 114, 3) := by decide +kernel
theorem lX12_openBy_105 : okL 1121 (.methodLink mX12_openBy.1.cls 114 mX12_held.1) = true := by decide +kernel
def bX12_openBy_108 : List OP := [oi (.istore 7), oi (.aload_n 0), (.getfield 74, 27, 12, 27, 2, 994), oi (.bipush 16), oi (.iload_n 1), oi (.iconst 1), oi .isub, oi .imul, oi (.iconst 4), oi (.iload 7), oi .imul, oi .iadd, oi (.iload 6), oi .iadd, oi .iaload]
theorem oX12_openBy_108 : okB mX12_openBy 108 bX12_openBy_108 = true := by decide +kernel
theorem eX12_openBy_129 : decode mX12_openBy.2.1 129 = .ok (.ireturn, 1) := by decide +kernel
def bX12_cutFrame_0 : List OP := [oi (.aload_n 0), (.getfield 13, 2, 12, 2, 2, 969), oi (.iload_n 1), oi .baload]
theorem oX12_cutFrame_0 : okB mX12_cutFrame 0 bX12_cutFrame_0 = true := by decide +kernel
theorem eX12_cutFrame_6 : decode mX12_cutFrame.2.1 6 = .ok (.ifCond .eq 8, 3) := by decide +kernel
def bX12_cutFrame_9 : List OP := [oi (.bipush 9), (.goto 4, 0, 0, 15, 0, 0)]
theorem oX12_cutFrame_9 : okB mX12_cutFrame 9 bX12_cutFrame_9 = true := by decide +kernel
def bX12_cutFrame_14 : List OP := [oi (.iconst 0)]
theorem oX12_cutFrame_14 : okB mX12_cutFrame 14 bX12_cutFrame_14 = true := by decide +kernel
def bX12_cutFrame_15 : List OP := [oi (.istore_n 2), oi (.iconst 0), oi (.istore_n 3)]
theorem oX12_cutFrame_15 : okB mX12_cutFrame 15 bX12_cutFrame_15 = true := by decide +kernel
def bX12_cutFrame_18 : List OP := [oi (.iload_n 3), oi (.iconst 4)]
theorem oX12_cutFrame_18 : okB mX12_cutFrame 18 bX12_cutFrame_18 = true := by decide +kernel
theorem eX12_cutFrame_20 : decode mX12_cutFrame.2.1 20 = .ok (.if_icmp .ge 96, 3) := by decide +kernel
def bX12_cutFrame_23 : List OP := [oi (.iload_n 2), oi (.istore 4)]
theorem oX12_cutFrame_23 : okB mX12_cutFrame 23 bX12_cutFrame_23 = true := by decide +kernel
def bX12_cutFrame_26 : List OP := [oi (.iload 4), oi (.bipush 11)]
theorem oX12_cutFrame_26 : okB mX12_cutFrame 26 bX12_cutFrame_26 = true := by decide +kernel
theorem eX12_cutFrame_30 : decode mX12_cutFrame.2.1 30 = .ok (.if_icmp .ge 80, 3) := by decide +kernel
def bX12_cutFrame_33 : List OP := [oi (.iconst 0), oi (.istore 5), oi (.iconst 0), oi (.istore 6)]
theorem oX12_cutFrame_33 : okB mX12_cutFrame 33 bX12_cutFrame_33 = true := by decide +kernel
def bX12_cutFrame_39 : List OP := [oi (.iload 6), oi (.iconst 4)]
theorem oX12_cutFrame_39 : okB mX12_cutFrame 39 bX12_cutFrame_39 = true := by decide +kernel
theorem eX12_cutFrame_42 : decode mX12_cutFrame.2.1 42 = .ok (.if_icmp .ge 48, 3) := by decide +kernel
def bX12_cutFrame_45 : List OP := [oi (.aload_n 0), oi (.iload_n 1), oi (.iload_n 3), oi (.iload 6), oi (.iload 4)]
theorem oX12_cutFrame_45 : okB mX12_cutFrame 45 bX12_cutFrame_45 = true := by decide +kernel
theorem eX12_cutFrame_52 : decode mX12_cutFrame.2.1 52 = .ok (.invokevirtual 118, 3) := by decide +kernel
theorem lX12_cutFrame_52 : okL 1114 (.methodLink mX12_cutFrame.1.cls 118 mX12_openBy.1) = true := by decide +kernel
def bX12_cutFrame_55 : List OP := [oi (.aload_n 0), (.getfield 7, 1, 12, 1, 2, 968), oi (.bipush 16), oi (.iload_n 1), oi .imul, oi (.iload_n 3), oi (.iload 6)]
theorem oX12_cutFrame_55 : okB mX12_cutFrame 55 bX12_cutFrame_55 = true := by decide +kernel
theorem eX12_cutFrame_66 : decode mX12_cutFrame.2.1 66 = .ok (.invokestatic 110, 3) := by decide +kernel
theorem lX12_cutFrame_66 : okL 1118 (.methodLink mX12_cutFrame.1.cls 110 mX12_dotAt.1) = true := by decide +kernel
def bX12_cutFrame_69 : List OP := [oi .iadd, oi .iaload, oi .isub, oi (.istore 7), oi (.iload 5), oi (.iload 7), oi (.iload 7), oi .imul, oi .iadd, oi (.istore 5), oi (.iinc 6 1), (.goto (-48), 0, 0, 39, 0, 0)]
theorem oX12_cutFrame_69 : okB mX12_cutFrame 69 bX12_cutFrame_69 = true := by decide +kernel
def bX12_cutFrame_90 : List OP := [oi (.aload_n 0), (.getfield 83, 30, 12, 30, 2, 997), oi (.bipush 11), oi (.iload_n 3), oi .imul, oi (.iload 4), oi .iadd, oi (.iload 5), oi .iastore, oi (.iinc 4 1), (.goto (-81), 0, 0, 26, 0, 0)]
theorem oX12_cutFrame_90 : okB mX12_cutFrame 90 bX12_cutFrame_90 = true := by decide +kernel
def bX12_cutFrame_110 : List OP := [oi (.iinc 3 1), (.goto (-95), 0, 0, 18, 0, 0)]
theorem oX12_cutFrame_110 : okB mX12_cutFrame 110 bX12_cutFrame_110 = true := by decide +kernel
def bX12_cutFrame_116 : List OP := [(.ldc 122, 1000000, 0, 0, 0, 1124), oi (.istore_n 3), (.ldc 122, 1000000, 0, 0, 0, 1124), oi (.istore 4), oi (.iconst 0), oi (.istore 5), oi (.iload_n 2), oi (.istore 6)]
theorem oX12_cutFrame_116 : okB mX12_cutFrame 116 bX12_cutFrame_116 = true := by decide +kernel
def bX12_cutFrame_129 : List OP := [oi (.iload 6), oi (.bipush 11)]
theorem oX12_cutFrame_129 : okB mX12_cutFrame 129 bX12_cutFrame_129 = true := by decide +kernel
theorem eX12_cutFrame_133 : decode mX12_cutFrame.2.1 133 = .ok (.if_icmp .ge 280, 3) := by decide +kernel
def bX12_cutFrame_136 : List OP := [oi (.iload_n 2), oi (.istore 7)]
theorem oX12_cutFrame_136 : okB mX12_cutFrame 136 bX12_cutFrame_136 = true := by decide +kernel
def bX12_cutFrame_139 : List OP := [oi (.iload 7), oi (.bipush 11)]
theorem oX12_cutFrame_139 : okB mX12_cutFrame 139 bX12_cutFrame_139 = true := by decide +kernel
theorem eX12_cutFrame_143 : decode mX12_cutFrame.2.1 143 = .ok (.if_icmp .ge 264, 3) := by decide +kernel
def bX12_cutFrame_146 : List OP := [oi (.iload_n 2), oi (.istore 8)]
theorem oX12_cutFrame_146 : okB mX12_cutFrame 146 bX12_cutFrame_146 = true := by decide +kernel
def bX12_cutFrame_149 : List OP := [oi (.iload 8), oi (.bipush 11)]
theorem oX12_cutFrame_149 : okB mX12_cutFrame 149 bX12_cutFrame_149 = true := by decide +kernel
theorem eX12_cutFrame_153 : decode mX12_cutFrame.2.1 153 = .ok (.if_icmp .ge 248, 3) := by decide +kernel
def bX12_cutFrame_156 : List OP := [oi (.iload_n 2), oi (.istore 9)]
theorem oX12_cutFrame_156 : okB mX12_cutFrame 156 bX12_cutFrame_156 = true := by decide +kernel
def bX12_cutFrame_159 : List OP := [oi (.iload 9), oi (.bipush 11)]
theorem oX12_cutFrame_159 : okB mX12_cutFrame 159 bX12_cutFrame_159 = true := by decide +kernel
theorem eX12_cutFrame_163 : decode mX12_cutFrame.2.1 163 = .ok (.if_icmp .ge 232, 3) := by decide +kernel
def bX12_cutFrame_166 : List OP := [oi (.iload 6)]
theorem oX12_cutFrame_166 : okB mX12_cutFrame 166 bX12_cutFrame_166 = true := by decide +kernel
theorem eX12_cutFrame_168 : decode mX12_cutFrame.2.1 168 = .ok (.invokestatic 123, 3) := by decide +kernel
theorem lX12_cutFrame_168 : okL 1125 (.methodLink mX12_cutFrame.1.cls 123 mX12_costOf.1) = true := by decide +kernel
def bX12_cutFrame_171 : List OP := [oi (.iload 7)]
theorem oX12_cutFrame_171 : okB mX12_cutFrame 171 bX12_cutFrame_171 = true := by decide +kernel
theorem eX12_cutFrame_173 : decode mX12_cutFrame.2.1 173 = .ok (.invokestatic 123, 3) := by decide +kernel
theorem lX12_cutFrame_173 : okL 1125 (.methodLink mX12_cutFrame.1.cls 123 mX12_costOf.1) = true := by decide +kernel
def bX12_cutFrame_176 : List OP := [oi .iadd, oi (.iload 8)]
theorem oX12_cutFrame_176 : okB mX12_cutFrame 176 bX12_cutFrame_176 = true := by decide +kernel
theorem eX12_cutFrame_179 : decode mX12_cutFrame.2.1 179 = .ok (.invokestatic 123, 3) := by decide +kernel
theorem lX12_cutFrame_179 : okL 1125 (.methodLink mX12_cutFrame.1.cls 123 mX12_costOf.1) = true := by decide +kernel
def bX12_cutFrame_182 : List OP := [oi .iadd, oi (.iload 9)]
theorem oX12_cutFrame_182 : okB mX12_cutFrame 182 bX12_cutFrame_182 = true := by decide +kernel
theorem eX12_cutFrame_185 : decode mX12_cutFrame.2.1 185 = .ok (.invokestatic 123, 3) := by decide +kernel
theorem lX12_cutFrame_185 : okL 1125 (.methodLink mX12_cutFrame.1.cls 123 mX12_costOf.1) = true := by decide +kernel
def bX12_cutFrame_188 : List OP := [oi .iadd, oi (.istore 10), oi (.aload_n 0), (.getfield 83, 30, 12, 30, 2, 997), oi (.iload 6), oi .iaload, oi (.aload_n 0), (.getfield 83, 30, 12, 30, 2, 997), oi (.bipush 11), oi (.iload 7), oi .iadd, oi .iaload, oi .iadd, oi (.aload_n 0), (.getfield 83, 30, 12, 30, 2, 997), oi (.bipush 22), oi (.iload 8), oi .iadd, oi .iaload, oi .iadd, oi (.aload_n 0), (.getfield 83, 30, 12, 30, 2, 997), oi (.bipush 33), oi (.iload 9), oi .iadd, oi .iaload, oi .iadd, oi (.istore 11), oi (.iload 10), oi (.aload_n 0), (.getfield 17, 3, 12, 3, 2, 970), oi (.iconst 0), oi .iaload]
theorem oX12_cutFrame_188 : okB mX12_cutFrame 188 bX12_cutFrame_188 = true := by decide +kernel
theorem eX12_cutFrame_241 : decode mX12_cutFrame.2.1 241 = .ok (.if_icmp .gt 7, 3) := by decide +kernel
def bX12_cutFrame_244 : List OP := [oi (.iconst 1), (.goto 4, 0, 0, 249, 0, 0)]
theorem oX12_cutFrame_244 : okB mX12_cutFrame 244 bX12_cutFrame_244 = true := by decide +kernel
def bX12_cutFrame_248 : List OP := [oi (.iconst 0)]
theorem oX12_cutFrame_248 : okB mX12_cutFrame 248 bX12_cutFrame_248 = true := by decide +kernel
def bX12_cutFrame_249 : List OP := [oi (.istore 12), oi (.iload 11), oi (.iload 4)]
theorem oX12_cutFrame_249 : okB mX12_cutFrame 249 bX12_cutFrame_249 = true := by decide +kernel
theorem eX12_cutFrame_255 : decode mX12_cutFrame.2.1 255 = .ok (.if_icmp .lt 16, 3) := by decide +kernel
def bX12_cutFrame_258 : List OP := [oi (.iload 11), oi (.iload 4)]
theorem oX12_cutFrame_258 : okB mX12_cutFrame 258 bX12_cutFrame_258 = true := by decide +kernel
theorem eX12_cutFrame_262 : decode mX12_cutFrame.2.1 262 = .ok (.if_icmp .ne 13, 3) := by decide +kernel
def bX12_cutFrame_265 : List OP := [oi (.iload 10), oi (.iload_n 3)]
theorem oX12_cutFrame_265 : okB mX12_cutFrame 265 bX12_cutFrame_265 = true := by decide +kernel
theorem eX12_cutFrame_268 : decode mX12_cutFrame.2.1 268 = .ok (.if_icmp .ge 7, 3) := by decide +kernel
def bX12_cutFrame_271 : List OP := [oi (.iconst 1), (.goto 4, 0, 0, 276, 0, 0)]
theorem oX12_cutFrame_271 : okB mX12_cutFrame 271 bX12_cutFrame_271 = true := by decide +kernel
def bX12_cutFrame_275 : List OP := [oi (.iconst 0)]
theorem oX12_cutFrame_275 : okB mX12_cutFrame 275 bX12_cutFrame_275 = true := by decide +kernel
def bX12_cutFrame_276 : List OP := [oi (.istore 13), oi (.iload 10), oi (.iload_n 3)]
theorem oX12_cutFrame_276 : okB mX12_cutFrame 276 bX12_cutFrame_276 = true := by decide +kernel
theorem eX12_cutFrame_281 : decode mX12_cutFrame.2.1 281 = .ok (.if_icmp .lt 16, 3) := by decide +kernel
def bX12_cutFrame_284 : List OP := [oi (.iload 10), oi (.iload_n 3)]
theorem oX12_cutFrame_284 : okB mX12_cutFrame 284 bX12_cutFrame_284 = true := by decide +kernel
theorem eX12_cutFrame_287 : decode mX12_cutFrame.2.1 287 = .ok (.if_icmp .ne 14, 3) := by decide +kernel
def bX12_cutFrame_290 : List OP := [oi (.iload 11), oi (.iload 4)]
theorem oX12_cutFrame_290 : okB mX12_cutFrame 290 bX12_cutFrame_290 = true := by decide +kernel
theorem eX12_cutFrame_294 : decode mX12_cutFrame.2.1 294 = .ok (.if_icmp .ge 7, 3) := by decide +kernel
def bX12_cutFrame_297 : List OP := [oi (.iconst 1), (.goto 4, 0, 0, 302, 0, 0)]
theorem oX12_cutFrame_297 : okB mX12_cutFrame 297 bX12_cutFrame_297 = true := by decide +kernel
def bX12_cutFrame_301 : List OP := [oi (.iconst 0)]
theorem oX12_cutFrame_301 : okB mX12_cutFrame 301 bX12_cutFrame_301 = true := by decide +kernel
def bX12_cutFrame_302 : List OP := [oi (.istore 14), oi (.iload 12)]
theorem oX12_cutFrame_302 : okB mX12_cutFrame 302 bX12_cutFrame_302 = true := by decide +kernel
theorem eX12_cutFrame_306 : decode mX12_cutFrame.2.1 306 = .ok (.ifCond .eq 16, 3) := by decide +kernel
def bX12_cutFrame_309 : List OP := [oi (.iload 5)]
theorem oX12_cutFrame_309 : okB mX12_cutFrame 309 bX12_cutFrame_309 = true := by decide +kernel
theorem eX12_cutFrame_311 : decode mX12_cutFrame.2.1 311 = .ok (.ifCond .eq 21, 3) := by decide +kernel
def bX12_cutFrame_314 : List OP := [oi (.iload 13)]
theorem oX12_cutFrame_314 : okB mX12_cutFrame 314 bX12_cutFrame_314 = true := by decide +kernel
theorem eX12_cutFrame_316 : decode mX12_cutFrame.2.1 316 = .ok (.ifCond .eq 73, 3) := by decide +kernel
def bX12_cutFrame_319 : List OP := [(.goto 13, 0, 0, 332, 0, 0)]
theorem oX12_cutFrame_319 : okB mX12_cutFrame 319 bX12_cutFrame_319 = true := by decide +kernel
def bX12_cutFrame_322 : List OP := [oi (.iload 5)]
theorem oX12_cutFrame_322 : okB mX12_cutFrame 322 bX12_cutFrame_322 = true := by decide +kernel
theorem eX12_cutFrame_324 : decode mX12_cutFrame.2.1 324 = .ok (.ifCond .ne 65, 3) := by decide +kernel
def bX12_cutFrame_327 : List OP := [oi (.iload 14)]
theorem oX12_cutFrame_327 : okB mX12_cutFrame 327 bX12_cutFrame_327 = true := by decide +kernel
theorem eX12_cutFrame_329 : decode mX12_cutFrame.2.1 329 = .ok (.ifCond .eq 60, 3) := by decide +kernel
def bX12_cutFrame_332 : List OP := [oi (.iload 12), oi (.istore 5), oi (.iload 10), oi (.istore_n 3), oi (.iload 11), oi (.istore 4), oi (.aload_n 0), (.getfield 71, 26, 12, 26, 2, 993), oi (.iconst 4), oi (.iload_n 1), oi .imul, oi (.iload 6), oi .iastore, oi (.aload_n 0), (.getfield 71, 26, 12, 26, 2, 993), oi (.iconst 4), oi (.iload_n 1), oi .imul, oi (.iconst 1), oi .iadd, oi (.iload 7), oi .iastore, oi (.aload_n 0), (.getfield 71, 26, 12, 26, 2, 993), oi (.iconst 4), oi (.iload_n 1), oi .imul, oi (.iconst 2), oi .iadd, oi (.iload 8), oi .iastore, oi (.aload_n 0), (.getfield 71, 26, 12, 26, 2, 993), oi (.iconst 4), oi (.iload_n 1), oi .imul, oi (.iconst 3), oi .iadd, oi (.iload 9), oi .iastore]
theorem oX12_cutFrame_332 : okB mX12_cutFrame 332 bX12_cutFrame_332 = true := by decide +kernel
def bX12_cutFrame_389 : List OP := [oi (.iinc 9 1), (.goto (-233), 0, 0, 159, 0, 0)]
theorem oX12_cutFrame_389 : okB mX12_cutFrame 389 bX12_cutFrame_389 = true := by decide +kernel
def bX12_cutFrame_395 : List OP := [oi (.iinc 8 1), (.goto (-249), 0, 0, 149, 0, 0)]
theorem oX12_cutFrame_395 : okB mX12_cutFrame 395 bX12_cutFrame_395 = true := by decide +kernel
def bX12_cutFrame_401 : List OP := [oi (.iinc 7 1), (.goto (-265), 0, 0, 139, 0, 0)]
theorem oX12_cutFrame_401 : okB mX12_cutFrame 401 bX12_cutFrame_401 = true := by decide +kernel
def bX12_cutFrame_407 : List OP := [oi (.iinc 6 1), (.goto (-281), 0, 0, 129, 0, 0)]
theorem oX12_cutFrame_407 : okB mX12_cutFrame 407 bX12_cutFrame_407 = true := by decide +kernel
def bX12_cutFrame_413 : List OP := [oi (.aload_n 0), (.getfield 77, 28, 12, 28, 2, 995), oi (.iload_n 1), oi (.iload_n 3), oi .iastore, oi (.aload_n 0), (.getfield 80, 29, 12, 29, 2, 996), oi (.iload_n 1), oi (.iload 4), oi .iastore, oi (.iconst 0), oi (.istore 6)]
theorem oX12_cutFrame_413 : okB mX12_cutFrame 413 bX12_cutFrame_413 = true := by decide +kernel
def bX12_cutFrame_431 : List OP := [oi (.iload 6), oi (.iconst 4)]
theorem oX12_cutFrame_431 : okB mX12_cutFrame 431 bX12_cutFrame_431 = true := by decide +kernel
theorem eX12_cutFrame_434 : decode mX12_cutFrame.2.1 434 = .ok (.if_icmp .ge 61, 3) := by decide +kernel
def bX12_cutFrame_437 : List OP := [oi (.iconst 0), oi (.istore 7)]
theorem oX12_cutFrame_437 : okB mX12_cutFrame 437 bX12_cutFrame_437 = true := by decide +kernel
def bX12_cutFrame_440 : List OP := [oi (.iload 7), oi (.iconst 4)]
theorem oX12_cutFrame_440 : okB mX12_cutFrame 440 bX12_cutFrame_440 = true := by decide +kernel
theorem eX12_cutFrame_443 : decode mX12_cutFrame.2.1 443 = .ok (.if_icmp .ge 46, 3) := by decide +kernel
def bX12_cutFrame_446 : List OP := [oi (.aload_n 0), (.getfield 74, 27, 12, 27, 2, 994), oi (.bipush 16), oi (.iload_n 1), oi .imul, oi (.iload 6), oi (.iload 7)]
theorem oX12_cutFrame_446 : okB mX12_cutFrame 446 bX12_cutFrame_446 = true := by decide +kernel
theorem eX12_cutFrame_458 : decode mX12_cutFrame.2.1 458 = .ok (.invokestatic 110, 3) := by decide +kernel
theorem lX12_cutFrame_458 : okL 1118 (.methodLink mX12_cutFrame.1.cls 110 mX12_dotAt.1) = true := by decide +kernel
def bX12_cutFrame_461 : List OP := [oi .iadd, oi (.aload_n 0), oi (.iload_n 1), oi (.iload 6), oi (.iload 7), oi (.aload_n 0), (.getfield 71, 26, 12, 26, 2, 993), oi (.iconst 4), oi (.iload_n 1), oi .imul, oi (.iload 6), oi .iadd, oi .iaload]
theorem oX12_cutFrame_461 : okB mX12_cutFrame 461 bX12_cutFrame_461 = true := by decide +kernel
theorem eX12_cutFrame_479 : decode mX12_cutFrame.2.1 479 = .ok (.invokevirtual 118, 3) := by decide +kernel
theorem lX12_cutFrame_479 : okL 1114 (.methodLink mX12_cutFrame.1.cls 118 mX12_openBy.1) = true := by decide +kernel
def bX12_cutFrame_482 : List OP := [oi .iastore, oi (.iinc 7 1), (.goto (-46), 0, 0, 440, 0, 0)]
theorem oX12_cutFrame_482 : okB mX12_cutFrame 482 bX12_cutFrame_482 = true := by decide +kernel
def bX12_cutFrame_489 : List OP := [oi (.iinc 6 1), (.goto (-61), 0, 0, 431, 0, 0)]
theorem oX12_cutFrame_489 : okB mX12_cutFrame 489 bX12_cutFrame_489 = true := by decide +kernel
theorem eX12_cutFrame_495 : decode mX12_cutFrame.2.1 495 = .ok (.return_, 1) := by decide +kernel
def bX12_cut_0 : List OP := [oi (.iconst 0), oi (.istore_n 2)]
theorem oX12_cut_0 : okB mX12_cut 0 bX12_cut_0 = true := by decide +kernel
def bX12_cut_2 : List OP := [oi (.iload_n 2), oi (.iload_n 1)]
theorem oX12_cut_2 : okB mX12_cut 2 bX12_cut_2 = true := by decide +kernel
theorem eX12_cut_4 : decode mX12_cut.2.1 4 = .ok (.if_icmp .gt 14, 3) := by decide +kernel
def bX12_cut_7 : List OP := [oi (.aload_n 0), oi (.iload_n 2)]
theorem oX12_cut_7 : okB mX12_cut 7 bX12_cut_7 = true := by decide +kernel
theorem eX12_cut_9 : decode mX12_cut.2.1 9 = .ok (.invokevirtual 126, 3) := by decide +kernel
theorem lX12_cut_9 : okL 1110 (.methodLink mX12_cut.1.cls 126 mX12_cutFrame.1) = true := by decide +kernel
def bX12_cut_12 : List OP := [oi (.iinc 2 1), (.goto (-13), 0, 0, 2, 0, 0)]
theorem oX12_cut_12 : okB mX12_cut 12 bX12_cut_12 = true := by decide +kernel
theorem eX12_cut_18 : decode mX12_cut.2.1 18 = .ok (.return_, 1) := by decide +kernel
def bX12_way_0 : List OP := [oi (.aload_n 0), oi (.iload_n 1)]
theorem oX12_way_0 : okB mX12_way 0 bX12_way_0 = true := by decide +kernel
theorem eX12_way_2 : decode mX12_way.2.1 2 = .ok (.invokevirtual 106, 3) := by decide +kernel
theorem lX12_way_2 : okL 1087 (.methodLink mX12_way.1.cls 106 mX12_isFrame.1) = true := by decide +kernel
theorem eX12_way_5 : decode mX12_way.2.1 5 = .ok (.ifCond .eq 12, 3) := by decide +kernel
def bX12_way_8 : List OP := [oi (.iload_n 2), oi (.iconst 0), oi (.iconst 3)]
theorem oX12_way_8 : okB mX12_way 8 bX12_way_8 = true := by decide +kernel
theorem eX12_way_11 : decode mX12_way.2.1 11 = .ok (.invokestatic 102, 3) := by decide +kernel
theorem lX12_way_11 : okL 1091 (.methodLink mX12_way.1.cls 102 mX12_in.1) = true := by decide +kernel
theorem eX12_way_14 : decode mX12_way.2.1 14 = .ok (.ifCond .ne 5, 3) := by decide +kernel
def bX12_way_17 : List OP := [oi (.iconst (-1))]
theorem oX12_way_17 : okB mX12_way 17 bX12_way_17 = true := by decide +kernel
theorem eX12_way_18 : decode mX12_way.2.1 18 = .ok (.ireturn, 1) := by decide +kernel
def bX12_way_19 : List OP := [oi (.aload_n 0), oi (.iload_n 1)]
theorem oX12_way_19 : okB mX12_way 19 bX12_way_19 = true := by decide +kernel
theorem eX12_way_21 : decode mX12_way.2.1 21 = .ok (.invokevirtual 130, 3) := by decide +kernel
theorem lX12_way_21 : okL 1106 (.methodLink mX12_way.1.cls 130 mX12_cut.1) = true := by decide +kernel
def bX12_way_24 : List OP := [oi (.aload_n 0), (.getfield 71, 26, 12, 26, 2, 993), oi (.iconst 4), oi (.iload_n 1), oi .imul, oi (.iload_n 2), oi .iadd, oi .iaload]
theorem oX12_way_24 : okB mX12_way 24 bX12_way_24 = true := by decide +kernel
theorem eX12_way_34 : decode mX12_way.2.1 34 = .ok (.ireturn, 1) := by decide +kernel
def bX12_opened_0 : List OP := [oi (.aload_n 0), oi (.iload_n 1)]
theorem oX12_opened_0 : okB mX12_opened 0 bX12_opened_0 = true := by decide +kernel
theorem eX12_opened_2 : decode mX12_opened.2.1 2 = .ok (.invokevirtual 106, 3) := by decide +kernel
theorem lX12_opened_2 : okL 1087 (.methodLink mX12_opened.1.cls 106 mX12_isFrame.1) = true := by decide +kernel
theorem eX12_opened_5 : decode mX12_opened.2.1 5 = .ok (.ifCond .ne 5, 3) := by decide +kernel
def bX12_opened_8 : List OP := [oi (.iconst (-1))]
theorem oX12_opened_8 : okB mX12_opened 8 bX12_opened_8 = true := by decide +kernel
theorem eX12_opened_9 : decode mX12_opened.2.1 9 = .ok (.ireturn, 1) := by decide +kernel
def bX12_opened_10 : List OP := [oi (.iload_n 2), oi (.iconst 0), oi (.bipush 15)]
theorem oX12_opened_10 : okB mX12_opened 10 bX12_opened_10 = true := by decide +kernel
theorem eX12_opened_14 : decode mX12_opened.2.1 14 = .ok (.invokestatic 102, 3) := by decide +kernel
theorem lX12_opened_14 : okL 1091 (.methodLink mX12_opened.1.cls 102 mX12_in.1) = true := by decide +kernel
theorem eX12_opened_17 : decode mX12_opened.2.1 17 = .ok (.ifCond .ne 6, 3) := by decide +kernel
def bX12_opened_20 : List OP := [oi (.bipush (-2))]
theorem oX12_opened_20 : okB mX12_opened 20 bX12_opened_20 = true := by decide +kernel
theorem eX12_opened_22 : decode mX12_opened.2.1 22 = .ok (.ireturn, 1) := by decide +kernel
def bX12_opened_23 : List OP := [oi (.aload_n 0), oi (.iload_n 1)]
theorem oX12_opened_23 : okB mX12_opened 23 bX12_opened_23 = true := by decide +kernel
theorem eX12_opened_25 : decode mX12_opened.2.1 25 = .ok (.invokevirtual 130, 3) := by decide +kernel
theorem lX12_opened_25 : okL 1106 (.methodLink mX12_opened.1.cls 130 mX12_cut.1) = true := by decide +kernel
def bX12_opened_28 : List OP := [oi (.aload_n 0), (.getfield 74, 27, 12, 27, 2, 994), oi (.bipush 16), oi (.iload_n 1), oi .imul, oi (.iload_n 2), oi .iadd, oi .iaload]
theorem oX12_opened_28 : okB mX12_opened 28 bX12_opened_28 = true := by decide +kernel
theorem eX12_opened_39 : decode mX12_opened.2.1 39 = .ok (.ireturn, 1) := by decide +kernel
def bX12_unlike_0 : List OP := [oi (.iconst 0), oi (.istore_n 2), oi (.iconst 0), oi (.istore_n 3)]
theorem oX12_unlike_0 : okB mX12_unlike 0 bX12_unlike_0 = true := by decide +kernel
def bX12_unlike_4 : List OP := [oi (.iload_n 3), oi (.bipush 16)]
theorem oX12_unlike_4 : okB mX12_unlike 4 bX12_unlike_4 = true := by decide +kernel
theorem eX12_unlike_7 : decode mX12_unlike.2.1 7 = .ok (.if_icmp .ge 57, 3) := by decide +kernel
def bX12_unlike_10 : List OP := [oi (.iload_n 1)]
theorem oX12_unlike_10 : okB mX12_unlike 10 bX12_unlike_10 = true := by decide +kernel
theorem eX12_unlike_11 : decode mX12_unlike.2.1 11 = .ok (.ifCond .le 53, 3) := by decide +kernel
def bX12_unlike_14 : List OP := [oi (.aload_n 0), (.getfield 7, 1, 12, 1, 2, 968), oi (.bipush 16), oi (.iload_n 1), oi .imul, oi (.iload_n 3), oi .iadd, oi .iaload, oi (.aload_n 0), (.getfield 7, 1, 12, 1, 2, 968), oi (.bipush 16), oi (.iload_n 1), oi .imul, oi (.bipush 16), oi .isub, oi (.iload_n 3), oi .iadd, oi .iaload, oi .isub, oi (.istore 4), oi (.iload_n 2), oi (.iload 4)]
theorem oX12_unlike_14 : okB mX12_unlike 14 bX12_unlike_14 = true := by decide +kernel
theorem eX12_unlike_45 : decode mX12_unlike.2.1 45 = .ok (.ifCond .ge 9, 3) := by decide +kernel
def bX12_unlike_48 : List OP := [oi (.iload 4), oi .ineg, (.goto 5, 0, 0, 56, 0, 0)]
theorem oX12_unlike_48 : okB mX12_unlike 48 bX12_unlike_48 = true := by decide +kernel
def bX12_unlike_54 : List OP := [oi (.iload 4)]
theorem oX12_unlike_54 : okB mX12_unlike 54 bX12_unlike_54 = true := by decide +kernel
def bX12_unlike_56 : List OP := [oi .iadd, oi (.istore_n 2), oi (.iinc 3 1), (.goto (-57), 0, 0, 4, 0, 0)]
theorem oX12_unlike_56 : okB mX12_unlike 56 bX12_unlike_56 = true := by decide +kernel
def bX12_unlike_64 : List OP := [oi (.iload_n 2)]
theorem oX12_unlike_64 : okB mX12_unlike 64 bX12_unlike_64 = true := by decide +kernel
theorem eX12_unlike_65 : decode mX12_unlike.2.1 65 = .ok (.ireturn, 1) := by decide +kernel
def bX12_isScene_0 : List OP := [oi (.iload_n 1)]
theorem oX12_isScene_0 : okB mX12_isScene 0 bX12_isScene_0 = true := by decide +kernel
theorem eX12_isScene_1 : decode mX12_isScene.2.1 1 = .ok (.ifCond .le 21, 3) := by decide +kernel
def bX12_isScene_4 : List OP := [oi (.aload_n 0), oi (.iload_n 1)]
theorem oX12_isScene_4 : okB mX12_isScene 4 bX12_isScene_4 = true := by decide +kernel
theorem eX12_isScene_6 : decode mX12_isScene.2.1 6 = .ok (.invokevirtual 133, 3) := by decide +kernel
theorem lX12_isScene_6 : okL 1136 (.methodLink mX12_isScene.1.cls 133 mX12_unlike.1) = true := by decide +kernel
def bX12_isScene_9 : List OP := [oi (.aload_n 0), (.getfield 17, 3, 12, 3, 2, 970), oi (.iconst 1), oi .iaload]
theorem oX12_isScene_9 : okB mX12_isScene 9 bX12_isScene_9 = true := by decide +kernel
theorem eX12_isScene_15 : decode mX12_isScene.2.1 15 = .ok (.if_icmp .lt 7, 3) := by decide +kernel
def bX12_isScene_18 : List OP := [oi (.iconst 1), (.goto 4, 0, 0, 23, 0, 0)]
theorem oX12_isScene_18 : okB mX12_isScene 18 bX12_isScene_18 = true := by decide +kernel
def bX12_isScene_22 : List OP := [oi (.iconst 0)]
theorem oX12_isScene_22 : okB mX12_isScene 22 bX12_isScene_22 = true := by decide +kernel
theorem eX12_isScene_23 : decode mX12_isScene.2.1 23 = .ok (.ireturn, 1) := by decide +kernel
def bX12_isStill_0 : List OP := [oi (.iload_n 1)]
theorem oX12_isStill_0 : okB mX12_isStill 0 bX12_isStill_0 = true := by decide +kernel
theorem eX12_isStill_1 : decode mX12_isStill.2.1 1 = .ok (.ifCond .le 15, 3) := by decide +kernel
def bX12_isStill_4 : List OP := [oi (.aload_n 0), oi (.iload_n 1)]
theorem oX12_isStill_4 : okB mX12_isStill 4 bX12_isStill_4 = true := by decide +kernel
theorem eX12_isStill_6 : decode mX12_isStill.2.1 6 = .ok (.invokevirtual 133, 3) := by decide +kernel
theorem lX12_isStill_6 : okL 1136 (.methodLink mX12_isStill.1.cls 133 mX12_unlike.1) = true := by decide +kernel
theorem eX12_isStill_9 : decode mX12_isStill.2.1 9 = .ok (.ifCond .ne 7, 3) := by decide +kernel
def bX12_isStill_12 : List OP := [oi (.iconst 1), (.goto 4, 0, 0, 17, 0, 0)]
theorem oX12_isStill_12 : okB mX12_isStill 12 bX12_isStill_12 = true := by decide +kernel
def bX12_isStill_16 : List OP := [oi (.iconst 0)]
theorem oX12_isStill_16 : okB mX12_isStill 16 bX12_isStill_16 = true := by decide +kernel
theorem eX12_isStill_17 : decode mX12_isStill.2.1 17 = .ok (.ireturn, 1) := by decide +kernel
def bX12_of_0 : List OP := [oi (.aload_n 0), oi (.iload_n 1)]
theorem oX12_of_0 : okB mX12_of 0 bX12_of_0 = true := by decide +kernel
theorem eX12_of_2 : decode mX12_of.2.1 2 = .ok (.invokevirtual 106, 3) := by decide +kernel
theorem lX12_of_2 : okL 1087 (.methodLink mX12_of.1.cls 106 mX12_isFrame.1) = true := by decide +kernel
theorem eX12_of_5 : decode mX12_of.2.1 5 = .ok (.ifCond .ne 5, 3) := by decide +kernel
def bX12_of_8 : List OP := [oi (.iconst (-1))]
theorem oX12_of_8 : okB mX12_of 8 bX12_of_8 = true := by decide +kernel
theorem eX12_of_9 : decode mX12_of.2.1 9 = .ok (.ireturn, 1) := by decide +kernel
def bX12_of_10 : List OP := [oi (.iload_n 2), oi (.iconst 0), oi (.iconst 4)]
theorem oX12_of_10 : okB mX12_of 10 bX12_of_10 = true := by decide +kernel
theorem eX12_of_13 : decode mX12_of.2.1 13 = .ok (.invokestatic 102, 3) := by decide +kernel
theorem lX12_of_13 : okL 1091 (.methodLink mX12_of.1.cls 102 mX12_in.1) = true := by decide +kernel
theorem eX12_of_16 : decode mX12_of.2.1 16 = .ok (.ifCond .ne 6, 3) := by decide +kernel
def bX12_of_19 : List OP := [oi (.bipush (-2))]
theorem oX12_of_19 : okB mX12_of 19 bX12_of_19 = true := by decide +kernel
theorem eX12_of_21 : decode mX12_of.2.1 21 = .ok (.ireturn, 1) := by decide +kernel
def bX12_of_22 : List OP := [oi (.aload_n 0), oi (.iload_n 1)]
theorem oX12_of_22 : okB mX12_of 22 bX12_of_22 = true := by decide +kernel
theorem eX12_of_24 : decode mX12_of.2.1 24 = .ok (.invokevirtual 130, 3) := by decide +kernel
theorem lX12_of_24 : okL 1106 (.methodLink mX12_of.1.cls 130 mX12_cut.1) = true := by decide +kernel
def bX12_of_27 : List OP := [oi (.iload_n 2)]
theorem oX12_of_27 : okB mX12_of 27 bX12_of_27 = true := by decide +kernel
theorem eX12_of_28 : decode mX12_of.2.1 28 = .ok (.ifCond .ne 12, 3) := by decide +kernel
def bX12_of_31 : List OP := [oi (.aload_n 0), (.getfield 77, 28, 12, 28, 2, 995), oi (.iload_n 1), oi .iaload, (.goto 64, 0, 0, 101, 0, 0)]
theorem oX12_of_31 : okB mX12_of 31 bX12_of_31 = true := by decide +kernel
def bX12_of_40 : List OP := [oi (.iload_n 2), oi (.iconst 1)]
theorem oX12_of_40 : okB mX12_of 40 bX12_of_40 = true := by decide +kernel
theorem eX12_of_42 : decode mX12_of.2.1 42 = .ok (.if_icmp .ne 12, 3) := by decide +kernel
def bX12_of_45 : List OP := [oi (.aload_n 0), (.getfield 80, 29, 12, 29, 2, 996), oi (.iload_n 1), oi .iaload, (.goto 50, 0, 0, 101, 0, 0)]
theorem oX12_of_45 : okB mX12_of 45 bX12_of_45 = true := by decide +kernel
def bX12_of_54 : List OP := [oi (.iload_n 2), oi (.iconst 2)]
theorem oX12_of_54 : okB mX12_of 54 bX12_of_54 = true := by decide +kernel
theorem eX12_of_56 : decode mX12_of.2.1 56 = .ok (.if_icmp .ne 11, 3) := by decide +kernel
def bX12_of_59 : List OP := [oi (.aload_n 0), oi (.iload_n 1)]
theorem oX12_of_59 : okB mX12_of 59 bX12_of_59 = true := by decide +kernel
theorem eX12_of_61 : decode mX12_of.2.1 61 = .ok (.invokevirtual 133, 3) := by decide +kernel
theorem lX12_of_61 : okL 1136 (.methodLink mX12_of.1.cls 133 mX12_unlike.1) = true := by decide +kernel
def bX12_of_64 : List OP := [(.goto 37, 0, 0, 101, 0, 0)]
theorem oX12_of_64 : okB mX12_of 64 bX12_of_64 = true := by decide +kernel
def bX12_of_67 : List OP := [oi (.iload_n 2), oi (.iconst 3)]
theorem oX12_of_67 : okB mX12_of 67 bX12_of_67 = true := by decide +kernel
theorem eX12_of_69 : decode mX12_of.2.1 69 = .ok (.if_icmp .ne 19, 3) := by decide +kernel
def bX12_of_72 : List OP := [oi (.aload_n 0), oi (.iload_n 1)]
theorem oX12_of_72 : okB mX12_of 72 bX12_of_72 = true := by decide +kernel
theorem eX12_of_74 : decode mX12_of.2.1 74 = .ok (.invokevirtual 136, 3) := by decide +kernel
theorem lX12_of_74 : okL 1140 (.methodLink mX12_of.1.cls 136 mX12_isScene.1) = true := by decide +kernel
theorem eX12_of_77 : decode mX12_of.2.1 77 = .ok (.ifCond .eq 7, 3) := by decide +kernel
def bX12_of_80 : List OP := [oi (.iconst 1), (.goto 20, 0, 0, 101, 0, 0)]
theorem oX12_of_80 : okB mX12_of 80 bX12_of_80 = true := by decide +kernel
def bX12_of_84 : List OP := [oi (.iconst 0), (.goto 16, 0, 0, 101, 0, 0)]
theorem oX12_of_84 : okB mX12_of 84 bX12_of_84 = true := by decide +kernel
def bX12_of_88 : List OP := [oi (.aload_n 0), oi (.iload_n 1)]
theorem oX12_of_88 : okB mX12_of 88 bX12_of_88 = true := by decide +kernel
theorem eX12_of_90 : decode mX12_of.2.1 90 = .ok (.invokevirtual 139, 3) := by decide +kernel
theorem lX12_of_90 : okL 1144 (.methodLink mX12_of.1.cls 139 mX12_isStill.1) = true := by decide +kernel
theorem eX12_of_93 : decode mX12_of.2.1 93 = .ok (.ifCond .eq 7, 3) := by decide +kernel
def bX12_of_96 : List OP := [oi (.iconst 1), (.goto 4, 0, 0, 101, 0, 0)]
theorem oX12_of_96 : okB mX12_of 96 bX12_of_96 = true := by decide +kernel
def bX12_of_100 : List OP := [oi (.iconst 0)]
theorem oX12_of_100 : okB mX12_of 100 bX12_of_100 = true := by decide +kernel
theorem eX12_of_101 : decode mX12_of.2.1 101 = .ok (.ireturn, 1) := by decide +kernel
def bX12_pieces_0 : List OP := [oi (.iload_n 1), oi (.iconst 1), oi (.bipush 8)]
theorem oX12_pieces_0 : okB mX12_pieces 0 bX12_pieces_0 = true := by decide +kernel
theorem eX12_pieces_4 : decode mX12_pieces.2.1 4 = .ok (.invokestatic 102, 3) := by decide +kernel
theorem lX12_pieces_4 : okL 1091 (.methodLink mX12_pieces.1.cls 102 mX12_in.1) = true := by decide +kernel
theorem eX12_pieces_7 : decode mX12_pieces.2.1 7 = .ok (.ifCond .ne 6, 3) := by decide +kernel
def bX12_pieces_10 : List OP := [oi (.bipush (-2))]
theorem oX12_pieces_10 : okB mX12_pieces 10 bX12_pieces_10 = true := by decide +kernel
theorem eX12_pieces_12 : decode mX12_pieces.2.1 12 = .ok (.ireturn, 1) := by decide +kernel
def bX12_pieces_13 : List OP := [oi (.aload_n 0), (.getfield 92, 4, 12, 4, 0, 971), oi (.istore_n 2), oi (.aload_n 0), oi (.iload_n 1), (.putfield 92, 4, 12, 4, 0, 971), oi (.iload_n 2)]
theorem oX12_pieces_13 : okB mX12_pieces 13 bX12_pieces_13 = true := by decide +kernel
theorem eX12_pieces_24 : decode mX12_pieces.2.1 24 = .ok (.ireturn, 1) := by decide +kernel
def bX12_bits_0 : List OP := [oi (.iload_n 1), oi (.iconst 0), oi (.bipush 7)]
theorem oX12_bits_0 : okB mX12_bits 0 bX12_bits_0 = true := by decide +kernel
theorem eX12_bits_4 : decode mX12_bits.2.1 4 = .ok (.invokestatic 102, 3) := by decide +kernel
theorem lX12_bits_4 : okL 1091 (.methodLink mX12_bits.1.cls 102 mX12_in.1) = true := by decide +kernel
theorem eX12_bits_7 : decode mX12_bits.2.1 7 = .ok (.ifCond .ne 5, 3) := by decide +kernel
def bX12_bits_10 : List OP := [oi (.iconst (-1))]
theorem oX12_bits_10 : okB mX12_bits 10 bX12_bits_10 = true := by decide +kernel
theorem eX12_bits_11 : decode mX12_bits.2.1 11 = .ok (.ireturn, 1) := by decide +kernel
def bX12_bits_12 : List OP := [oi (.iload_n 2), oi (.iconst 0), oi (.iconst 2)]
theorem oX12_bits_12 : okB mX12_bits 12 bX12_bits_12 = true := by decide +kernel
theorem eX12_bits_15 : decode mX12_bits.2.1 15 = .ok (.invokestatic 102, 3) := by decide +kernel
theorem lX12_bits_15 : okL 1091 (.methodLink mX12_bits.1.cls 102 mX12_in.1) = true := by decide +kernel
theorem eX12_bits_18 : decode mX12_bits.2.1 18 = .ok (.ifCond .eq 14, 3) := by decide +kernel
def bX12_bits_21 : List OP := [oi (.iload_n 3), oi (.iconst 1), oi (.sipush 1000)]
theorem oX12_bits_21 : okB mX12_bits 21 bX12_bits_21 = true := by decide +kernel
theorem eX12_bits_26 : decode mX12_bits.2.1 26 = .ok (.invokestatic 102, 3) := by decide +kernel
theorem lX12_bits_26 : okL 1091 (.methodLink mX12_bits.1.cls 102 mX12_in.1) = true := by decide +kernel
theorem eX12_bits_29 : decode mX12_bits.2.1 29 = .ok (.ifCond .ne 6, 3) := by decide +kernel
def bX12_bits_32 : List OP := [oi (.bipush (-2))]
theorem oX12_bits_32 : okB mX12_bits 32 bX12_bits_32 = true := by decide +kernel
theorem eX12_bits_34 : decode mX12_bits.2.1 34 = .ok (.ireturn, 1) := by decide +kernel
def bX12_bits_35 : List OP := [oi (.aload_n 0), (.getfield 20, 5, 12, 5, 2, 972), oi (.iconst 3), oi (.iload_n 1), oi .imul, oi (.iload_n 2), oi .iadd, oi .iaload, oi (.istore 4), oi (.aload_n 0), (.getfield 20, 5, 12, 5, 2, 972), oi (.iconst 3), oi (.iload_n 1), oi .imul, oi (.iload_n 2), oi .iadd, oi (.iload_n 3), oi .iastore, oi (.iload 4)]
theorem oX12_bits_35 : okB mX12_bits 35 bX12_bits_35 = true := by decide +kernel
theorem eX12_bits_60 : decode mX12_bits.2.1 60 = .ok (.ireturn, 1) := by decide +kernel
def bX12_doors_0 : List OP := [oi (.iload_n 1), oi (.iconst 0), oi (.sipush 255)]
theorem oX12_doors_0 : okB mX12_doors 0 bX12_doors_0 = true := by decide +kernel
theorem eX12_doors_5 : decode mX12_doors.2.1 5 = .ok (.invokestatic 102, 3) := by decide +kernel
theorem lX12_doors_5 : okL 1091 (.methodLink mX12_doors.1.cls 102 mX12_in.1) = true := by decide +kernel
theorem eX12_doors_8 : decode mX12_doors.2.1 8 = .ok (.ifCond .ne 6, 3) := by decide +kernel
def bX12_doors_11 : List OP := [oi (.bipush (-2))]
theorem oX12_doors_11 : okB mX12_doors 11 bX12_doors_11 = true := by decide +kernel
theorem eX12_doors_13 : decode mX12_doors.2.1 13 = .ok (.ireturn, 1) := by decide +kernel
def bX12_doors_14 : List OP := [oi (.aload_n 0), (.getfield 96, 6, 12, 6, 0, 973), oi (.istore_n 2), oi (.aload_n 0), oi (.iload_n 1), (.putfield 96, 6, 12, 6, 0, 973), oi (.iload_n 2)]
theorem oX12_doors_14 : okB mX12_doors 14 bX12_doors_14 = true := by decide +kernel
theorem eX12_doors_25 : decode mX12_doors.2.1 25 = .ok (.ireturn, 1) := by decide +kernel
def bX12_line_0 : List OP := [oi (.iload_n 1), oi (.iconst 0), oi (.bipush 59)]
theorem oX12_line_0 : okB mX12_line 0 bX12_line_0 = true := by decide +kernel
theorem eX12_line_4 : decode mX12_line.2.1 4 = .ok (.invokestatic 102, 3) := by decide +kernel
theorem lX12_line_4 : okL 1091 (.methodLink mX12_line.1.cls 102 mX12_in.1) = true := by decide +kernel
theorem eX12_line_7 : decode mX12_line.2.1 7 = .ok (.ifCond .eq 29, 3) := by decide +kernel
def bX12_line_10 : List OP := [oi (.iload_n 2), oi (.iconst 0), oi (.bipush 59)]
theorem oX12_line_10 : okB mX12_line 10 bX12_line_10 = true := by decide +kernel
theorem eX12_line_14 : decode mX12_line.2.1 14 = .ok (.invokestatic 102, 3) := by decide +kernel
theorem lX12_line_14 : okL 1091 (.methodLink mX12_line.1.cls 102 mX12_in.1) = true := by decide +kernel
theorem eX12_line_17 : decode mX12_line.2.1 17 = .ok (.ifCond .eq 19, 3) := by decide +kernel
def bX12_line_20 : List OP := [oi (.iload_n 1), oi (.iload_n 2)]
theorem oX12_line_20 : okB mX12_line 20 bX12_line_20 = true := by decide +kernel
theorem eX12_line_22 : decode mX12_line.2.1 22 = .ok (.if_icmp .gt 14, 3) := by decide +kernel
def bX12_line_25 : List OP := [oi (.iload_n 3), oi (.iconst 0), oi (.sipush 1000)]
theorem oX12_line_25 : okB mX12_line 25 bX12_line_25 = true := by decide +kernel
theorem eX12_line_30 : decode mX12_line.2.1 30 = .ok (.invokestatic 102, 3) := by decide +kernel
theorem lX12_line_30 : okL 1091 (.methodLink mX12_line.1.cls 102 mX12_in.1) = true := by decide +kernel
theorem eX12_line_33 : decode mX12_line.2.1 33 = .ok (.ifCond .ne 6, 3) := by decide +kernel
def bX12_line_36 : List OP := [oi (.bipush (-2))]
theorem oX12_line_36 : okB mX12_line 36 bX12_line_36 = true := by decide +kernel
theorem eX12_line_38 : decode mX12_line.2.1 38 = .ok (.ireturn, 1) := by decide +kernel
def bX12_line_39 : List OP := [oi (.iload_n 1), oi (.istore 4)]
theorem oX12_line_39 : okB mX12_line 39 bX12_line_39 = true := by decide +kernel
def bX12_line_42 : List OP := [oi (.iload 4), oi (.iload_n 2)]
theorem oX12_line_42 : okB mX12_line 42 bX12_line_42 = true := by decide +kernel
theorem eX12_line_45 : decode mX12_line.2.1 45 = .ok (.if_icmp .gt 17, 3) := by decide +kernel
def bX12_line_48 : List OP := [oi (.aload_n 0), (.getfield 23, 7, 12, 7, 2, 974), oi (.iload 4), oi (.iload_n 3), oi .iastore, oi (.iinc 4 1), (.goto (-17), 0, 0, 42, 0, 0)]
theorem oX12_line_48 : okB mX12_line 48 bX12_line_48 = true := by decide +kernel
def bX12_line_62 : List OP := [oi (.iconst 1)]
theorem oX12_line_62 : okB mX12_line 62 bX12_line_62 = true := by decide +kernel
theorem eX12_line_63 : decode mX12_line.2.1 63 = .ok (.ireturn, 1) := by decide +kernel
def bX12_say_0 : List OP := [oi (.iload_n 1), oi (.bipush 33), oi (.bipush 126)]
theorem oX12_say_0 : okB mX12_say 0 bX12_say_0 = true := by decide +kernel
theorem eX12_say_5 : decode mX12_say.2.1 5 = .ok (.invokestatic 102, 3) := by decide +kernel
theorem lX12_say_5 : okL 1091 (.methodLink mX12_say.1.cls 102 mX12_in.1) = true := by decide +kernel
theorem eX12_say_8 : decode mX12_say.2.1 8 = .ok (.ifCond .ne 6, 3) := by decide +kernel
def bX12_say_11 : List OP := [oi (.bipush (-2))]
theorem oX12_say_11 : okB mX12_say 11 bX12_say_11 = true := by decide +kernel
theorem eX12_say_13 : decode mX12_say.2.1 13 = .ok (.ireturn, 1) := by decide +kernel
def bX12_say_14 : List OP := [oi (.aload_n 0), (.getfield 142, 8, 12, 8, 0, 975), oi (.bipush 40)]
theorem oX12_say_14 : okB mX12_say 14 bX12_say_14 = true := by decide +kernel
theorem eX12_say_20 : decode mX12_say.2.1 20 = .ok (.if_icmp .ne 6, 3) := by decide +kernel
def bX12_say_23 : List OP := [oi (.bipush (-4))]
theorem oX12_say_23 : okB mX12_say 23 bX12_say_23 = true := by decide +kernel
theorem eX12_say_25 : decode mX12_say.2.1 25 = .ok (.ireturn, 1) := by decide +kernel
def bX12_say_26 : List OP := [oi (.aload_n 0), (.getfield 26, 9, 12, 9, 2, 976), oi (.aload_n 0), (.getfield 142, 8, 12, 8, 0, 975), oi (.iload_n 1), oi .iastore, oi (.aload_n 0), oi .dup, (.getfield 142, 8, 12, 8, 0, 975), oi (.iconst 1), oi .iadd, (.putfield 142, 8, 12, 8, 0, 975), oi (.aload_n 0), (.getfield 142, 8, 12, 8, 0, 975)]
theorem oX12_say_26 : okB mX12_say 26 bX12_say_26 = true := by decide +kernel
theorem eX12_say_50 : decode mX12_say.2.1 50 = .ok (.ireturn, 1) := by decide +kernel
def bX12_wipe_0 : List OP := [oi (.aload_n 0), (.getfield 142, 8, 12, 8, 0, 975), oi (.istore_n 1), oi (.aload_n 0), oi (.iconst 0), (.putfield 142, 8, 12, 8, 0, 975), oi (.iload_n 1)]
theorem oX12_wipe_0 : okB mX12_wipe 0 bX12_wipe_0 = true := by decide +kernel
theorem eX12_wipe_11 : decode mX12_wipe.2.1 11 = .ok (.ireturn, 1) := by decide +kernel
def bX12_faultOf_0 : List OP := [oi (.iconst 0), oi (.istore_n 1), oi (.iconst 0), oi (.istore_n 2)]
theorem oX12_faultOf_0 : okB mX12_faultOf 0 bX12_faultOf_0 = true := by decide +kernel
def bX12_faultOf_4 : List OP := [oi (.iload_n 2), oi (.aload_n 0), (.getfield 142, 8, 12, 8, 0, 975)]
theorem oX12_faultOf_4 : okB mX12_faultOf 4 bX12_faultOf_4 = true := by decide +kernel
theorem eX12_faultOf_9 : decode mX12_faultOf.2.1 9 = .ok (.if_icmp .ge 231, 3) := by decide +kernel
def bX12_faultOf_12 : List OP := [oi (.aload_n 0), (.getfield 26, 9, 12, 9, 2, 976), oi (.iload_n 2), oi .iaload, oi (.istore_n 3), oi (.bipush (-6)), oi (.istore 4), oi (.iload_n 3), oi (.bipush 48), oi (.bipush 57)]
theorem oX12_faultOf_12 : okB mX12_faultOf 12 bX12_faultOf_12 = true := by decide +kernel
theorem eX12_faultOf_28 : decode mX12_faultOf.2.1 28 = .ok (.invokestatic 102, 3) := by decide +kernel
theorem lX12_faultOf_28 : okL 1091 (.methodLink mX12_faultOf.1.cls 102 mX12_in.1) = true := by decide +kernel
def bX12_faultOf_31 : List OP := [oi (.istore 5), oi (.iload_n 1)]
theorem oX12_faultOf_31 : okB mX12_faultOf 31 bX12_faultOf_31 = true := by decide +kernel
theorem eX12_faultOf_34 : decode mX12_faultOf.2.1 34 = .ok (.ifCond .ne 54, 3) := by decide +kernel
def bX12_faultOf_37 : List OP := [oi (.iload_n 3), oi (.bipush 98)]
theorem oX12_faultOf_37 : okB mX12_faultOf 37 bX12_faultOf_37 = true := by decide +kernel
theorem eX12_faultOf_40 : decode mX12_faultOf.2.1 40 = .ok (.if_icmp .eq 21, 3) := by decide +kernel
def bX12_faultOf_43 : List OP := [oi (.iload_n 3), oi (.bipush 108)]
theorem oX12_faultOf_43 : okB mX12_faultOf 43 bX12_faultOf_43 = true := by decide +kernel
theorem eX12_faultOf_46 : decode mX12_faultOf.2.1 46 = .ok (.if_icmp .eq 15, 3) := by decide +kernel
def bX12_faultOf_49 : List OP := [oi (.iload_n 3), oi (.bipush 115)]
theorem oX12_faultOf_49 : okB mX12_faultOf 49 bX12_faultOf_49 = true := by decide +kernel
theorem eX12_faultOf_52 : decode mX12_faultOf.2.1 52 = .ok (.if_icmp .eq 9, 3) := by decide +kernel
def bX12_faultOf_55 : List OP := [oi (.iload_n 3), oi (.bipush 107)]
theorem oX12_faultOf_55 : okB mX12_faultOf 55 bX12_faultOf_55 = true := by decide +kernel
theorem eX12_faultOf_58 : decode mX12_faultOf.2.1 58 = .ok (.if_icmp .ne 7, 3) := by decide +kernel
def bX12_faultOf_61 : List OP := [oi (.iconst 1), (.goto 21, 0, 0, 83, 0, 0)]
theorem oX12_faultOf_61 : okB mX12_faultOf 61 bX12_faultOf_61 = true := by decide +kernel
def bX12_faultOf_65 : List OP := [oi (.iload_n 3), oi (.bipush 48), oi (.bipush 50)]
theorem oX12_faultOf_65 : okB mX12_faultOf 65 bX12_faultOf_65 = true := by decide +kernel
theorem eX12_faultOf_70 : decode mX12_faultOf.2.1 70 = .ok (.invokestatic 102, 3) := by decide +kernel
theorem lX12_faultOf_70 : okL 1091 (.methodLink mX12_faultOf.1.cls 102 mX12_in.1) = true := by decide +kernel
theorem eX12_faultOf_73 : decode mX12_faultOf.2.1 73 = .ok (.ifCond .eq 8, 3) := by decide +kernel
def bX12_faultOf_76 : List OP := [oi (.bipush 8), (.goto 5, 0, 0, 83, 0, 0)]
theorem oX12_faultOf_76 : okB mX12_faultOf 76 bX12_faultOf_76 = true := by decide +kernel
def bX12_faultOf_81 : List OP := [oi (.bipush (-6))]
theorem oX12_faultOf_81 : okB mX12_faultOf 81 bX12_faultOf_81 = true := by decide +kernel
def bX12_faultOf_83 : List OP := [oi (.istore 4), (.goto 139, 0, 0, 224, 0, 0)]
theorem oX12_faultOf_83 : okB mX12_faultOf 83 bX12_faultOf_83 = true := by decide +kernel
def bX12_faultOf_88 : List OP := [oi (.iload_n 1), oi (.iconst 1)]
theorem oX12_faultOf_88 : okB mX12_faultOf 88 bX12_faultOf_88 = true := by decide +kernel
theorem eX12_faultOf_90 : decode mX12_faultOf.2.1 90 = .ok (.if_icmp .ne 26, 3) := by decide +kernel
def bX12_faultOf_93 : List OP := [oi (.iload_n 3), oi (.bipush 60)]
theorem oX12_faultOf_93 : okB mX12_faultOf 93 bX12_faultOf_93 = true := by decide +kernel
theorem eX12_faultOf_96 : decode mX12_faultOf.2.1 96 = .ok (.if_icmp .eq 9, 3) := by decide +kernel
def bX12_faultOf_99 : List OP := [oi (.iload_n 3), oi (.bipush 62)]
theorem oX12_faultOf_99 : okB mX12_faultOf 99 bX12_faultOf_99 = true := by decide +kernel
theorem eX12_faultOf_102 : decode mX12_faultOf.2.1 102 = .ok (.if_icmp .ne 7, 3) := by decide +kernel
def bX12_faultOf_105 : List OP := [oi (.iconst 2), (.goto 5, 0, 0, 111, 0, 0)]
theorem oX12_faultOf_105 : okB mX12_faultOf 105 bX12_faultOf_105 = true := by decide +kernel
def bX12_faultOf_109 : List OP := [oi (.bipush (-6))]
theorem oX12_faultOf_109 : okB mX12_faultOf 109 bX12_faultOf_109 = true := by decide +kernel
def bX12_faultOf_111 : List OP := [oi (.istore 4), (.goto 111, 0, 0, 224, 0, 0)]
theorem oX12_faultOf_111 : okB mX12_faultOf 111 bX12_faultOf_111 = true := by decide +kernel
def bX12_faultOf_116 : List OP := [oi (.iload_n 1), oi (.iconst 2), oi (.iconst 5)]
theorem oX12_faultOf_116 : okB mX12_faultOf 116 bX12_faultOf_116 = true := by decide +kernel
theorem eX12_faultOf_119 : decode mX12_faultOf.2.1 119 = .ok (.invokestatic 102, 3) := by decide +kernel
theorem lX12_faultOf_119 : okL 1091 (.methodLink mX12_faultOf.1.cls 102 mX12_in.1) = true := by decide +kernel
theorem eX12_faultOf_122 : decode mX12_faultOf.2.1 122 = .ok (.ifCond .eq 26, 3) := by decide +kernel
def bX12_faultOf_125 : List OP := [oi (.iload 5)]
theorem oX12_faultOf_125 : okB mX12_faultOf 125 bX12_faultOf_125 = true := by decide +kernel
theorem eX12_faultOf_127 : decode mX12_faultOf.2.1 127 = .ok (.ifCond .eq 21, 3) := by decide +kernel
def bX12_faultOf_130 : List OP := [oi (.iload_n 1), oi (.iconst 5)]
theorem oX12_faultOf_130 : okB mX12_faultOf 130 bX12_faultOf_130 = true := by decide +kernel
theorem eX12_faultOf_132 : decode mX12_faultOf.2.1 132 = .ok (.if_icmp .ge 9, 3) := by decide +kernel
def bX12_faultOf_135 : List OP := [oi (.iload_n 1), oi (.iconst 1), oi .iadd, (.goto 5, 0, 0, 143, 0, 0)]
theorem oX12_faultOf_135 : okB mX12_faultOf 135 bX12_faultOf_135 = true := by decide +kernel
def bX12_faultOf_141 : List OP := [oi (.bipush (-6))]
theorem oX12_faultOf_141 : okB mX12_faultOf 141 bX12_faultOf_141 = true := by decide +kernel
def bX12_faultOf_143 : List OP := [oi (.istore 4), (.goto 79, 0, 0, 224, 0, 0)]
theorem oX12_faultOf_143 : okB mX12_faultOf 143 bX12_faultOf_143 = true := by decide +kernel
def bX12_faultOf_148 : List OP := [oi (.iload_n 1), oi (.iconst 3), oi (.iconst 5)]
theorem oX12_faultOf_148 : okB mX12_faultOf 148 bX12_faultOf_148 = true := by decide +kernel
theorem eX12_faultOf_151 : decode mX12_faultOf.2.1 151 = .ok (.invokestatic 102, 3) := by decide +kernel
theorem lX12_faultOf_151 : okL 1091 (.methodLink mX12_faultOf.1.cls 102 mX12_in.1) = true := by decide +kernel
theorem eX12_faultOf_154 : decode mX12_faultOf.2.1 154 = .ok (.ifCond .eq 21, 3) := by decide +kernel
def bX12_faultOf_157 : List OP := [oi (.iload_n 3), oi (.bipush 58)]
theorem oX12_faultOf_157 : okB mX12_faultOf 157 bX12_faultOf_157 = true := by decide +kernel
theorem eX12_faultOf_160 : decode mX12_faultOf.2.1 160 = .ok (.if_icmp .ne 8, 3) := by decide +kernel
def bX12_faultOf_163 : List OP := [oi (.bipush 6), (.goto 5, 0, 0, 170, 0, 0)]
theorem oX12_faultOf_163 : okB mX12_faultOf 163 bX12_faultOf_163 = true := by decide +kernel
def bX12_faultOf_168 : List OP := [oi (.bipush (-6))]
theorem oX12_faultOf_168 : okB mX12_faultOf 168 bX12_faultOf_168 = true := by decide +kernel
def bX12_faultOf_170 : List OP := [oi (.istore 4), (.goto 52, 0, 0, 224, 0, 0)]
theorem oX12_faultOf_170 : okB mX12_faultOf 170 bX12_faultOf_170 = true := by decide +kernel
def bX12_faultOf_175 : List OP := [oi (.iload_n 1), oi (.bipush 6)]
theorem oX12_faultOf_175 : okB mX12_faultOf 175 bX12_faultOf_175 = true := by decide +kernel
theorem eX12_faultOf_178 : decode mX12_faultOf.2.1 178 = .ok (.if_icmp .ne 26, 3) := by decide +kernel
def bX12_faultOf_181 : List OP := [oi (.iload_n 3), oi (.bipush 48), oi (.bipush 50)]
theorem oX12_faultOf_181 : okB mX12_faultOf 181 bX12_faultOf_181 = true := by decide +kernel
theorem eX12_faultOf_186 : decode mX12_faultOf.2.1 186 = .ok (.invokestatic 102, 3) := by decide +kernel
theorem lX12_faultOf_186 : okL 1091 (.methodLink mX12_faultOf.1.cls 102 mX12_in.1) = true := by decide +kernel
theorem eX12_faultOf_189 : decode mX12_faultOf.2.1 189 = .ok (.ifCond .eq 8, 3) := by decide +kernel
def bX12_faultOf_192 : List OP := [oi (.bipush 7), (.goto 5, 0, 0, 199, 0, 0)]
theorem oX12_faultOf_192 : okB mX12_faultOf 192 bX12_faultOf_192 = true := by decide +kernel
def bX12_faultOf_197 : List OP := [oi (.bipush (-6))]
theorem oX12_faultOf_197 : okB mX12_faultOf 197 bX12_faultOf_197 = true := by decide +kernel
def bX12_faultOf_199 : List OP := [oi (.istore 4), (.goto 23, 0, 0, 224, 0, 0)]
theorem oX12_faultOf_199 : okB mX12_faultOf 199 bX12_faultOf_199 = true := by decide +kernel
def bX12_faultOf_204 : List OP := [oi (.iload_n 1), oi (.bipush 7)]
theorem oX12_faultOf_204 : okB mX12_faultOf 204 bX12_faultOf_204 = true := by decide +kernel
theorem eX12_faultOf_207 : decode mX12_faultOf.2.1 207 = .ok (.if_icmp .ne 17, 3) := by decide +kernel
def bX12_faultOf_210 : List OP := [oi (.iload_n 3), oi (.bipush 59)]
theorem oX12_faultOf_210 : okB mX12_faultOf 210 bX12_faultOf_210 = true := by decide +kernel
theorem eX12_faultOf_213 : decode mX12_faultOf.2.1 213 = .ok (.if_icmp .ne 7, 3) := by decide +kernel
def bX12_faultOf_216 : List OP := [oi (.iconst 0), (.goto 5, 0, 0, 222, 0, 0)]
theorem oX12_faultOf_216 : okB mX12_faultOf 216 bX12_faultOf_216 = true := by decide +kernel
def bX12_faultOf_220 : List OP := [oi (.bipush (-6))]
theorem oX12_faultOf_220 : okB mX12_faultOf 220 bX12_faultOf_220 = true := by decide +kernel
def bX12_faultOf_222 : List OP := [oi (.istore 4)]
theorem oX12_faultOf_222 : okB mX12_faultOf 222 bX12_faultOf_222 = true := by decide +kernel
def bX12_faultOf_224 : List OP := [oi (.iload 4)]
theorem oX12_faultOf_224 : okB mX12_faultOf 224 bX12_faultOf_224 = true := by decide +kernel
theorem eX12_faultOf_226 : decode mX12_faultOf.2.1 226 = .ok (.ifCond .ge 5, 3) := by decide +kernel
def bX12_faultOf_229 : List OP := [oi (.iload_n 2)]
theorem oX12_faultOf_229 : okB mX12_faultOf 229 bX12_faultOf_229 = true := by decide +kernel
theorem eX12_faultOf_230 : decode mX12_faultOf.2.1 230 = .ok (.ireturn, 1) := by decide +kernel
def bX12_faultOf_231 : List OP := [oi (.iload 4), oi (.istore_n 1), oi (.iinc 2 1), (.goto (-233), 0, 0, 4, 0, 0)]
theorem oX12_faultOf_231 : okB mX12_faultOf 231 bX12_faultOf_231 = true := by decide +kernel
def bX12_faultOf_240 : List OP := [oi (.iload_n 1), oi (.bipush 8)]
theorem oX12_faultOf_240 : okB mX12_faultOf 240 bX12_faultOf_240 = true := by decide +kernel
theorem eX12_faultOf_243 : decode mX12_faultOf.2.1 243 = .ok (.if_icmp .ne 8, 3) := by decide +kernel
def bX12_faultOf_246 : List OP := [oi (.bipush (-6)), (.goto 7, 0, 0, 255, 0, 0)]
theorem oX12_faultOf_246 : okB mX12_faultOf 246 bX12_faultOf_246 = true := by decide +kernel
def bX12_faultOf_251 : List OP := [oi (.aload_n 0), (.getfield 142, 8, 12, 8, 0, 975)]
theorem oX12_faultOf_251 : okB mX12_faultOf 251 bX12_faultOf_251 = true := by decide +kernel
theorem eX12_faultOf_255 : decode mX12_faultOf.2.1 255 = .ok (.ireturn, 1) := by decide +kernel
def bX12_fault_0 : List OP := [oi (.aload_n 0)]
theorem oX12_fault_0 : okB mX12_fault 0 bX12_fault_0 = true := by decide +kernel
theorem eX12_fault_1 : decode mX12_fault.2.1 1 = .ok (.invokevirtual 145, 3) := by decide +kernel
theorem lX12_fault_1 : okL 1176 (.methodLink mX12_fault.1.cls 145 mX12_faultOf.1) = true := by decide +kernel
theorem eX12_fault_4 : decode mX12_fault.2.1 4 = .ok (.ireturn, 1) := by decide +kernel
def bX12_rule_0 : List OP := [oi (.aload_n 0)]
theorem oX12_rule_0 : okB mX12_rule 0 bX12_rule_0 = true := by decide +kernel
theorem eX12_rule_1 : decode mX12_rule.2.1 1 = .ok (.invokevirtual 145, 3) := by decide +kernel
theorem lX12_rule_1 : okL 1176 (.methodLink mX12_rule.1.cls 145 mX12_faultOf.1) = true := by decide +kernel
theorem eX12_rule_4 : decode mX12_rule.2.1 4 = .ok (.ifCond .lt 6, 3) := by decide +kernel
def bX12_rule_7 : List OP := [oi (.bipush (-5))]
theorem oX12_rule_7 : okB mX12_rule 7 bX12_rule_7 = true := by decide +kernel
theorem eX12_rule_9 : decode mX12_rule.2.1 9 = .ok (.ireturn, 1) := by decide +kernel
def bX12_rule_10 : List OP := [oi (.aload_n 0), oi (.aload_n 0), (.getfield 142, 8, 12, 8, 0, 975), (.putfield 149, 10, 12, 10, 0, 977), oi (.iconst 0), oi (.istore_n 1)]
theorem oX12_rule_10 : okB mX12_rule 10 bX12_rule_10 = true := by decide +kernel
def bX12_rule_20 : List OP := [oi (.iload_n 1), oi (.aload_n 0), (.getfield 142, 8, 12, 8, 0, 975)]
theorem oX12_rule_20 : okB mX12_rule 20 bX12_rule_20 = true := by decide +kernel
theorem eX12_rule_25 : decode mX12_rule.2.1 25 = .ok (.if_icmp .ge 21, 3) := by decide +kernel
def bX12_rule_28 : List OP := [oi (.aload_n 0), (.getfield 29, 11, 12, 11, 2, 978), oi (.iload_n 1), oi (.aload_n 0), (.getfield 26, 9, 12, 9, 2, 976), oi (.iload_n 1), oi .iaload, oi .iastore, oi (.iinc 1 1), (.goto (-23), 0, 0, 20, 0, 0)]
theorem oX12_rule_28 : okB mX12_rule 28 bX12_rule_28 = true := by decide +kernel
def bX12_rule_46 : List OP := [oi (.aload_n 0), oi (.iconst 0), (.putfield 142, 8, 12, 8, 0, 975), oi (.iconst 1)]
theorem oX12_rule_46 : okB mX12_rule 46 bX12_rule_46 = true := by decide +kernel
theorem eX12_rule_52 : decode mX12_rule.2.1 52 = .ok (.ireturn, 1) := by decide +kernel
def bX12_pick_0 : List OP := [oi (.iconst 0), oi (.istore 5)]
theorem oX12_pick_0 : okB mX12_pick 0 bX12_pick_0 = true := by decide +kernel
def bX12_pick_3 : List OP := [oi (.iload 5), oi (.aload_n 0), (.getfield 149, 10, 12, 10, 0, 977)]
theorem oX12_pick_3 : okB mX12_pick 3 bX12_pick_3 = true := by decide +kernel
theorem eX12_pick_9 : decode mX12_pick.2.1 9 = .ok (.if_icmp .ge 171, 3) := by decide +kernel
def bX12_pick_12 : List OP := [oi (.aload_n 0), (.getfield 29, 11, 12, 11, 2, 978), oi (.iload 5), oi .iaload, oi (.istore 6), oi (.iload 6), oi (.bipush 48), oi (.bipush 50)]
theorem oX12_pick_12 : okB mX12_pick 12 bX12_pick_12 = true := by decide +kernel
theorem eX12_pick_27 : decode mX12_pick.2.1 27 = .ok (.invokestatic 102, 3) := by decide +kernel
theorem lX12_pick_27 : okL 1091 (.methodLink mX12_pick.1.cls 102 mX12_in.1) = true := by decide +kernel
theorem eX12_pick_30 : decode mX12_pick.2.1 30 = .ok (.ifCond .eq 9, 3) := by decide +kernel
def bX12_pick_33 : List OP := [oi (.iload 6), oi (.bipush 48), oi .isub]
theorem oX12_pick_33 : okB mX12_pick 33 bX12_pick_33 = true := by decide +kernel
theorem eX12_pick_38 : decode mX12_pick.2.1 38 = .ok (.ireturn, 1) := by decide +kernel
def bX12_pick_39 : List OP := [oi (.iload 6), oi (.bipush 98)]
theorem oX12_pick_39 : okB mX12_pick 39 bX12_pick_39 = true := by decide +kernel
theorem eX12_pick_43 : decode mX12_pick.2.1 43 = .ok (.if_icmp .ne 7, 3) := by decide +kernel
def bX12_pick_46 : List OP := [oi (.iload_n 1), (.goto 27, 0, 0, 74, 0, 0)]
theorem oX12_pick_46 : okB mX12_pick 46 bX12_pick_46 = true := by decide +kernel
def bX12_pick_50 : List OP := [oi (.iload 6), oi (.bipush 108)]
theorem oX12_pick_50 : okB mX12_pick 50 bX12_pick_50 = true := by decide +kernel
theorem eX12_pick_54 : decode mX12_pick.2.1 54 = .ok (.if_icmp .ne 7, 3) := by decide +kernel
def bX12_pick_57 : List OP := [oi (.iload_n 2), (.goto 16, 0, 0, 74, 0, 0)]
theorem oX12_pick_57 : okB mX12_pick 57 bX12_pick_57 = true := by decide +kernel
def bX12_pick_61 : List OP := [oi (.iload 6), oi (.bipush 115)]
theorem oX12_pick_61 : okB mX12_pick 61 bX12_pick_61 = true := by decide +kernel
theorem eX12_pick_65 : decode mX12_pick.2.1 65 = .ok (.if_icmp .ne 7, 3) := by decide +kernel
def bX12_pick_68 : List OP := [oi (.iload_n 3), (.goto 5, 0, 0, 74, 0, 0)]
theorem oX12_pick_68 : okB mX12_pick 68 bX12_pick_68 = true := by decide +kernel
def bX12_pick_72 : List OP := [oi (.iload 4)]
theorem oX12_pick_72 : okB mX12_pick 72 bX12_pick_72 = true := by decide +kernel
def bX12_pick_74 : List OP := [oi (.istore 7), oi (.aload_n 0), (.getfield 29, 11, 12, 11, 2, 978), oi (.iload 5), oi (.iconst 1), oi .iadd, oi .iaload, oi (.bipush 60)]
theorem oX12_pick_74 : okB mX12_pick 74 bX12_pick_74 = true := by decide +kernel
theorem eX12_pick_87 : decode mX12_pick.2.1 87 = .ok (.if_icmp .ne 7, 3) := by decide +kernel
def bX12_pick_90 : List OP := [oi (.iconst 1), (.goto 4, 0, 0, 95, 0, 0)]
theorem oX12_pick_90 : okB mX12_pick 90 bX12_pick_90 = true := by decide +kernel
def bX12_pick_94 : List OP := [oi (.iconst 0)]
theorem oX12_pick_94 : okB mX12_pick 94 bX12_pick_94 = true := by decide +kernel
def bX12_pick_95 : List OP := [oi (.istore 8), oi (.iconst 0), oi (.istore 9), oi (.iinc 5 2)]
theorem oX12_pick_95 : okB mX12_pick 95 bX12_pick_95 = true := by decide +kernel
def bX12_pick_103 : List OP := [oi (.aload_n 0), (.getfield 29, 11, 12, 11, 2, 978), oi (.iload 5), oi .iaload, oi (.bipush 58)]
theorem oX12_pick_103 : okB mX12_pick 103 bX12_pick_103 = true := by decide +kernel
theorem eX12_pick_112 : decode mX12_pick.2.1 112 = .ok (.if_icmp .eq 27, 3) := by decide +kernel
def bX12_pick_115 : List OP := [oi (.bipush 10), oi (.iload 9), oi .imul, oi (.aload_n 0), (.getfield 29, 11, 12, 11, 2, 978), oi (.iload 5), oi .iaload, oi .iadd, oi (.bipush 48), oi .isub, oi (.istore 9), oi (.iinc 5 1), (.goto (-33), 0, 0, 103, 0, 0)]
theorem oX12_pick_115 : okB mX12_pick 115 bX12_pick_115 = true := by decide +kernel
def bX12_pick_139 : List OP := [oi (.iload 8)]
theorem oX12_pick_139 : okB mX12_pick 139 bX12_pick_139 = true := by decide +kernel
theorem eX12_pick_141 : decode mX12_pick.2.1 141 = .ok (.ifCond .eq 13, 3) := by decide +kernel
def bX12_pick_144 : List OP := [oi (.iload 7), oi (.iload 9)]
theorem oX12_pick_144 : okB mX12_pick 144 bX12_pick_144 = true := by decide +kernel
theorem eX12_pick_148 : decode mX12_pick.2.1 148 = .ok (.if_icmp .ge 26, 3) := by decide +kernel
def bX12_pick_151 : List OP := [(.goto 10, 0, 0, 161, 0, 0)]
theorem oX12_pick_151 : okB mX12_pick 151 bX12_pick_151 = true := by decide +kernel
def bX12_pick_154 : List OP := [oi (.iload 7), oi (.iload 9)]
theorem oX12_pick_154 : okB mX12_pick 154 bX12_pick_154 = true := by decide +kernel
theorem eX12_pick_158 : decode mX12_pick.2.1 158 = .ok (.if_icmp .le 16, 3) := by decide +kernel
def bX12_pick_161 : List OP := [oi (.aload_n 0), (.getfield 29, 11, 12, 11, 2, 978), oi (.iload 5), oi (.iconst 1), oi .iadd, oi .iaload, oi (.bipush 48), oi .isub]
theorem oX12_pick_161 : okB mX12_pick 161 bX12_pick_161 = true := by decide +kernel
theorem eX12_pick_173 : decode mX12_pick.2.1 173 = .ok (.ireturn, 1) := by decide +kernel
def bX12_pick_174 : List OP := [oi (.iinc 5 3), (.goto (-174), 0, 0, 3, 0, 0)]
theorem oX12_pick_174 : okB mX12_pick 174 bX12_pick_174 = true := by decide +kernel
def bX12_pick_180 : List OP := [oi (.iconst 0)]
theorem oX12_pick_180 : okB mX12_pick 180 bX12_pick_180 = true := by decide +kernel
theorem eX12_pick_181 : decode mX12_pick.2.1 181 = .ok (.ireturn, 1) := by decide +kernel
def bX12_run_0 : List OP := [oi (.aload_n 0), oi (.iconst 0), (.putfield 152, 31, 12, 31, 0, 998), oi (.aload_n 0), oi (.iconst 0), (.putfield 155, 32, 12, 32, 0, 999), oi (.aload_n 0), oi (.iconst 0), (.putfield 158, 33, 12, 33, 0, 1000), oi (.aload_n 0), oi (.bipush (-6)), (.putfield 161, 34, 12, 34, 0, 1001), oi (.iconst 0), oi (.istore_n 2)]
theorem oX12_run_0 : okB mX12_run 0 bX12_run_0 = true := by decide +kernel
def bX12_run_23 : List OP := [oi (.iload_n 2), oi (.bipush 8)]
theorem oX12_run_23 : okB mX12_run 23 bX12_run_23 = true := by decide +kernel
theorem eX12_run_26 : decode mX12_run.2.1 26 = .ok (.if_icmp .ge 17, 3) := by decide +kernel
def bX12_run_29 : List OP := [oi (.aload_n 0), (.getfield 86, 35, 12, 35, 2, 1002), oi (.iload_n 2), oi (.bipush (-6)), oi .iastore, oi (.iinc 2 1), (.goto (-17), 0, 0, 23, 0, 0)]
theorem oX12_run_29 : okB mX12_run 29 bX12_run_29 = true := by decide +kernel
def bX12_run_43 : List OP := [oi (.iconst 0), oi (.istore_n 2), oi (.iconst 0), oi (.istore_n 3), oi (.iconst 0), oi (.istore 4), oi (.iconst 0), oi (.istore 5), oi (.iconst 0), oi (.istore 6)]
theorem oX12_run_43 : okB mX12_run 43 bX12_run_43 = true := by decide +kernel
def bX12_run_56 : List OP := [oi (.iload 6), oi (.bipush 60)]
theorem oX12_run_56 : okB mX12_run 56 bX12_run_56 = true := by decide +kernel
theorem eX12_run_60 : decode mX12_run.2.1 60 = .ok (.if_icmp .ge 299, 3) := by decide +kernel
def bX12_run_63 : List OP := [oi (.aload_n 0), (.getfield 152, 31, 12, 31, 0, 998), oi (.aload_n 0), (.getfield 92, 4, 12, 4, 0, 971)]
theorem oX12_run_63 : okB mX12_run 63 bX12_run_63 = true := by decide +kernel
theorem eX12_run_71 : decode mX12_run.2.1 71 = .ok (.if_icmp .ge 288, 3) := by decide +kernel
def bX12_run_74 : List OP := [oi (.aload_n 0), (.getfield 23, 7, 12, 7, 2, 974), oi (.iload 6), oi .iaload, oi (.istore 7)]
theorem oX12_run_74 : okB mX12_run 74 bX12_run_74 = true := by decide +kernel
def bX12_run_83 : List OP := [oi (.iload 7)]
theorem oX12_run_83 : okB mX12_run 83 bX12_run_83 = true := by decide +kernel
theorem eX12_run_85 : decode mX12_run.2.1 85 = .ok (.ifCond .le 157, 3) := by decide +kernel
def bX12_run_88 : List OP := [oi (.iload_n 3), oi (.aload_n 0), (.getfield 92, 4, 12, 4, 0, 971)]
theorem oX12_run_88 : okB mX12_run 88 bX12_run_88 = true := by decide +kernel
theorem eX12_run_93 : decode mX12_run.2.1 93 = .ok (.if_icmp .ge 149, 3) := by decide +kernel
def bX12_run_96 : List OP := [oi (.iload 4)]
theorem oX12_run_96 : okB mX12_run 96 bX12_run_96 = true := by decide +kernel
theorem eX12_run_98 : decode mX12_run.2.1 98 = .ok (.ifCond .ne 98, 3) := by decide +kernel
def bX12_run_101 : List OP := [oi (.iload_n 3)]
theorem oX12_run_101 : okB mX12_run 101 bX12_run_101 = true := by decide +kernel
theorem eX12_run_102 : decode mX12_run.2.1 102 = .ok (.ifCond .eq 15, 3) := by decide +kernel
def bX12_run_105 : List OP := [oi (.aload_n 0), (.getfield 96, 6, 12, 6, 0, 973), oi (.iload_n 3), oi .ishr, oi (.iconst 1), oi .iand, oi (.iconst 1)]
theorem oX12_run_105 : okB mX12_run 105 bX12_run_105 = true := by decide +kernel
theorem eX12_run_114 : decode mX12_run.2.1 114 = .ok (.if_icmp .ne 7, 3) := by decide +kernel
def bX12_run_117 : List OP := [oi (.iconst 1), (.goto 4, 0, 0, 122, 0, 0)]
theorem oX12_run_117 : okB mX12_run 117 bX12_run_117 = true := by decide +kernel
def bX12_run_121 : List OP := [oi (.iconst 0)]
theorem oX12_run_121 : okB mX12_run 121 bX12_run_121 = true := by decide +kernel
def bX12_run_122 : List OP := [oi (.istore 8), oi (.iload_n 1)]
theorem oX12_run_122 : okB mX12_run 122 bX12_run_122 = true := by decide +kernel
theorem eX12_run_125 : decode mX12_run.2.1 125 = .ok (.ifCond .ne 12, 3) := by decide +kernel
def bX12_run_128 : List OP := [oi (.aload_n 0), (.getfield 89, 36, 12, 36, 2, 1003), oi (.iload_n 3), oi .iaload, (.goto 42, 0, 0, 176, 0, 0)]
theorem oX12_run_128 : okB mX12_run 128 bX12_run_128 = true := by decide +kernel
def bX12_run_137 : List OP := [oi (.iload 8)]
theorem oX12_run_137 : okB mX12_run 137 bX12_run_137 = true := by decide +kernel
theorem eX12_run_139 : decode mX12_run.2.1 139 = .ok (.ifCond .eq 36, 3) := by decide +kernel
def bX12_run_142 : List OP := [oi (.aload_n 0), oi (.iload_n 3), oi (.aload_n 0), (.getfield 152, 31, 12, 31, 0, 998), oi .isub, oi (.iload 6)]
theorem oX12_run_142 : okB mX12_run 142 bX12_run_142 = true := by decide +kernel
theorem eX12_run_151 : decode mX12_run.2.1 151 = .ok (.ifCond .ne 7, 3) := by decide +kernel
def bX12_run_154 : List OP := [oi (.iconst 0), (.goto 12, 0, 0, 167, 0, 0)]
theorem oX12_run_154 : okB mX12_run 154 bX12_run_154 = true := by decide +kernel
def bX12_run_158 : List OP := [oi (.aload_n 0), (.getfield 23, 7, 12, 7, 2, 974), oi (.iload 6), oi (.iconst 1), oi .isub, oi .iaload]
theorem oX12_run_158 : okB mX12_run 158 bX12_run_158 = true := by decide +kernel
def bX12_run_167 : List OP := [oi (.iload_n 2), oi (.iload_n 3)]
theorem oX12_run_167 : okB mX12_run 167 bX12_run_167 = true := by decide +kernel
theorem eX12_run_169 : decode mX12_run.2.1 169 = .ok (.invokevirtual 164, 3) := by decide +kernel
theorem lX12_run_169 : okL 1195 (.methodLink mX12_run.1.cls 164 mX12_pick.1) = true := by decide +kernel
def bX12_run_172 : List OP := [(.goto 4, 0, 0, 176, 0, 0)]
theorem oX12_run_172 : okB mX12_run 172 bX12_run_172 = true := by decide +kernel
def bX12_run_175 : List OP := [oi (.iload_n 2)]
theorem oX12_run_175 : okB mX12_run 175 bX12_run_175 = true := by decide +kernel
def bX12_run_176 : List OP := [oi (.istore_n 2), oi (.aload_n 0), (.getfield 86, 35, 12, 35, 2, 1002), oi (.iload_n 3), oi (.iload_n 2), oi .iastore, oi (.aload_n 0), (.getfield 20, 5, 12, 5, 2, 972), oi (.iconst 3), oi (.iload_n 3), oi .imul, oi (.iload_n 2), oi .iadd, oi .iaload, oi (.istore 4)]
theorem oX12_run_176 : okB mX12_run 176 bX12_run_176 = true := by decide +kernel
def bX12_run_196 : List OP := [oi (.iload 7), oi (.iload 4)]
theorem oX12_run_196 : okB mX12_run 196 bX12_run_196 = true := by decide +kernel
theorem eX12_run_200 : decode mX12_run.2.1 200 = .ok (.if_icmp .ge 8, 3) := by decide +kernel
def bX12_run_203 : List OP := [oi (.iload 7), (.goto 5, 0, 0, 210, 0, 0)]
theorem oX12_run_203 : okB mX12_run 203 bX12_run_203 = true := by decide +kernel
def bX12_run_208 : List OP := [oi (.iload 4)]
theorem oX12_run_208 : okB mX12_run 208 bX12_run_208 = true := by decide +kernel
def bX12_run_210 : List OP := [oi (.istore 8), oi (.iload 7), oi (.iload 8), oi .isub, oi (.istore 7), oi (.iload 4), oi (.iload 8), oi .isub, oi (.istore 4), oi (.iload_n 3), oi (.iload 4)]
theorem oX12_run_210 : okB mX12_run 210 bX12_run_210 = true := by decide +kernel
theorem eX12_run_229 : decode mX12_run.2.1 229 = .ok (.ifCond .ne 7, 3) := by decide +kernel
def bX12_run_232 : List OP := [oi (.iconst 1), (.goto 4, 0, 0, 237, 0, 0)]
theorem oX12_run_232 : okB mX12_run 232 bX12_run_232 = true := by decide +kernel
def bX12_run_236 : List OP := [oi (.iconst 0)]
theorem oX12_run_236 : okB mX12_run 236 bX12_run_236 = true := by decide +kernel
def bX12_run_237 : List OP := [oi .iadd, oi (.istore_n 3), (.goto (-156), 0, 0, 83, 0, 0)]
theorem oX12_run_237 : okB mX12_run 237 bX12_run_237 = true := by decide +kernel
def bX12_run_242 : List OP := [oi (.iload 5)]
theorem oX12_run_242 : okB mX12_run 242 bX12_run_242 = true := by decide +kernel
theorem eX12_run_244 : decode mX12_run.2.1 244 = .ok (.ifCond .ne 21, 3) := by decide +kernel
def bX12_run_247 : List OP := [oi (.iload_n 3), oi (.aload_n 0), (.getfield 17, 3, 12, 3, 2, 970), oi (.iconst 2), oi .iaload]
theorem oX12_run_247 : okB mX12_run 247 bX12_run_247 = true := by decide +kernel
theorem eX12_run_254 : decode mX12_run.2.1 254 = .ok (.if_icmp .ge 11, 3) := by decide +kernel
def bX12_run_257 : List OP := [oi (.iload_n 3), oi (.aload_n 0), (.getfield 92, 4, 12, 4, 0, 971)]
theorem oX12_run_257 : okB mX12_run 257 bX12_run_257 = true := by decide +kernel
theorem eX12_run_262 : decode mX12_run.2.1 262 = .ok (.if_icmp .ne 7, 3) := by decide +kernel
def bX12_run_265 : List OP := [oi (.iconst 1), (.goto 4, 0, 0, 270, 0, 0)]
theorem oX12_run_265 : okB mX12_run 265 bX12_run_265 = true := by decide +kernel
def bX12_run_269 : List OP := [oi (.iconst 0)]
theorem oX12_run_269 : okB mX12_run 269 bX12_run_269 = true := by decide +kernel
def bX12_run_270 : List OP := [oi (.istore 5), oi (.iload 5)]
theorem oX12_run_270 : okB mX12_run 270 bX12_run_270 = true := by decide +kernel
theorem eX12_run_274 : decode mX12_run.2.1 274 = .ok (.ifCond .eq 64, 3) := by decide +kernel
def bX12_run_277 : List OP := [oi (.iload_n 3), oi (.aload_n 0), (.getfield 152, 31, 12, 31, 0, 998)]
theorem oX12_run_277 : okB mX12_run 277 bX12_run_277 = true := by decide +kernel
theorem eX12_run_282 : decode mX12_run.2.1 282 = .ok (.if_icmp .le 56, 3) := by decide +kernel
def bX12_run_285 : List OP := [oi (.aload_n 0), oi .dup, (.getfield 158, 33, 12, 33, 0, 1000), oi (.aload_n 0), (.getfield 86, 35, 12, 35, 2, 1002), oi (.aload_n 0), (.getfield 152, 31, 12, 31, 0, 998), oi .iaload, oi .iadd, (.putfield 158, 33, 12, 33, 0, 1000), oi (.aload_n 0), oi .dup, (.getfield 152, 31, 12, 31, 0, 998), oi (.iconst 1), oi .iadd, (.putfield 152, 31, 12, 31, 0, 998), oi (.aload_n 0), oi (.aload_n 0), (.getfield 152, 31, 12, 31, 0, 998), oi (.aload_n 0), (.getfield 92, 4, 12, 4, 0, 971)]
theorem oX12_run_285 : okB mX12_run 285 bX12_run_285 = true := by decide +kernel
theorem eX12_run_322 : decode mX12_run.2.1 322 = .ok (.if_icmp .ne 8, 3) := by decide +kernel
def bX12_run_325 : List OP := [oi (.iload 6), (.goto 5, 0, 0, 332, 0, 0)]
theorem oX12_run_325 : okB mX12_run 325 bX12_run_325 = true := by decide +kernel
def bX12_run_330 : List OP := [oi (.bipush (-6))]
theorem oX12_run_330 : okB mX12_run 330 bX12_run_330 = true := by decide +kernel
def bX12_run_332 : List OP := [(.putfield 161, 34, 12, 34, 0, 1001), (.goto 18, 0, 0, 353, 0, 0)]
theorem oX12_run_332 : okB mX12_run 332 bX12_run_332 = true := by decide +kernel
def bX12_run_338 : List OP := [oi (.iload 5)]
theorem oX12_run_338 : okB mX12_run 338 bX12_run_338 = true := by decide +kernel
theorem eX12_run_340 : decode mX12_run.2.1 340 = .ok (.ifCond .eq 13, 3) := by decide +kernel
def bX12_run_343 : List OP := [oi (.aload_n 0), oi .dup, (.getfield 155, 32, 12, 32, 0, 999), oi (.iconst 1), oi .iadd, (.putfield 155, 32, 12, 32, 0, 999)]
theorem oX12_run_343 : okB mX12_run 343 bX12_run_343 = true := by decide +kernel
def bX12_run_353 : List OP := [oi (.iinc 6 1), (.goto (-300), 0, 0, 56, 0, 0)]
theorem oX12_run_353 : okB mX12_run 353 bX12_run_353 = true := by decide +kernel
theorem eX12_run_359 : decode mX12_run.2.1 359 = .ok (.return_, 1) := by decide +kernel
def bX12_tell_0 : List OP := [oi (.iload_n 1)]
theorem oX12_tell_0 : okB mX12_tell 0 bX12_tell_0 = true := by decide +kernel
theorem eX12_tell_1 : decode mX12_tell.2.1 1 = .ok (.ifCond .ne 10, 3) := by decide +kernel
def bX12_tell_4 : List OP := [oi (.aload_n 0), (.getfield 152, 31, 12, 31, 0, 998), (.goto 64, 0, 0, 72, 0, 0)]
theorem oX12_tell_4 : okB mX12_tell 4 bX12_tell_4 = true := by decide +kernel
def bX12_tell_11 : List OP := [oi (.iload_n 1), oi (.iconst 1)]
theorem oX12_tell_11 : okB mX12_tell 11 bX12_tell_11 = true := by decide +kernel
theorem eX12_tell_13 : decode mX12_tell.2.1 13 = .ok (.if_icmp .ne 10, 3) := by decide +kernel
def bX12_tell_16 : List OP := [oi (.aload_n 0), (.getfield 155, 32, 12, 32, 0, 999), (.goto 52, 0, 0, 72, 0, 0)]
theorem oX12_tell_16 : okB mX12_tell 16 bX12_tell_16 = true := by decide +kernel
def bX12_tell_23 : List OP := [oi (.iload_n 1), oi (.iconst 2)]
theorem oX12_tell_23 : okB mX12_tell 23 bX12_tell_23 = true := by decide +kernel
theorem eX12_tell_25 : decode mX12_tell.2.1 25 = .ok (.if_icmp .ne 10, 3) := by decide +kernel
def bX12_tell_28 : List OP := [oi (.aload_n 0), (.getfield 158, 33, 12, 33, 0, 1000), (.goto 40, 0, 0, 72, 0, 0)]
theorem oX12_tell_28 : okB mX12_tell 28 bX12_tell_28 = true := by decide +kernel
def bX12_tell_35 : List OP := [oi (.iload_n 1), oi (.iconst 3)]
theorem oX12_tell_35 : okB mX12_tell 35 bX12_tell_35 = true := by decide +kernel
theorem eX12_tell_37 : decode mX12_tell.2.1 37 = .ok (.if_icmp .ne 10, 3) := by decide +kernel
def bX12_tell_40 : List OP := [oi (.aload_n 0), (.getfield 161, 34, 12, 34, 0, 1001), (.goto 28, 0, 0, 72, 0, 0)]
theorem oX12_tell_40 : okB mX12_tell 40 bX12_tell_40 = true := by decide +kernel
def bX12_tell_47 : List OP := [oi (.iload_n 1), oi (.bipush 10), oi .isub, oi (.aload_n 0), (.getfield 92, 4, 12, 4, 0, 971)]
theorem oX12_tell_47 : okB mX12_tell 47 bX12_tell_47 = true := by decide +kernel
theorem eX12_tell_55 : decode mX12_tell.2.1 55 = .ok (.if_icmp .ge 15, 3) := by decide +kernel
def bX12_tell_58 : List OP := [oi (.aload_n 0), (.getfield 86, 35, 12, 35, 2, 1002), oi (.iload_n 1), oi (.bipush 10), oi .isub, oi .iaload, (.goto 5, 0, 0, 72, 0, 0)]
theorem oX12_tell_58 : okB mX12_tell 58 bX12_tell_58 = true := by decide +kernel
def bX12_tell_70 : List OP := [oi (.bipush (-6))]
theorem oX12_tell_70 : okB mX12_tell 70 bX12_tell_70 = true := by decide +kernel
theorem eX12_tell_72 : decode mX12_tell.2.1 72 = .ok (.ireturn, 1) := by decide +kernel
def bX12_isTold_0 : List OP := [oi (.iload_n 0), oi (.iconst 0), oi (.iconst 3)]
theorem oX12_isTold_0 : okB mX12_isTold 0 bX12_isTold_0 = true := by decide +kernel
theorem eX12_isTold_3 : decode mX12_isTold.2.1 3 = .ok (.invokestatic 102, 3) := by decide +kernel
theorem lX12_isTold_3 : okL 1091 (.methodLink mX12_isTold.1.cls 102 mX12_in.1) = true := by decide +kernel
theorem eX12_isTold_6 : decode mX12_isTold.2.1 6 = .ok (.ifCond .ne 14, 3) := by decide +kernel
def bX12_isTold_9 : List OP := [oi (.iload_n 0), oi (.bipush 10), oi (.bipush 17)]
theorem oX12_isTold_9 : okB mX12_isTold 9 bX12_isTold_9 = true := by decide +kernel
theorem eX12_isTold_14 : decode mX12_isTold.2.1 14 = .ok (.invokestatic 102, 3) := by decide +kernel
theorem lX12_isTold_14 : okL 1091 (.methodLink mX12_isTold.1.cls 102 mX12_in.1) = true := by decide +kernel
theorem eX12_isTold_17 : decode mX12_isTold.2.1 17 = .ok (.ifCond .eq 7, 3) := by decide +kernel
def bX12_isTold_20 : List OP := [oi (.iconst 1), (.goto 4, 0, 0, 25, 0, 0)]
theorem oX12_isTold_20 : okB mX12_isTold 20 bX12_isTold_20 = true := by decide +kernel
def bX12_isTold_24 : List OP := [oi (.iconst 0)]
theorem oX12_isTold_24 : okB mX12_isTold 24 bX12_isTold_24 = true := by decide +kernel
theorem eX12_isTold_25 : decode mX12_isTold.2.1 25 = .ok (.ireturn, 1) := by decide +kernel
def bX12_show_0 : List OP := [oi (.iload_n 1)]
theorem oX12_show_0 : okB mX12_show 0 bX12_show_0 = true := by decide +kernel
theorem eX12_show_1 : decode mX12_show.2.1 1 = .ok (.invokestatic 167, 3) := by decide +kernel
theorem lX12_show_1 : okL 1188 (.methodLink mX12_show.1.cls 167 mX12_isTold.1) = true := by decide +kernel
theorem eX12_show_4 : decode mX12_show.2.1 4 = .ok (.ifCond .ne 6, 3) := by decide +kernel
def bX12_show_7 : List OP := [oi (.bipush (-2))]
theorem oX12_show_7 : okB mX12_show 7 bX12_show_7 = true := by decide +kernel
theorem eX12_show_9 : decode mX12_show.2.1 9 = .ok (.ireturn, 1) := by decide +kernel
def bX12_show_10 : List OP := [oi (.aload_n 0), oi (.iconst 1)]
theorem oX12_show_10 : okB mX12_show 10 bX12_show_10 = true := by decide +kernel
theorem eX12_show_12 : decode mX12_show.2.1 12 = .ok (.invokevirtual 170, 3) := by decide +kernel
theorem lX12_show_12 : okL 1191 (.methodLink mX12_show.1.cls 170 mX12_run.1) = true := by decide +kernel
def bX12_show_15 : List OP := [oi (.aload_n 0), oi (.iload_n 1)]
theorem oX12_show_15 : okB mX12_show 15 bX12_show_15 = true := by decide +kernel
theorem eX12_show_17 : decode mX12_show.2.1 17 = .ok (.invokevirtual 174, 3) := by decide +kernel
theorem lX12_show_17 : okL 1199 (.methodLink mX12_show.1.cls 174 mX12_tell.1) = true := by decide +kernel
theorem eX12_show_20 : decode mX12_show.2.1 20 = .ok (.ireturn, 1) := by decide +kernel
def bX12_wish_0 : List OP := [oi (.iload_n 1), oi (.istore_n 2), oi (.aload_n 0), (.getfield 92, 4, 12, 4, 0, 971), oi (.iconst 1), oi .isub, oi (.istore_n 3)]
theorem oX12_wish_0 : okB mX12_wish 0 bX12_wish_0 = true := by decide +kernel
def bX12_wish_9 : List OP := [oi (.iload_n 3)]
theorem oX12_wish_9 : okB mX12_wish 9 bX12_wish_9 = true := by decide +kernel
theorem eX12_wish_10 : decode mX12_wish.2.1 10 = .ok (.ifCond .lt 63, 3) := by decide +kernel
def bX12_wish_13 : List OP := [oi (.iload_n 3)]
theorem oX12_wish_13 : okB mX12_wish 13 bX12_wish_13 = true := by decide +kernel
theorem eX12_wish_14 : decode mX12_wish.2.1 14 = .ok (.ifCond .eq 15, 3) := by decide +kernel
def bX12_wish_17 : List OP := [oi (.aload_n 0), (.getfield 96, 6, 12, 6, 0, 973), oi (.iload_n 3), oi .ishr, oi (.iconst 1), oi .iand, oi (.iconst 1)]
theorem oX12_wish_17 : okB mX12_wish 17 bX12_wish_17 = true := by decide +kernel
theorem eX12_wish_26 : decode mX12_wish.2.1 26 = .ok (.if_icmp .ne 7, 3) := by decide +kernel
def bX12_wish_29 : List OP := [oi (.iconst 1), (.goto 4, 0, 0, 34, 0, 0)]
theorem oX12_wish_29 : okB mX12_wish 29 bX12_wish_29 = true := by decide +kernel
def bX12_wish_33 : List OP := [oi (.iconst 0)]
theorem oX12_wish_33 : okB mX12_wish 33 bX12_wish_33 = true := by decide +kernel
def bX12_wish_34 : List OP := [oi (.istore 4), oi (.aload_n 0), (.getfield 89, 36, 12, 36, 2, 1003), oi (.iload_n 3), oi (.iload 4)]
theorem oX12_wish_34 : okB mX12_wish 34 bX12_wish_34 = true := by decide +kernel
theorem eX12_wish_43 : decode mX12_wish.2.1 43 = .ok (.ifCond .eq 9, 3) := by decide +kernel
def bX12_wish_46 : List OP := [oi (.iload_n 2), oi (.iconst 3), oi .irem, (.goto 4, 0, 0, 53, 0, 0)]
theorem oX12_wish_46 : okB mX12_wish 46 bX12_wish_46 = true := by decide +kernel
def bX12_wish_52 : List OP := [oi (.iconst (-1))]
theorem oX12_wish_52 : okB mX12_wish 52 bX12_wish_52 = true := by decide +kernel
def bX12_wish_53 : List OP := [oi .iastore, oi (.iload_n 2), oi (.iload 4)]
theorem oX12_wish_53 : okB mX12_wish 53 bX12_wish_53 = true := by decide +kernel
theorem eX12_wish_57 : decode mX12_wish.2.1 57 = .ok (.ifCond .eq 7, 3) := by decide +kernel
def bX12_wish_60 : List OP := [oi (.iconst 3), (.goto 4, 0, 0, 65, 0, 0)]
theorem oX12_wish_60 : okB mX12_wish 60 bX12_wish_60 = true := by decide +kernel
def bX12_wish_64 : List OP := [oi (.iconst 1)]
theorem oX12_wish_64 : okB mX12_wish 64 bX12_wish_64 = true := by decide +kernel
def bX12_wish_65 : List OP := [oi .idiv, oi (.istore_n 2), oi (.iinc 3 (-1)), (.goto (-61), 0, 0, 9, 0, 0)]
theorem oX12_wish_65 : okB mX12_wish 65 bX12_wish_65 = true := by decide +kernel
def bX12_wish_73 : List OP := [oi (.iconst 1), oi (.istore_n 3)]
theorem oX12_wish_73 : okB mX12_wish 73 bX12_wish_73 = true := by decide +kernel
def bX12_wish_75 : List OP := [oi (.iload_n 3), oi (.aload_n 0), (.getfield 92, 4, 12, 4, 0, 971)]
theorem oX12_wish_75 : okB mX12_wish 75 bX12_wish_75 = true := by decide +kernel
theorem eX12_wish_80 : decode mX12_wish.2.1 80 = .ok (.if_icmp .ge 41, 3) := by decide +kernel
def bX12_wish_83 : List OP := [oi (.aload_n 0), (.getfield 89, 36, 12, 36, 2, 1003), oi (.iload_n 3), oi (.aload_n 0), (.getfield 89, 36, 12, 36, 2, 1003), oi (.iload_n 3), oi .iaload]
theorem oX12_wish_83 : okB mX12_wish 83 bX12_wish_83 = true := by decide +kernel
theorem eX12_wish_94 : decode mX12_wish.2.1 94 = .ok (.ifCond .ge 14, 3) := by decide +kernel
def bX12_wish_97 : List OP := [oi (.aload_n 0), (.getfield 89, 36, 12, 36, 2, 1003), oi (.iload_n 3), oi (.iconst 1), oi .isub, oi .iaload, (.goto 9, 0, 0, 114, 0, 0)]
theorem oX12_wish_97 : okB mX12_wish 97 bX12_wish_97 = true := by decide +kernel
def bX12_wish_108 : List OP := [oi (.aload_n 0), (.getfield 89, 36, 12, 36, 2, 1003), oi (.iload_n 3), oi .iaload]
theorem oX12_wish_108 : okB mX12_wish 108 bX12_wish_108 = true := by decide +kernel
def bX12_wish_114 : List OP := [oi .iastore, oi (.iinc 3 1), (.goto (-43), 0, 0, 75, 0, 0)]
theorem oX12_wish_114 : okB mX12_wish 114 bX12_wish_114 = true := by decide +kernel
theorem eX12_wish_121 : decode mX12_wish.2.1 121 = .ok (.return_, 1) := by decide +kernel
def bX12_best_0 : List OP := [oi (.iload_n 1)]
theorem oX12_best_0 : okB mX12_best 0 bX12_best_0 = true := by decide +kernel
theorem eX12_best_1 : decode mX12_best.2.1 1 = .ok (.invokestatic 167, 3) := by decide +kernel
theorem lX12_best_1 : okL 1188 (.methodLink mX12_best.1.cls 167 mX12_isTold.1) = true := by decide +kernel
theorem eX12_best_4 : decode mX12_best.2.1 4 = .ok (.ifCond .ne 6, 3) := by decide +kernel
def bX12_best_7 : List OP := [oi (.bipush (-2))]
theorem oX12_best_7 : okB mX12_best 7 bX12_best_7 = true := by decide +kernel
theorem eX12_best_9 : decode mX12_best.2.1 9 = .ok (.ireturn, 1) := by decide +kernel
def bX12_best_10 : List OP := [oi (.iconst 1), oi (.istore_n 2), oi (.iconst 0), oi (.istore_n 3)]
theorem oX12_best_10 : okB mX12_best 10 bX12_best_10 = true := by decide +kernel
def bX12_best_14 : List OP := [oi (.iload_n 3), oi (.aload_n 0), (.getfield 92, 4, 12, 4, 0, 971)]
theorem oX12_best_14 : okB mX12_best 14 bX12_best_14 = true := by decide +kernel
theorem eX12_best_19 : decode mX12_best.2.1 19 = .ok (.if_icmp .ge 33, 3) := by decide +kernel
def bX12_best_22 : List OP := [oi (.iload_n 2), oi (.iload_n 3)]
theorem oX12_best_22 : okB mX12_best 22 bX12_best_22 = true := by decide +kernel
theorem eX12_best_24 : decode mX12_best.2.1 24 = .ok (.ifCond .eq 15, 3) := by decide +kernel
def bX12_best_27 : List OP := [oi (.aload_n 0), (.getfield 96, 6, 12, 6, 0, 973), oi (.iload_n 3), oi .ishr, oi (.iconst 1), oi .iand, oi (.iconst 1)]
theorem oX12_best_27 : okB mX12_best 27 bX12_best_27 = true := by decide +kernel
theorem eX12_best_36 : decode mX12_best.2.1 36 = .ok (.if_icmp .ne 7, 3) := by decide +kernel
def bX12_best_39 : List OP := [oi (.iconst 3), (.goto 4, 0, 0, 44, 0, 0)]
theorem oX12_best_39 : okB mX12_best 39 bX12_best_39 = true := by decide +kernel
def bX12_best_43 : List OP := [oi (.iconst 1)]
theorem oX12_best_43 : okB mX12_best 43 bX12_best_43 = true := by decide +kernel
def bX12_best_44 : List OP := [oi .imul, oi (.istore_n 2), oi (.iinc 3 1), (.goto (-35), 0, 0, 14, 0, 0)]
theorem oX12_best_44 : okB mX12_best 44 bX12_best_44 = true := by decide +kernel
def bX12_best_52 : List OP := [oi (.iconst (-1)), oi (.istore_n 3), oi (.iconst 0), oi (.istore 4), oi (.iconst 0), oi (.istore 5), oi (.iconst 0), oi (.istore 6), oi (.iconst 0), oi (.istore 7)]
theorem oX12_best_52 : okB mX12_best 52 bX12_best_52 = true := by decide +kernel
def bX12_best_66 : List OP := [oi (.iload 7), oi (.iload_n 2)]
theorem oX12_best_66 : okB mX12_best 66 bX12_best_66 = true := by decide +kernel
theorem eX12_best_69 : decode mX12_best.2.1 69 = .ok (.if_icmp .ge 102, 3) := by decide +kernel
def bX12_best_72 : List OP := [oi (.aload_n 0), oi (.iload 7)]
theorem oX12_best_72 : okB mX12_best 72 bX12_best_72 = true := by decide +kernel
theorem eX12_best_75 : decode mX12_best.2.1 75 = .ok (.invokevirtual 177, 3) := by decide +kernel
theorem lX12_best_75 : okL 1207 (.methodLink mX12_best.1.cls 177 mX12_wish.1) = true := by decide +kernel
def bX12_best_78 : List OP := [oi (.aload_n 0), oi (.iconst 0)]
theorem oX12_best_78 : okB mX12_best 78 bX12_best_78 = true := by decide +kernel
theorem eX12_best_80 : decode mX12_best.2.1 80 = .ok (.invokevirtual 170, 3) := by decide +kernel
theorem lX12_best_80 : okL 1191 (.methodLink mX12_best.1.cls 170 mX12_run.1) = true := by decide +kernel
def bX12_best_83 : List OP := [oi (.iload_n 3)]
theorem oX12_best_83 : okB mX12_best 83 bX12_best_83 = true := by decide +kernel
theorem eX12_best_84 : decode mX12_best.2.1 84 = .ok (.ifCond .lt 48, 3) := by decide +kernel
def bX12_best_87 : List OP := [oi (.aload_n 0), (.getfield 152, 31, 12, 31, 0, 998), oi (.iload 4)]
theorem oX12_best_87 : okB mX12_best 87 bX12_best_87 = true := by decide +kernel
theorem eX12_best_93 : decode mX12_best.2.1 93 = .ok (.if_icmp .gt 39, 3) := by decide +kernel
def bX12_best_96 : List OP := [oi (.aload_n 0), (.getfield 152, 31, 12, 31, 0, 998), oi (.iload 4)]
theorem oX12_best_96 : okB mX12_best 96 bX12_best_96 = true := by decide +kernel
theorem eX12_best_102 : decode mX12_best.2.1 102 = .ok (.if_icmp .ne 34, 3) := by decide +kernel
def bX12_best_105 : List OP := [oi (.aload_n 0), (.getfield 155, 32, 12, 32, 0, 999), oi (.iload 5)]
theorem oX12_best_105 : okB mX12_best 105 bX12_best_105 = true := by decide +kernel
theorem eX12_best_111 : decode mX12_best.2.1 111 = .ok (.if_icmp .lt 21, 3) := by decide +kernel
def bX12_best_114 : List OP := [oi (.aload_n 0), (.getfield 155, 32, 12, 32, 0, 999), oi (.iload 5)]
theorem oX12_best_114 : okB mX12_best 114 bX12_best_114 = true := by decide +kernel
theorem eX12_best_120 : decode mX12_best.2.1 120 = .ok (.if_icmp .ne 16, 3) := by decide +kernel
def bX12_best_123 : List OP := [oi (.aload_n 0), (.getfield 158, 33, 12, 33, 0, 1000), oi (.iload 6)]
theorem oX12_best_123 : okB mX12_best 123 bX12_best_123 = true := by decide +kernel
theorem eX12_best_129 : decode mX12_best.2.1 129 = .ok (.if_icmp .le 7, 3) := by decide +kernel
def bX12_best_132 : List OP := [oi (.iconst 1), (.goto 4, 0, 0, 137, 0, 0)]
theorem oX12_best_132 : okB mX12_best 132 bX12_best_132 = true := by decide +kernel
def bX12_best_136 : List OP := [oi (.iconst 0)]
theorem oX12_best_136 : okB mX12_best 136 bX12_best_136 = true := by decide +kernel
def bX12_best_137 : List OP := [oi (.istore 8), oi (.iload 8)]
theorem oX12_best_137 : okB mX12_best 137 bX12_best_137 = true := by decide +kernel
theorem eX12_best_141 : decode mX12_best.2.1 141 = .ok (.ifCond .eq 24, 3) := by decide +kernel
def bX12_best_144 : List OP := [oi (.iload 7), oi (.istore_n 3), oi (.aload_n 0), (.getfield 152, 31, 12, 31, 0, 998), oi (.istore 4), oi (.aload_n 0), (.getfield 155, 32, 12, 32, 0, 999), oi (.istore 5), oi (.aload_n 0), (.getfield 158, 33, 12, 33, 0, 1000), oi (.istore 6)]
theorem oX12_best_144 : okB mX12_best 144 bX12_best_144 = true := by decide +kernel
def bX12_best_165 : List OP := [oi (.iinc 7 1), (.goto (-102), 0, 0, 66, 0, 0)]
theorem oX12_best_165 : okB mX12_best 165 bX12_best_165 = true := by decide +kernel
def bX12_best_171 : List OP := [oi (.aload_n 0), oi (.iload_n 3)]
theorem oX12_best_171 : okB mX12_best 171 bX12_best_171 = true := by decide +kernel
theorem eX12_best_173 : decode mX12_best.2.1 173 = .ok (.invokevirtual 177, 3) := by decide +kernel
theorem lX12_best_173 : okL 1207 (.methodLink mX12_best.1.cls 177 mX12_wish.1) = true := by decide +kernel
def bX12_best_176 : List OP := [oi (.aload_n 0), oi (.iconst 0)]
theorem oX12_best_176 : okB mX12_best 176 bX12_best_176 = true := by decide +kernel
theorem eX12_best_178 : decode mX12_best.2.1 178 = .ok (.invokevirtual 170, 3) := by decide +kernel
theorem lX12_best_178 : okL 1191 (.methodLink mX12_best.1.cls 170 mX12_run.1) = true := by decide +kernel
def bX12_best_181 : List OP := [oi (.aload_n 0), oi (.iload_n 1)]
theorem oX12_best_181 : okB mX12_best 181 bX12_best_181 = true := by decide +kernel
theorem eX12_best_183 : decode mX12_best.2.1 183 = .ok (.invokevirtual 174, 3) := by decide +kernel
theorem lX12_best_183 : okL 1199 (.methodLink mX12_best.1.cls 174 mX12_tell.1) = true := by decide +kernel
theorem eX12_best_186 : decode mX12_best.2.1 186 = .ok (.ireturn, 1) := by decide +kernel
def bX12_isTown_0 : List OP := [oi (.iload_n 0), oi (.iconst 0), oi (.iconst 3)]
theorem oX12_isTown_0 : okB mX12_isTown 0 bX12_isTown_0 = true := by decide +kernel
theorem eX12_isTown_3 : decode mX12_isTown.2.1 3 = .ok (.invokestatic 102, 3) := by decide +kernel
theorem lX12_isTown_3 : okL 1091 (.methodLink mX12_isTown.1.cls 102 mX12_in.1) = true := by decide +kernel
theorem eX12_isTown_6 : decode mX12_isTown.2.1 6 = .ok (.ireturn, 1) := by decide +kernel
def bX12_isFilm_0 : List OP := [oi (.iload_n 0), oi (.iconst 0), oi (.iconst 5)]
theorem oX12_isFilm_0 : okB mX12_isFilm 0 bX12_isFilm_0 = true := by decide +kernel
theorem eX12_isFilm_3 : decode mX12_isFilm.2.1 3 = .ok (.invokestatic 102, 3) := by decide +kernel
theorem lX12_isFilm_3 : okL 1091 (.methodLink mX12_isFilm.1.cls 102 mX12_in.1) = true := by decide +kernel
theorem eX12_isFilm_6 : decode mX12_isFilm.2.1 6 = .ok (.ireturn, 1) := by decide +kernel
def bX12_isSeer_0 : List OP := [oi (.iload_n 0), oi (.iconst 0), oi (.bipush 7)]
theorem oX12_isSeer_0 : okB mX12_isSeer 0 bX12_isSeer_0 = true := by decide +kernel
theorem eX12_isSeer_4 : decode mX12_isSeer.2.1 4 = .ok (.invokestatic 102, 3) := by decide +kernel
theorem lX12_isSeer_4 : okL 1091 (.methodLink mX12_isSeer.1.cls 102 mX12_in.1) = true := by decide +kernel
theorem eX12_isSeer_7 : decode mX12_isSeer.2.1 7 = .ok (.ireturn, 1) := by decide +kernel
def bX12_town_0 : List OP := [oi (.iload_n 1)]
theorem oX12_town_0 : okB mX12_town 0 bX12_town_0 = true := by decide +kernel
theorem eX12_town_1 : decode mX12_town.2.1 1 = .ok (.invokestatic 180, 3) := by decide +kernel
theorem lX12_town_1 : okL 1215 (.methodLink mX12_town.1.cls 180 mX12_isTown.1) = true := by decide +kernel
theorem eX12_town_4 : decode mX12_town.2.1 4 = .ok (.ifCond .ne 5, 3) := by decide +kernel
def bX12_town_7 : List OP := [oi (.iconst (-1))]
theorem oX12_town_7 : okB mX12_town 7 bX12_town_7 = true := by decide +kernel
theorem eX12_town_8 : decode mX12_town.2.1 8 = .ok (.ireturn, 1) := by decide +kernel
def bX12_town_9 : List OP := [oi (.iload_n 2), oi (.iconst 0), oi (.iconst 1)]
theorem oX12_town_9 : okB mX12_town 9 bX12_town_9 = true := by decide +kernel
theorem eX12_town_12 : decode mX12_town.2.1 12 = .ok (.invokestatic 102, 3) := by decide +kernel
theorem lX12_town_12 : okL 1091 (.methodLink mX12_town.1.cls 102 mX12_in.1) = true := by decide +kernel
theorem eX12_town_15 : decode mX12_town.2.1 15 = .ok (.ifCond .eq 13, 3) := by decide +kernel
def bX12_town_18 : List OP := [oi (.iload_n 3), oi (.iconst 0), oi (.bipush 100)]
theorem oX12_town_18 : okB mX12_town 18 bX12_town_18 = true := by decide +kernel
theorem eX12_town_22 : decode mX12_town.2.1 22 = .ok (.invokestatic 102, 3) := by decide +kernel
theorem lX12_town_22 : okL 1091 (.methodLink mX12_town.1.cls 102 mX12_in.1) = true := by decide +kernel
theorem eX12_town_25 : decode mX12_town.2.1 25 = .ok (.ifCond .ne 6, 3) := by decide +kernel
def bX12_town_28 : List OP := [oi (.bipush (-2))]
theorem oX12_town_28 : okB mX12_town 28 bX12_town_28 = true := by decide +kernel
theorem eX12_town_30 : decode mX12_town.2.1 30 = .ok (.ireturn, 1) := by decide +kernel
def bX12_town_31 : List OP := [oi (.iload_n 2)]
theorem oX12_town_31 : okB mX12_town 31 bX12_town_31 = true := by decide +kernel
theorem eX12_town_32 : decode mX12_town.2.1 32 = .ok (.ifCond .ne 12, 3) := by decide +kernel
def bX12_town_35 : List OP := [oi (.aload_n 0), (.getfield 32, 12, 12, 12, 2, 979), oi (.iload_n 1), oi .iaload, (.goto 9, 0, 0, 50, 0, 0)]
theorem oX12_town_35 : okB mX12_town 35 bX12_town_35 = true := by decide +kernel
def bX12_town_44 : List OP := [oi (.aload_n 0), (.getfield 35, 13, 12, 13, 2, 980), oi (.iload_n 1), oi .iaload]
theorem oX12_town_44 : okB mX12_town 44 bX12_town_44 = true := by decide +kernel
def bX12_town_50 : List OP := [oi (.istore 4), oi (.iload_n 2)]
theorem oX12_town_50 : okB mX12_town 50 bX12_town_50 = true := by decide +kernel
theorem eX12_town_53 : decode mX12_town.2.1 53 = .ok (.ifCond .ne 13, 3) := by decide +kernel
def bX12_town_56 : List OP := [oi (.aload_n 0), (.getfield 32, 12, 12, 12, 2, 979), oi (.iload_n 1), oi (.iload_n 3), oi .iastore, (.goto 10, 0, 0, 73, 0, 0)]
theorem oX12_town_56 : okB mX12_town 56 bX12_town_56 = true := by decide +kernel
def bX12_town_66 : List OP := [oi (.aload_n 0), (.getfield 35, 13, 12, 13, 2, 980), oi (.iload_n 1), oi (.iload_n 3), oi .iastore]
theorem oX12_town_66 : okB mX12_town 66 bX12_town_66 = true := by decide +kernel
def bX12_town_73 : List OP := [oi (.iload 4)]
theorem oX12_town_73 : okB mX12_town 73 bX12_town_73 = true := by decide +kernel
theorem eX12_town_75 : decode mX12_town.2.1 75 = .ok (.ireturn, 1) := by decide +kernel
def bX12_weight_0 : List OP := [oi (.iload_n 1)]
theorem oX12_weight_0 : okB mX12_weight 0 bX12_weight_0 = true := by decide +kernel
theorem eX12_weight_1 : decode mX12_weight.2.1 1 = .ok (.invokestatic 183, 3) := by decide +kernel
theorem lX12_weight_1 : okL 1222 (.methodLink mX12_weight.1.cls 183 mX12_isFilm.1) = true := by decide +kernel
theorem eX12_weight_4 : decode mX12_weight.2.1 4 = .ok (.ifCond .ne 5, 3) := by decide +kernel
def bX12_weight_7 : List OP := [oi (.iconst (-1))]
theorem oX12_weight_7 : okB mX12_weight 7 bX12_weight_7 = true := by decide +kernel
theorem eX12_weight_8 : decode mX12_weight.2.1 8 = .ok (.ireturn, 1) := by decide +kernel
def bX12_weight_9 : List OP := [oi (.iload_n 2), oi (.iconst 1), oi (.bipush 50)]
theorem oX12_weight_9 : okB mX12_weight 9 bX12_weight_9 = true := by decide +kernel
theorem eX12_weight_13 : decode mX12_weight.2.1 13 = .ok (.invokestatic 102, 3) := by decide +kernel
theorem lX12_weight_13 : okL 1091 (.methodLink mX12_weight.1.cls 102 mX12_in.1) = true := by decide +kernel
theorem eX12_weight_16 : decode mX12_weight.2.1 16 = .ok (.ifCond .ne 6, 3) := by decide +kernel
def bX12_weight_19 : List OP := [oi (.bipush (-2))]
theorem oX12_weight_19 : okB mX12_weight 19 bX12_weight_19 = true := by decide +kernel
theorem eX12_weight_21 : decode mX12_weight.2.1 21 = .ok (.ireturn, 1) := by decide +kernel
def bX12_weight_22 : List OP := [oi (.aload_n 0), (.getfield 38, 14, 12, 14, 2, 981), oi (.iload_n 1), oi .iaload, oi (.istore_n 3), oi (.aload_n 0), (.getfield 38, 14, 12, 14, 2, 981), oi (.iload_n 1), oi (.iload_n 2), oi .iastore, oi (.iload_n 3)]
theorem oX12_weight_22 : okB mX12_weight 22 bX12_weight_22 = true := by decide +kernel
theorem eX12_weight_37 : decode mX12_weight.2.1 37 = .ok (.ireturn, 1) := by decide +kernel
def bX12_ask_0 : List OP := [oi (.iload_n 1)]
theorem oX12_ask_0 : okB mX12_ask 0 bX12_ask_0 = true := by decide +kernel
theorem eX12_ask_1 : decode mX12_ask.2.1 1 = .ok (.invokestatic 180, 3) := by decide +kernel
theorem lX12_ask_1 : okL 1215 (.methodLink mX12_ask.1.cls 180 mX12_isTown.1) = true := by decide +kernel
theorem eX12_ask_4 : decode mX12_ask.2.1 4 = .ok (.ifCond .eq 10, 3) := by decide +kernel
def bX12_ask_7 : List OP := [oi (.iload_n 2)]
theorem oX12_ask_7 : okB mX12_ask 7 bX12_ask_7 = true := by decide +kernel
theorem eX12_ask_8 : decode mX12_ask.2.1 8 = .ok (.invokestatic 183, 3) := by decide +kernel
theorem lX12_ask_8 : okL 1222 (.methodLink mX12_ask.1.cls 183 mX12_isFilm.1) = true := by decide +kernel
theorem eX12_ask_11 : decode mX12_ask.2.1 11 = .ok (.ifCond .ne 5, 3) := by decide +kernel
def bX12_ask_14 : List OP := [oi (.iconst (-1))]
theorem oX12_ask_14 : okB mX12_ask 14 bX12_ask_14 = true := by decide +kernel
theorem eX12_ask_15 : decode mX12_ask.2.1 15 = .ok (.ireturn, 1) := by decide +kernel
def bX12_ask_16 : List OP := [oi (.iload_n 3), oi (.iconst 0), oi (.sipush 1000)]
theorem oX12_ask_16 : okB mX12_ask 16 bX12_ask_16 = true := by decide +kernel
theorem eX12_ask_21 : decode mX12_ask.2.1 21 = .ok (.invokestatic 102, 3) := by decide +kernel
theorem lX12_ask_21 : okL 1091 (.methodLink mX12_ask.1.cls 102 mX12_in.1) = true := by decide +kernel
theorem eX12_ask_24 : decode mX12_ask.2.1 24 = .ok (.ifCond .ne 6, 3) := by decide +kernel
def bX12_ask_27 : List OP := [oi (.bipush (-2))]
theorem oX12_ask_27 : okB mX12_ask 27 bX12_ask_27 = true := by decide +kernel
theorem eX12_ask_29 : decode mX12_ask.2.1 29 = .ok (.ireturn, 1) := by decide +kernel
def bX12_ask_30 : List OP := [oi (.aload_n 0), (.getfield 41, 15, 12, 15, 2, 982), oi (.bipush 6), oi (.iload_n 1), oi .imul, oi (.iload_n 2), oi .iadd, oi .iaload, oi (.istore 4), oi (.aload_n 0), (.getfield 41, 15, 12, 15, 2, 982), oi (.bipush 6), oi (.iload_n 1), oi .imul, oi (.iload_n 2), oi .iadd, oi (.iload_n 3), oi .iastore, oi (.iload 4)]
theorem oX12_ask_30 : okB mX12_ask 30 bX12_ask_30 = true := by decide +kernel
theorem eX12_ask_57 : decode mX12_ask.2.1 57 = .ok (.ireturn, 1) := by decide +kernel
def bX12_kept_0 : List OP := [oi (.iload_n 1)]
theorem oX12_kept_0 : okB mX12_kept 0 bX12_kept_0 = true := by decide +kernel
theorem eX12_kept_1 : decode mX12_kept.2.1 1 = .ok (.invokestatic 180, 3) := by decide +kernel
theorem lX12_kept_1 : okL 1215 (.methodLink mX12_kept.1.cls 180 mX12_isTown.1) = true := by decide +kernel
theorem eX12_kept_4 : decode mX12_kept.2.1 4 = .ok (.ifCond .ne 5, 3) := by decide +kernel
def bX12_kept_7 : List OP := [oi (.iconst (-1))]
theorem oX12_kept_7 : okB mX12_kept 7 bX12_kept_7 = true := by decide +kernel
theorem eX12_kept_8 : decode mX12_kept.2.1 8 = .ok (.ireturn, 1) := by decide +kernel
def bX12_kept_9 : List OP := [oi (.iload_n 2), oi (.iconst 0), oi (.iconst 1)]
theorem oX12_kept_9 : okB mX12_kept 9 bX12_kept_9 = true := by decide +kernel
theorem eX12_kept_12 : decode mX12_kept.2.1 12 = .ok (.invokestatic 102, 3) := by decide +kernel
theorem lX12_kept_12 : okL 1091 (.methodLink mX12_kept.1.cls 102 mX12_in.1) = true := by decide +kernel
theorem eX12_kept_15 : decode mX12_kept.2.1 15 = .ok (.ifCond .ne 6, 3) := by decide +kernel
def bX12_kept_18 : List OP := [oi (.bipush (-2))]
theorem oX12_kept_18 : okB mX12_kept 18 bX12_kept_18 = true := by decide +kernel
theorem eX12_kept_20 : decode mX12_kept.2.1 20 = .ok (.ireturn, 1) := by decide +kernel
def bX12_kept_21 : List OP := [oi (.bipush (-6)), oi (.istore_n 3), oi (.iconst 0), oi (.istore 4), oi (.iconst 0), oi (.istore 5), oi (.iconst 0), oi (.istore 6)]
theorem oX12_kept_21 : okB mX12_kept 21 bX12_kept_21 = true := by decide +kernel
def bX12_kept_33 : List OP := [oi (.iload 6), oi (.bipush 64)]
theorem oX12_kept_33 : okB mX12_kept 33 bX12_kept_33 = true := by decide +kernel
theorem eX12_kept_37 : decode mX12_kept.2.1 37 = .ok (.if_icmp .ge 132, 3) := by decide +kernel
def bX12_kept_40 : List OP := [oi (.iconst 0), oi (.istore 7), oi (.iconst 0), oi (.istore 8), oi (.iconst 0), oi (.istore 9)]
theorem oX12_kept_40 : okB mX12_kept 40 bX12_kept_40 = true := by decide +kernel
def bX12_kept_49 : List OP := [oi (.iload 9), oi (.bipush 6)]
theorem oX12_kept_49 : okB mX12_kept 49 bX12_kept_49 = true := by decide +kernel
theorem eX12_kept_53 : decode mX12_kept.2.1 53 = .ok (.if_icmp .ge 63, 3) := by decide +kernel
def bX12_kept_56 : List OP := [oi (.iload 7), oi (.iload 6), oi (.iload 9), oi .ishr, oi (.iconst 1), oi .iand, oi (.aload_n 0), (.getfield 38, 14, 12, 14, 2, 981), oi (.iload 9), oi .iaload, oi .imul, oi .iadd, oi (.istore 7), oi (.iload 8), oi (.iconst 1), oi (.iload 6), oi (.iload 9), oi .ishr, oi (.iconst 1), oi .iand, oi .isub, oi (.aload_n 0), (.getfield 41, 15, 12, 15, 2, 982), oi (.bipush 6), oi (.iload_n 1), oi .imul, oi (.iload 9), oi .iadd, oi .iaload, oi .imul, oi (.aload_n 0), (.getfield 35, 13, 12, 13, 2, 980), oi (.iload_n 1), oi .iaload, oi .imul, oi .iadd, oi (.istore 8), oi (.iinc 9 1), (.goto (-64), 0, 0, 49, 0, 0)]
theorem oX12_kept_56 : okB mX12_kept 56 bX12_kept_56 = true := by decide +kernel
def bX12_kept_116 : List OP := [oi (.iload 7), oi (.aload_n 0), (.getfield 32, 12, 12, 12, 2, 979), oi (.iload_n 1), oi .iaload]
theorem oX12_kept_116 : okB mX12_kept 116 bX12_kept_116 = true := by decide +kernel
theorem eX12_kept_124 : decode mX12_kept.2.1 124 = .ok (.if_icmp .gt 39, 3) := by decide +kernel
def bX12_kept_127 : List OP := [oi (.iload_n 3)]
theorem oX12_kept_127 : okB mX12_kept 127 bX12_kept_127 = true := by decide +kernel
theorem eX12_kept_128 : decode mX12_kept.2.1 128 = .ok (.ifCond .lt 24, 3) := by decide +kernel
def bX12_kept_131 : List OP := [oi (.iload 8), oi (.iload 4)]
theorem oX12_kept_131 : okB mX12_kept 131 bX12_kept_131 = true := by decide +kernel
theorem eX12_kept_135 : decode mX12_kept.2.1 135 = .ok (.if_icmp .lt 17, 3) := by decide +kernel
def bX12_kept_138 : List OP := [oi (.iload 8), oi (.iload 4)]
theorem oX12_kept_138 : okB mX12_kept 138 bX12_kept_138 = true := by decide +kernel
theorem eX12_kept_142 : decode mX12_kept.2.1 142 = .ok (.if_icmp .ne 21, 3) := by decide +kernel
def bX12_kept_145 : List OP := [oi (.iload 7), oi (.iload 5)]
theorem oX12_kept_145 : okB mX12_kept 145 bX12_kept_145 = true := by decide +kernel
theorem eX12_kept_149 : decode mX12_kept.2.1 149 = .ok (.if_icmp .ge 14, 3) := by decide +kernel
def bX12_kept_152 : List OP := [oi (.iload 6), oi (.istore_n 3), oi (.iload 8), oi (.istore 4), oi (.iload 7), oi (.istore 5)]
theorem oX12_kept_152 : okB mX12_kept 152 bX12_kept_152 = true := by decide +kernel
def bX12_kept_163 : List OP := [oi (.iinc 6 1), (.goto (-133), 0, 0, 33, 0, 0)]
theorem oX12_kept_163 : okB mX12_kept 163 bX12_kept_163 = true := by decide +kernel
def bX12_kept_169 : List OP := [oi (.iload_n 2)]
theorem oX12_kept_169 : okB mX12_kept 169 bX12_kept_169 = true := by decide +kernel
theorem eX12_kept_170 : decode mX12_kept.2.1 170 = .ok (.ifCond .ne 7, 3) := by decide +kernel
def bX12_kept_173 : List OP := [oi (.iload_n 3), (.goto 5, 0, 0, 179, 0, 0)]
theorem oX12_kept_173 : okB mX12_kept 173 bX12_kept_173 = true := by decide +kernel
def bX12_kept_177 : List OP := [oi (.iload 4)]
theorem oX12_kept_177 : okB mX12_kept 177 bX12_kept_177 = true := by decide +kernel
theorem eX12_kept_179 : decode mX12_kept.2.1 179 = .ok (.ireturn, 1) := by decide +kernel
def bX12_right_0 : List OP := [oi (.iload_n 1)]
theorem oX12_right_0 : okB mX12_right 0 bX12_right_0 = true := by decide +kernel
theorem eX12_right_1 : decode mX12_right.2.1 1 = .ok (.invokestatic 183, 3) := by decide +kernel
theorem lX12_right_1 : okL 1222 (.methodLink mX12_right.1.cls 183 mX12_isFilm.1) = true := by decide +kernel
theorem eX12_right_4 : decode mX12_right.2.1 4 = .ok (.ifCond .eq 12, 3) := by decide +kernel
def bX12_right_7 : List OP := [oi (.iload_n 2), oi (.iconst 0), oi (.iconst 3)]
theorem oX12_right_7 : okB mX12_right 7 bX12_right_7 = true := by decide +kernel
theorem eX12_right_10 : decode mX12_right.2.1 10 = .ok (.invokestatic 102, 3) := by decide +kernel
theorem lX12_right_10 : okL 1091 (.methodLink mX12_right.1.cls 102 mX12_in.1) = true := by decide +kernel
theorem eX12_right_13 : decode mX12_right.2.1 13 = .ok (.ifCond .ne 5, 3) := by decide +kernel
def bX12_right_16 : List OP := [oi (.iconst (-1))]
theorem oX12_right_16 : okB mX12_right 16 bX12_right_16 = true := by decide +kernel
theorem eX12_right_17 : decode mX12_right.2.1 17 = .ok (.ireturn, 1) := by decide +kernel
def bX12_right_18 : List OP := [oi (.iload_n 3), oi (.iconst 0), oi (.sipush 999)]
theorem oX12_right_18 : okB mX12_right 18 bX12_right_18 = true := by decide +kernel
theorem eX12_right_23 : decode mX12_right.2.1 23 = .ok (.invokestatic 102, 3) := by decide +kernel
theorem lX12_right_23 : okL 1091 (.methodLink mX12_right.1.cls 102 mX12_in.1) = true := by decide +kernel
theorem eX12_right_26 : decode mX12_right.2.1 26 = .ok (.ifCond .eq 32, 3) := by decide +kernel
def bX12_right_29 : List OP := [oi (.iload 4), oi (.iconst 0), oi (.sipush 999)]
theorem oX12_right_29 : okB mX12_right 29 bX12_right_29 = true := by decide +kernel
theorem eX12_right_35 : decode mX12_right.2.1 35 = .ok (.invokestatic 102, 3) := by decide +kernel
theorem lX12_right_35 : okL 1091 (.methodLink mX12_right.1.cls 102 mX12_in.1) = true := by decide +kernel
theorem eX12_right_38 : decode mX12_right.2.1 38 = .ok (.ifCond .eq 20, 3) := by decide +kernel
def bX12_right_41 : List OP := [oi (.iload_n 3), oi (.iload 4)]
theorem oX12_right_41 : okB mX12_right 41 bX12_right_41 = true := by decide +kernel
theorem eX12_right_44 : decode mX12_right.2.1 44 = .ok (.if_icmp .gt 14, 3) := by decide +kernel
def bX12_right_47 : List OP := [oi (.iload 5), oi (.iconst 1), oi (.bipush 20)]
theorem oX12_right_47 : okB mX12_right 47 bX12_right_47 = true := by decide +kernel
theorem eX12_right_52 : decode mX12_right.2.1 52 = .ok (.invokestatic 102, 3) := by decide +kernel
theorem lX12_right_52 : okL 1091 (.methodLink mX12_right.1.cls 102 mX12_in.1) = true := by decide +kernel
theorem eX12_right_55 : decode mX12_right.2.1 55 = .ok (.ifCond .ne 6, 3) := by decide +kernel
def bX12_right_58 : List OP := [oi (.bipush (-2))]
theorem oX12_right_58 : okB mX12_right 58 bX12_right_58 = true := by decide +kernel
theorem eX12_right_60 : decode mX12_right.2.1 60 = .ok (.ireturn, 1) := by decide +kernel
def bX12_right_61 : List OP := [oi (.aload_n 0), (.getfield 186, 16, 12, 16, 0, 983), oi (.bipush 12)]
theorem oX12_right_61 : okB mX12_right 61 bX12_right_61 = true := by decide +kernel
theorem eX12_right_67 : decode mX12_right.2.1 67 = .ok (.if_icmp .ne 6, 3) := by decide +kernel
def bX12_right_70 : List OP := [oi (.bipush (-4))]
theorem oX12_right_70 : okB mX12_right 70 bX12_right_70 = true := by decide +kernel
theorem eX12_right_72 : decode mX12_right.2.1 72 = .ok (.ireturn, 1) := by decide +kernel
def bX12_right_73 : List OP := [oi (.aload_n 0), (.getfield 44, 17, 12, 17, 2, 984), oi (.iconst 5), oi (.aload_n 0), (.getfield 186, 16, 12, 16, 0, 983), oi .imul, oi (.iload_n 1), oi .iastore, oi (.aload_n 0), (.getfield 44, 17, 12, 17, 2, 984), oi (.iconst 5), oi (.aload_n 0), (.getfield 186, 16, 12, 16, 0, 983), oi .imul, oi (.iconst 1), oi .iadd, oi (.iload_n 2), oi .iastore, oi (.aload_n 0), (.getfield 44, 17, 12, 17, 2, 984), oi (.iconst 5), oi (.aload_n 0), (.getfield 186, 16, 12, 16, 0, 983), oi .imul, oi (.iconst 2), oi .iadd, oi (.iload_n 3), oi .iastore, oi (.aload_n 0), (.getfield 44, 17, 12, 17, 2, 984), oi (.iconst 5), oi (.aload_n 0), (.getfield 186, 16, 12, 16, 0, 983), oi .imul, oi (.iconst 3), oi .iadd, oi (.iload 4), oi .iastore, oi (.aload_n 0), (.getfield 44, 17, 12, 17, 2, 984), oi (.iconst 5), oi (.aload_n 0), (.getfield 186, 16, 12, 16, 0, 983), oi .imul, oi (.iconst 4), oi .iadd, oi (.iload 5), oi .iastore, oi (.aload_n 0), oi .dup, (.getfield 186, 16, 12, 16, 0, 983), oi (.iconst 1), oi .iadd, (.putfield 186, 16, 12, 16, 0, 983), oi (.aload_n 0), (.getfield 186, 16, 12, 16, 0, 983), oi (.iconst 1), oi .isub]
theorem oX12_right_73 : okB mX12_right 73 bX12_right_73 = true := by decide +kernel
theorem eX12_right_159 : decode mX12_right.2.1 159 = .ok (.ireturn, 1) := by decide +kernel
def bX12_land_0 : List OP := [oi (.iload_n 1)]
theorem oX12_land_0 : okB mX12_land 0 bX12_land_0 = true := by decide +kernel
theorem eX12_land_1 : decode mX12_land.2.1 1 = .ok (.invokestatic 189, 3) := by decide +kernel
theorem lX12_land_1 : okL 1241 (.methodLink mX12_land.1.cls 189 mX12_isSeer.1) = true := by decide +kernel
theorem eX12_land_4 : decode mX12_land.2.1 4 = .ok (.ifCond .eq 12, 3) := by decide +kernel
def bX12_land_7 : List OP := [oi (.iload_n 2), oi (.iconst 0), oi (.iconst 3)]
theorem oX12_land_7 : okB mX12_land 7 bX12_land_7 = true := by decide +kernel
theorem eX12_land_10 : decode mX12_land.2.1 10 = .ok (.invokestatic 102, 3) := by decide +kernel
theorem lX12_land_10 : okL 1091 (.methodLink mX12_land.1.cls 102 mX12_in.1) = true := by decide +kernel
theorem eX12_land_13 : decode mX12_land.2.1 13 = .ok (.ifCond .ne 5, 3) := by decide +kernel
def bX12_land_16 : List OP := [oi (.iconst (-1))]
theorem oX12_land_16 : okB mX12_land 16 bX12_land_16 = true := by decide +kernel
theorem eX12_land_17 : decode mX12_land.2.1 17 = .ok (.ireturn, 1) := by decide +kernel
def bX12_land_18 : List OP := [oi (.aload_n 0), (.getfield 47, 18, 12, 18, 2, 985), oi (.iload_n 1), oi .iaload, oi (.istore_n 3), oi (.aload_n 0), (.getfield 47, 18, 12, 18, 2, 985), oi (.iload_n 1), oi (.iload_n 2), oi .iastore, oi (.iload_n 3)]
theorem oX12_land_18 : okB mX12_land 18 bX12_land_18 = true := by decide +kernel
theorem eX12_land_33 : decode mX12_land.2.1 33 = .ok (.ireturn, 1) := by decide +kernel
def bX12_mayIt_0 : List OP := [oi (.iconst 0), oi (.istore 4), oi (.iconst 0), oi (.istore 5)]
theorem oX12_mayIt_0 : okB mX12_mayIt 0 bX12_mayIt_0 = true := by decide +kernel
def bX12_mayIt_6 : List OP := [oi (.iload 5), oi (.aload_n 0), (.getfield 186, 16, 12, 16, 0, 983)]
theorem oX12_mayIt_6 : okB mX12_mayIt 6 bX12_mayIt_6 = true := by decide +kernel
theorem eX12_mayIt_12 : decode mX12_mayIt.2.1 12 = .ok (.if_icmp .ge 116, 3) := by decide +kernel
def bX12_mayIt_15 : List OP := [oi (.iconst 5), oi (.iload 5), oi .imul, oi (.istore 6), oi (.aload_n 0), (.getfield 44, 17, 12, 17, 2, 984), oi (.iload 6), oi .iaload, oi (.iload_n 2)]
theorem oX12_mayIt_15 : okB mX12_mayIt 15 bX12_mayIt_15 = true := by decide +kernel
theorem eX12_mayIt_29 : decode mX12_mayIt.2.1 29 = .ok (.if_icmp .ne 50, 3) := by decide +kernel
def bX12_mayIt_32 : List OP := [oi (.aload_n 0), (.getfield 44, 17, 12, 17, 2, 984), oi (.iload 6), oi (.iconst 1), oi .iadd, oi .iaload, oi (.aload_n 0), (.getfield 47, 18, 12, 18, 2, 985), oi (.iload_n 1), oi .iaload]
theorem oX12_mayIt_32 : okB mX12_mayIt 32 bX12_mayIt_32 = true := by decide +kernel
theorem eX12_mayIt_47 : decode mX12_mayIt.2.1 47 = .ok (.if_icmp .ne 32, 3) := by decide +kernel
def bX12_mayIt_50 : List OP := [oi (.iload_n 3), oi (.aload_n 0), (.getfield 44, 17, 12, 17, 2, 984), oi (.iload 6), oi (.iconst 2), oi .iadd, oi .iaload, oi (.aload_n 0), (.getfield 44, 17, 12, 17, 2, 984), oi (.iload 6), oi (.iconst 3), oi .iadd, oi .iaload]
theorem oX12_mayIt_50 : okB mX12_mayIt 50 bX12_mayIt_50 = true := by decide +kernel
theorem eX12_mayIt_69 : decode mX12_mayIt.2.1 69 = .ok (.invokestatic 102, 3) := by decide +kernel
theorem lX12_mayIt_69 : okL 1091 (.methodLink mX12_mayIt.1.cls 102 mX12_in.1) = true := by decide +kernel
theorem eX12_mayIt_72 : decode mX12_mayIt.2.1 72 = .ok (.ifCond .eq 7, 3) := by decide +kernel
def bX12_mayIt_75 : List OP := [oi (.iconst 1), (.goto 4, 0, 0, 80, 0, 0)]
theorem oX12_mayIt_75 : okB mX12_mayIt 75 bX12_mayIt_75 = true := by decide +kernel
def bX12_mayIt_79 : List OP := [oi (.iconst 0)]
theorem oX12_mayIt_79 : okB mX12_mayIt 79 bX12_mayIt_79 = true := by decide +kernel
def bX12_mayIt_80 : List OP := [oi (.istore 7), oi (.iload 4)]
theorem oX12_mayIt_80 : okB mX12_mayIt 80 bX12_mayIt_80 = true := by decide +kernel
theorem eX12_mayIt_84 : decode mX12_mayIt.2.1 84 = .ok (.ifCond .ne 31, 3) := by decide +kernel
def bX12_mayIt_87 : List OP := [oi (.iload 7)]
theorem oX12_mayIt_87 : okB mX12_mayIt 87 bX12_mayIt_87 = true := by decide +kernel
theorem eX12_mayIt_89 : decode mX12_mayIt.2.1 89 = .ok (.ifCond .eq 30, 3) := by decide +kernel
def bX12_mayIt_92 : List OP := [oi (.aload_n 0), (.getfield 53, 20, 12, 20, 2, 987), oi (.bipush 6), oi (.iload_n 1), oi .imul, oi (.iload_n 2), oi .iadd, oi .iaload, oi (.aload_n 0), (.getfield 44, 17, 12, 17, 2, 984), oi (.iload 6), oi (.iconst 4), oi .iadd, oi .iaload]
theorem oX12_mayIt_92 : okB mX12_mayIt 92 bX12_mayIt_92 = true := by decide +kernel
theorem eX12_mayIt_112 : decode mX12_mayIt.2.1 112 = .ok (.if_icmp .ge 7, 3) := by decide +kernel
def bX12_mayIt_115 : List OP := [oi (.iconst 1), (.goto 4, 0, 0, 120, 0, 0)]
theorem oX12_mayIt_115 : okB mX12_mayIt 115 bX12_mayIt_115 = true := by decide +kernel
def bX12_mayIt_119 : List OP := [oi (.iconst 0)]
theorem oX12_mayIt_119 : okB mX12_mayIt 119 bX12_mayIt_119 = true := by decide +kernel
def bX12_mayIt_120 : List OP := [oi (.istore 4), oi (.iinc 5 1), (.goto (-119), 0, 0, 6, 0, 0)]
theorem oX12_mayIt_120 : okB mX12_mayIt 120 bX12_mayIt_120 = true := by decide +kernel
def bX12_mayIt_128 : List OP := [oi (.iload 4)]
theorem oX12_mayIt_128 : okB mX12_mayIt 128 bX12_mayIt_128 = true := by decide +kernel
theorem eX12_mayIt_130 : decode mX12_mayIt.2.1 130 = .ok (.ireturn, 1) := by decide +kernel
def bX12_may_0 : List OP := [oi (.iload_n 1)]
theorem oX12_may_0 : okB mX12_may 0 bX12_may_0 = true := by decide +kernel
theorem eX12_may_1 : decode mX12_may.2.1 1 = .ok (.invokestatic 189, 3) := by decide +kernel
theorem lX12_may_1 : okL 1241 (.methodLink mX12_may.1.cls 189 mX12_isSeer.1) = true := by decide +kernel
theorem eX12_may_4 : decode mX12_may.2.1 4 = .ok (.ifCond .eq 10, 3) := by decide +kernel
def bX12_may_7 : List OP := [oi (.iload_n 2)]
theorem oX12_may_7 : okB mX12_may 7 bX12_may_7 = true := by decide +kernel
theorem eX12_may_8 : decode mX12_may.2.1 8 = .ok (.invokestatic 183, 3) := by decide +kernel
theorem lX12_may_8 : okL 1222 (.methodLink mX12_may.1.cls 183 mX12_isFilm.1) = true := by decide +kernel
theorem eX12_may_11 : decode mX12_may.2.1 11 = .ok (.ifCond .ne 5, 3) := by decide +kernel
def bX12_may_14 : List OP := [oi (.iconst (-1))]
theorem oX12_may_14 : okB mX12_may 14 bX12_may_14 = true := by decide +kernel
theorem eX12_may_15 : decode mX12_may.2.1 15 = .ok (.ireturn, 1) := by decide +kernel
def bX12_may_16 : List OP := [oi (.iload_n 3), oi (.iconst 0), oi (.sipush 999)]
theorem oX12_may_16 : okB mX12_may 16 bX12_may_16 = true := by decide +kernel
theorem eX12_may_21 : decode mX12_may.2.1 21 = .ok (.invokestatic 102, 3) := by decide +kernel
theorem lX12_may_21 : okL 1091 (.methodLink mX12_may.1.cls 102 mX12_in.1) = true := by decide +kernel
theorem eX12_may_24 : decode mX12_may.2.1 24 = .ok (.ifCond .ne 8, 3) := by decide +kernel
def bX12_may_27 : List OP := [oi (.bipush (-2)), (.goto 18, 0, 0, 47, 0, 0)]
theorem oX12_may_27 : okB mX12_may 27 bX12_may_27 = true := by decide +kernel
def bX12_may_32 : List OP := [oi (.aload_n 0), oi (.iload_n 1), oi (.iload_n 2), oi (.iload_n 3)]
theorem oX12_may_32 : okB mX12_may 32 bX12_may_32 = true := by decide +kernel
theorem eX12_may_36 : decode mX12_may.2.1 36 = .ok (.invokevirtual 192, 3) := by decide +kernel
theorem lX12_may_36 : okL 1248 (.methodLink mX12_may.1.cls 192 mX12_mayIt.1) = true := by decide +kernel
theorem eX12_may_39 : decode mX12_may.2.1 39 = .ok (.ifCond .eq 7, 3) := by decide +kernel
def bX12_may_42 : List OP := [oi (.iconst 1), (.goto 4, 0, 0, 47, 0, 0)]
theorem oX12_may_42 : okB mX12_may 42 bX12_may_42 = true := by decide +kernel
def bX12_may_46 : List OP := [oi (.iconst 0)]
theorem oX12_may_46 : okB mX12_may 46 bX12_may_46 = true := by decide +kernel
theorem eX12_may_47 : decode mX12_may.2.1 47 = .ok (.ireturn, 1) := by decide +kernel
def bX12_see_0 : List OP := [oi (.iload_n 1)]
theorem oX12_see_0 : okB mX12_see 0 bX12_see_0 = true := by decide +kernel
theorem eX12_see_1 : decode mX12_see.2.1 1 = .ok (.invokestatic 189, 3) := by decide +kernel
theorem lX12_see_1 : okL 1241 (.methodLink mX12_see.1.cls 189 mX12_isSeer.1) = true := by decide +kernel
theorem eX12_see_4 : decode mX12_see.2.1 4 = .ok (.ifCond .eq 10, 3) := by decide +kernel
def bX12_see_7 : List OP := [oi (.iload_n 2)]
theorem oX12_see_7 : okB mX12_see 7 bX12_see_7 = true := by decide +kernel
theorem eX12_see_8 : decode mX12_see.2.1 8 = .ok (.invokestatic 183, 3) := by decide +kernel
theorem lX12_see_8 : okL 1222 (.methodLink mX12_see.1.cls 183 mX12_isFilm.1) = true := by decide +kernel
theorem eX12_see_11 : decode mX12_see.2.1 11 = .ok (.ifCond .ne 5, 3) := by decide +kernel
def bX12_see_14 : List OP := [oi (.iconst (-1))]
theorem oX12_see_14 : okB mX12_see 14 bX12_see_14 = true := by decide +kernel
theorem eX12_see_15 : decode mX12_see.2.1 15 = .ok (.ireturn, 1) := by decide +kernel
def bX12_see_16 : List OP := [oi (.iload_n 3), oi (.iconst 0), oi (.sipush 999)]
theorem oX12_see_16 : okB mX12_see 16 bX12_see_16 = true := by decide +kernel
theorem eX12_see_21 : decode mX12_see.2.1 21 = .ok (.invokestatic 102, 3) := by decide +kernel
theorem lX12_see_21 : okL 1091 (.methodLink mX12_see.1.cls 102 mX12_in.1) = true := by decide +kernel
theorem eX12_see_24 : decode mX12_see.2.1 24 = .ok (.ifCond .eq 32, 3) := by decide +kernel
def bX12_see_27 : List OP := [oi (.iload 4), oi (.iconst 0), oi (.bipush 59)]
theorem oX12_see_27 : okB mX12_see 27 bX12_see_27 = true := by decide +kernel
theorem eX12_see_32 : decode mX12_see.2.1 32 = .ok (.invokestatic 102, 3) := by decide +kernel
theorem lX12_see_32 : okL 1091 (.methodLink mX12_see.1.cls 102 mX12_in.1) = true := by decide +kernel
theorem eX12_see_35 : decode mX12_see.2.1 35 = .ok (.ifCond .eq 21, 3) := by decide +kernel
def bX12_see_38 : List OP := [oi (.iload 5), oi (.iconst 0), oi (.bipush 59)]
theorem oX12_see_38 : okB mX12_see 38 bX12_see_38 = true := by decide +kernel
theorem eX12_see_43 : decode mX12_see.2.1 43 = .ok (.invokestatic 102, 3) := by decide +kernel
theorem lX12_see_43 : okL 1091 (.methodLink mX12_see.1.cls 102 mX12_in.1) = true := by decide +kernel
theorem eX12_see_46 : decode mX12_see.2.1 46 = .ok (.ifCond .eq 10, 3) := by decide +kernel
def bX12_see_49 : List OP := [oi (.iload 4), oi (.iload 5)]
theorem oX12_see_49 : okB mX12_see 49 bX12_see_49 = true := by decide +kernel
theorem eX12_see_53 : decode mX12_see.2.1 53 = .ok (.if_icmp .le 6, 3) := by decide +kernel
def bX12_see_56 : List OP := [oi (.bipush (-2))]
theorem oX12_see_56 : okB mX12_see 56 bX12_see_56 = true := by decide +kernel
theorem eX12_see_58 : decode mX12_see.2.1 58 = .ok (.ireturn, 1) := by decide +kernel
def bX12_see_59 : List OP := [oi (.aload_n 0), oi (.iload_n 1), oi (.iload_n 2), oi (.iload_n 3)]
theorem oX12_see_59 : okB mX12_see 59 bX12_see_59 = true := by decide +kernel
theorem eX12_see_63 : decode mX12_see.2.1 63 = .ok (.invokevirtual 192, 3) := by decide +kernel
theorem lX12_see_63 : okL 1248 (.methodLink mX12_see.1.cls 192 mX12_mayIt.1) = true := by decide +kernel
theorem eX12_see_66 : decode mX12_see.2.1 66 = .ok (.ifCond .ne 6, 3) := by decide +kernel
def bX12_see_69 : List OP := [oi (.bipush (-5))]
theorem oX12_see_69 : okB mX12_see 69 bX12_see_69 = true := by decide +kernel
theorem eX12_see_71 : decode mX12_see.2.1 71 = .ok (.ireturn, 1) := by decide +kernel
def bX12_see_72 : List OP := [oi (.iconst 0), oi (.istore 6), oi (.iload 4), oi (.istore 7)]
theorem oX12_see_72 : okB mX12_see 72 bX12_see_72 = true := by decide +kernel
def bX12_see_79 : List OP := [oi (.iload 7), oi (.iload 5)]
theorem oX12_see_79 : okB mX12_see 79 bX12_see_79 = true := by decide +kernel
theorem eX12_see_83 : decode mX12_see.2.1 83 = .ok (.if_icmp .gt 51, 3) := by decide +kernel
def bX12_see_86 : List OP := [oi (.bipush 60), oi (.bipush 6), oi (.iload_n 1), oi .imul, oi (.iload_n 2), oi .iadd, oi .imul, oi (.iload 7), oi .iadd, oi (.istore 8), oi (.iload 6), oi (.aload_n 0), (.getfield 50, 19, 12, 19, 2, 986), oi (.iload 8), oi .baload]
theorem oX12_see_86 : okB mX12_see 86 bX12_see_86 = true := by decide +kernel
theorem eX12_see_109 : decode mX12_see.2.1 109 = .ok (.ifCond .eq 7, 3) := by decide +kernel
def bX12_see_112 : List OP := [oi (.iconst 0), (.goto 4, 0, 0, 117, 0, 0)]
theorem oX12_see_112 : okB mX12_see 112 bX12_see_112 = true := by decide +kernel
def bX12_see_116 : List OP := [oi (.iconst 1)]
theorem oX12_see_116 : okB mX12_see 116 bX12_see_116 = true := by decide +kernel
def bX12_see_117 : List OP := [oi .iadd, oi (.istore 6), oi (.aload_n 0), (.getfield 50, 19, 12, 19, 2, 986), oi (.iload 8), oi (.iconst 1), oi .bastore, oi (.iinc 7 1), (.goto (-52), 0, 0, 79, 0, 0)]
theorem oX12_see_117 : okB mX12_see 117 bX12_see_117 = true := by decide +kernel
def bX12_see_134 : List OP := [oi (.aload_n 0), (.getfield 53, 20, 12, 20, 2, 987), oi (.bipush 6), oi (.iload_n 1), oi .imul, oi (.iload_n 2), oi .iadd, oi .dup2, oi .iaload, oi (.iconst 1), oi .iadd, oi .iastore, oi (.iload 6)]
theorem oX12_see_134 : okB mX12_see 134 bX12_see_134 = true := by decide +kernel
theorem eX12_see_151 : decode mX12_see.2.1 151 = .ok (.ireturn, 1) := by decide +kernel
def bX12_seenOf_0 : List OP := [oi (.iconst 0), oi (.istore_n 3), oi (.iconst 0), oi (.istore 4)]
theorem oX12_seenOf_0 : okB mX12_seenOf 0 bX12_seenOf_0 = true := by decide +kernel
def bX12_seenOf_5 : List OP := [oi (.iload 4), oi (.bipush 60)]
theorem oX12_seenOf_5 : okB mX12_seenOf 5 bX12_seenOf_5 = true := by decide +kernel
theorem eX12_seenOf_9 : decode mX12_seenOf.2.1 9 = .ok (.if_icmp .ge 37, 3) := by decide +kernel
def bX12_seenOf_12 : List OP := [oi (.iload_n 3), oi (.aload_n 0), (.getfield 50, 19, 12, 19, 2, 986), oi (.bipush 60), oi (.bipush 6), oi (.iload_n 1), oi .imul, oi (.iload_n 2), oi .iadd, oi .imul, oi (.iload 4), oi .iadd, oi .baload]
theorem oX12_seenOf_12 : okB mX12_seenOf 12 bX12_seenOf_12 = true := by decide +kernel
theorem eX12_seenOf_30 : decode mX12_seenOf.2.1 30 = .ok (.ifCond .eq 7, 3) := by decide +kernel
def bX12_seenOf_33 : List OP := [oi (.iconst 1), (.goto 4, 0, 0, 38, 0, 0)]
theorem oX12_seenOf_33 : okB mX12_seenOf 33 bX12_seenOf_33 = true := by decide +kernel
def bX12_seenOf_37 : List OP := [oi (.iconst 0)]
theorem oX12_seenOf_37 : okB mX12_seenOf 37 bX12_seenOf_37 = true := by decide +kernel
def bX12_seenOf_38 : List OP := [oi .iadd, oi (.istore_n 3), oi (.iinc 4 1), (.goto (-38), 0, 0, 5, 0, 0)]
theorem oX12_seenOf_38 : okB mX12_seenOf 38 bX12_seenOf_38 = true := by decide +kernel
def bX12_seenOf_46 : List OP := [oi (.iload_n 3)]
theorem oX12_seenOf_46 : okB mX12_seenOf 46 bX12_seenOf_46 = true := by decide +kernel
theorem eX12_seenOf_47 : decode mX12_seenOf.2.1 47 = .ok (.ireturn, 1) := by decide +kernel
def bX12_seen_0 : List OP := [oi (.iload_n 1)]
theorem oX12_seen_0 : okB mX12_seen 0 bX12_seen_0 = true := by decide +kernel
theorem eX12_seen_1 : decode mX12_seen.2.1 1 = .ok (.invokestatic 189, 3) := by decide +kernel
theorem lX12_seen_1 : okL 1241 (.methodLink mX12_seen.1.cls 189 mX12_isSeer.1) = true := by decide +kernel
theorem eX12_seen_4 : decode mX12_seen.2.1 4 = .ok (.ifCond .eq 10, 3) := by decide +kernel
def bX12_seen_7 : List OP := [oi (.iload_n 2)]
theorem oX12_seen_7 : okB mX12_seen 7 bX12_seen_7 = true := by decide +kernel
theorem eX12_seen_8 : decode mX12_seen.2.1 8 = .ok (.invokestatic 183, 3) := by decide +kernel
theorem lX12_seen_8 : okL 1222 (.methodLink mX12_seen.1.cls 183 mX12_isFilm.1) = true := by decide +kernel
theorem eX12_seen_11 : decode mX12_seen.2.1 11 = .ok (.ifCond .ne 5, 3) := by decide +kernel
def bX12_seen_14 : List OP := [oi (.iconst (-1))]
theorem oX12_seen_14 : okB mX12_seen 14 bX12_seen_14 = true := by decide +kernel
theorem eX12_seen_15 : decode mX12_seen.2.1 15 = .ok (.ireturn, 1) := by decide +kernel
def bX12_seen_16 : List OP := [oi (.iload_n 3)]
theorem oX12_seen_16 : okB mX12_seen 16 bX12_seen_16 = true := by decide +kernel
theorem eX12_seen_17 : decode mX12_seen.2.1 17 = .ok (.ifCond .ne 12, 3) := by decide +kernel
def bX12_seen_20 : List OP := [oi (.aload_n 0), oi (.iload_n 1), oi (.iload_n 2)]
theorem oX12_seen_20 : okB mX12_seen 20 bX12_seen_20 = true := by decide +kernel
theorem eX12_seen_23 : decode mX12_seen.2.1 23 = .ok (.invokevirtual 195, 3) := by decide +kernel
theorem lX12_seen_23 : okL 1260 (.methodLink mX12_seen.1.cls 195 mX12_seenOf.1) = true := by decide +kernel
def bX12_seen_26 : List OP := [(.goto 24, 0, 0, 50, 0, 0)]
theorem oX12_seen_26 : okB mX12_seen 26 bX12_seen_26 = true := by decide +kernel
def bX12_seen_29 : List OP := [oi (.iload_n 3), oi (.iconst 1)]
theorem oX12_seen_29 : okB mX12_seen 29 bX12_seen_29 = true := by decide +kernel
theorem eX12_seen_31 : decode mX12_seen.2.1 31 = .ok (.if_icmp .ne 17, 3) := by decide +kernel
def bX12_seen_34 : List OP := [oi (.aload_n 0), (.getfield 53, 20, 12, 20, 2, 987), oi (.bipush 6), oi (.iload_n 1), oi .imul, oi (.iload_n 2), oi .iadd, oi .iaload, (.goto 5, 0, 0, 50, 0, 0)]
theorem oX12_seen_34 : okB mX12_seen 34 bX12_seen_34 = true := by decide +kernel
def bX12_seen_48 : List OP := [oi (.bipush (-2))]
theorem oX12_seen_48 : okB mX12_seen 48 bX12_seen_48 = true := by decide +kernel
theorem eX12_seen_50 : decode mX12_seen.2.1 50 = .ok (.ireturn, 1) := by decide +kernel
def bX12_owed_0 : List OP := [oi (.iload_n 1)]
theorem oX12_owed_0 : okB mX12_owed 0 bX12_owed_0 = true := by decide +kernel
theorem eX12_owed_1 : decode mX12_owed.2.1 1 = .ok (.invokestatic 183, 3) := by decide +kernel
theorem lX12_owed_1 : okL 1222 (.methodLink mX12_owed.1.cls 183 mX12_isFilm.1) = true := by decide +kernel
theorem eX12_owed_4 : decode mX12_owed.2.1 4 = .ok (.ifCond .ne 5, 3) := by decide +kernel
def bX12_owed_7 : List OP := [oi (.iconst (-1))]
theorem oX12_owed_7 : okB mX12_owed 7 bX12_owed_7 = true := by decide +kernel
theorem eX12_owed_8 : decode mX12_owed.2.1 8 = .ok (.ireturn, 1) := by decide +kernel
def bX12_owed_9 : List OP := [oi (.iconst 0), oi (.istore_n 2), oi (.iconst 0), oi (.istore_n 3)]
theorem oX12_owed_9 : okB mX12_owed 9 bX12_owed_9 = true := by decide +kernel
def bX12_owed_13 : List OP := [oi (.iload_n 3), oi (.bipush 8)]
theorem oX12_owed_13 : okB mX12_owed 13 bX12_owed_13 = true := by decide +kernel
theorem eX12_owed_16 : decode mX12_owed.2.1 16 = .ok (.if_icmp .ge 45, 3) := by decide +kernel
def bX12_owed_19 : List OP := [oi (.aload_n 0), oi (.iload_n 3), oi (.iload_n 1)]
theorem oX12_owed_19 : okB mX12_owed 19 bX12_owed_19 = true := by decide +kernel
theorem eX12_owed_22 : decode mX12_owed.2.1 22 = .ok (.invokevirtual 195, 3) := by decide +kernel
theorem lX12_owed_22 : okL 1260 (.methodLink mX12_owed.1.cls 195 mX12_seenOf.1) = true := by decide +kernel
def bX12_owed_25 : List OP := [oi (.aload_n 0), (.getfield 17, 3, 12, 3, 2, 970), oi (.iconst 4), oi .iaload, oi .isub, oi (.istore 4), oi (.iload_n 2), oi (.iload 4)]
theorem oX12_owed_25 : okB mX12_owed 25 bX12_owed_25 = true := by decide +kernel
theorem eX12_owed_37 : decode mX12_owed.2.1 37 = .ok (.ifCond .le 15, 3) := by decide +kernel
def bX12_owed_40 : List OP := [oi (.iload 4), oi (.aload_n 0), (.getfield 17, 3, 12, 3, 2, 970), oi (.iconst 3), oi .iaload, oi .imul, (.goto 4, 0, 0, 53, 0, 0)]
theorem oX12_owed_40 : okB mX12_owed 40 bX12_owed_40 = true := by decide +kernel
def bX12_owed_52 : List OP := [oi (.iconst 0)]
theorem oX12_owed_52 : okB mX12_owed 52 bX12_owed_52 = true := by decide +kernel
def bX12_owed_53 : List OP := [oi .iadd, oi (.istore_n 2), oi (.iinc 3 1), (.goto (-45), 0, 0, 13, 0, 0)]
theorem oX12_owed_53 : okB mX12_owed 53 bX12_owed_53 = true := by decide +kernel
def bX12_owed_61 : List OP := [oi (.iload_n 2)]
theorem oX12_owed_61 : okB mX12_owed 61 bX12_owed_61 = true := by decide +kernel
theorem eX12_owed_62 : decode mX12_owed.2.1 62 = .ok (.ireturn, 1) := by decide +kernel
def bX12_mark_0 : List OP := [oi (.iload_n 1)]
theorem oX12_mark_0 : okB mX12_mark 0 bX12_mark_0 = true := by decide +kernel
theorem eX12_mark_1 : decode mX12_mark.2.1 1 = .ok (.invokestatic 189, 3) := by decide +kernel
theorem lX12_mark_1 : okL 1241 (.methodLink mX12_mark.1.cls 189 mX12_isSeer.1) = true := by decide +kernel
theorem eX12_mark_4 : decode mX12_mark.2.1 4 = .ok (.ifCond .ne 5, 3) := by decide +kernel
def bX12_mark_7 : List OP := [oi (.iconst (-1))]
theorem oX12_mark_7 : okB mX12_mark 7 bX12_mark_7 = true := by decide +kernel
theorem eX12_mark_8 : decode mX12_mark.2.1 8 = .ok (.ireturn, 1) := by decide +kernel
def bX12_mark_9 : List OP := [oi (.iload_n 2), oi (.iconst 0), oi (.sipush 255)]
theorem oX12_mark_9 : okB mX12_mark 9 bX12_mark_9 = true := by decide +kernel
theorem eX12_mark_14 : decode mX12_mark.2.1 14 = .ok (.invokestatic 102, 3) := by decide +kernel
theorem lX12_mark_14 : okL 1091 (.methodLink mX12_mark.1.cls 102 mX12_in.1) = true := by decide +kernel
theorem eX12_mark_17 : decode mX12_mark.2.1 17 = .ok (.ifCond .ne 6, 3) := by decide +kernel
def bX12_mark_20 : List OP := [oi (.bipush (-2))]
theorem oX12_mark_20 : okB mX12_mark 20 bX12_mark_20 = true := by decide +kernel
theorem eX12_mark_22 : decode mX12_mark.2.1 22 = .ok (.ireturn, 1) := by decide +kernel
def bX12_mark_23 : List OP := [oi (.aload_n 0), (.getfield 56, 21, 12, 21, 2, 988), oi (.iload_n 1), oi .iaload, oi (.istore_n 3), oi (.aload_n 0), (.getfield 56, 21, 12, 21, 2, 988), oi (.iload_n 1), oi (.iload_n 2), oi .iastore, oi (.iload_n 3)]
theorem oX12_mark_23 : okB mX12_mark 23 bX12_mark_23 = true := by decide +kernel
theorem eX12_mark_38 : decode mX12_mark.2.1 38 = .ok (.ireturn, 1) := by decide +kernel
def bX12_blame_0 : List OP := [oi (.iload_n 1), oi (.iconst 0), oi (.sipush 255)]
theorem oX12_blame_0 : okB mX12_blame 0 bX12_blame_0 = true := by decide +kernel
theorem eX12_blame_5 : decode mX12_blame.2.1 5 = .ok (.invokestatic 102, 3) := by decide +kernel
theorem lX12_blame_5 : okL 1091 (.methodLink mX12_blame.1.cls 102 mX12_in.1) = true := by decide +kernel
theorem eX12_blame_8 : decode mX12_blame.2.1 8 = .ok (.ifCond .eq 23, 3) := by decide +kernel
def bX12_blame_11 : List OP := [oi (.iload_n 2), oi (.iconst 0), oi (.sipush 255)]
theorem oX12_blame_11 : okB mX12_blame 11 bX12_blame_11 = true := by decide +kernel
theorem eX12_blame_16 : decode mX12_blame.2.1 16 = .ok (.invokestatic 102, 3) := by decide +kernel
theorem lX12_blame_16 : okL 1091 (.methodLink mX12_blame.1.cls 102 mX12_in.1) = true := by decide +kernel
theorem eX12_blame_19 : decode mX12_blame.2.1 19 = .ok (.ifCond .eq 12, 3) := by decide +kernel
def bX12_blame_22 : List OP := [oi (.iload_n 3), oi (.iconst 0), oi (.iconst 3)]
theorem oX12_blame_22 : okB mX12_blame 22 bX12_blame_22 = true := by decide +kernel
theorem eX12_blame_25 : decode mX12_blame.2.1 25 = .ok (.invokestatic 102, 3) := by decide +kernel
theorem lX12_blame_25 : okL 1091 (.methodLink mX12_blame.1.cls 102 mX12_in.1) = true := by decide +kernel
theorem eX12_blame_28 : decode mX12_blame.2.1 28 = .ok (.ifCond .ne 6, 3) := by decide +kernel
def bX12_blame_31 : List OP := [oi (.bipush (-2))]
theorem oX12_blame_31 : okB mX12_blame 31 bX12_blame_31 = true := by decide +kernel
theorem eX12_blame_33 : decode mX12_blame.2.1 33 = .ok (.ireturn, 1) := by decide +kernel
def bX12_blame_34 : List OP := [oi (.iconst 0), oi (.istore 4), oi (.iconst 1), oi (.istore 5), oi (.iconst 0), oi (.istore 6)]
theorem oX12_blame_34 : okB mX12_blame 34 bX12_blame_34 = true := by decide +kernel
def bX12_blame_43 : List OP := [oi (.iload 6), oi (.bipush 8)]
theorem oX12_blame_43 : okB mX12_blame 43 bX12_blame_43 = true := by decide +kernel
theorem eX12_blame_47 : decode mX12_blame.2.1 47 = .ok (.if_icmp .ge 56, 3) := by decide +kernel
def bX12_blame_50 : List OP := [oi (.iload 4), oi (.aload_n 0), (.getfield 56, 21, 12, 21, 2, 988), oi (.iload 6), oi .iaload, oi (.iload_n 2), oi .ixor, oi (.iload_n 1), oi .iand]
theorem oX12_blame_50 : okB mX12_blame 50 bX12_blame_50 = true := by decide +kernel
theorem eX12_blame_63 : decode mX12_blame.2.1 63 = .ok (.ifCond .ne 10, 3) := by decide +kernel
def bX12_blame_66 : List OP := [oi (.iconst 1), oi (.iload 6), oi .ishl, (.goto 4, 0, 0, 74, 0, 0)]
theorem oX12_blame_66 : okB mX12_blame 66 bX12_blame_66 = true := by decide +kernel
def bX12_blame_73 : List OP := [oi (.iconst 0)]
theorem oX12_blame_73 : okB mX12_blame 73 bX12_blame_73 = true := by decide +kernel
def bX12_blame_74 : List OP := [oi .ior, oi (.istore 4), oi (.iload 5), oi (.iload_n 1), oi (.iload 6), oi .ishr, oi (.iconst 1), oi .iand, oi (.iconst 1)]
theorem oX12_blame_74 : okB mX12_blame 74 bX12_blame_74 = true := by decide +kernel
theorem eX12_blame_86 : decode mX12_blame.2.1 86 = .ok (.if_icmp .ne 7, 3) := by decide +kernel
def bX12_blame_89 : List OP := [oi (.iconst 2), (.goto 4, 0, 0, 94, 0, 0)]
theorem oX12_blame_89 : okB mX12_blame 89 bX12_blame_89 = true := by decide +kernel
def bX12_blame_93 : List OP := [oi (.iconst 1)]
theorem oX12_blame_93 : okB mX12_blame 93 bX12_blame_93 = true := by decide +kernel
def bX12_blame_94 : List OP := [oi .imul, oi (.istore 5), oi (.iinc 6 1), (.goto (-57), 0, 0, 43, 0, 0)]
theorem oX12_blame_94 : okB mX12_blame 94 bX12_blame_94 = true := by decide +kernel
def bX12_blame_103 : List OP := [oi (.iconst 0), oi (.istore 6), oi (.bipush (-6)), oi (.istore 7), oi (.iconst 0), oi (.istore 8)]
theorem oX12_blame_103 : okB mX12_blame 103 bX12_blame_103 = true := by decide +kernel
def bX12_blame_113 : List OP := [oi (.iload 8), oi (.bipush 8)]
theorem oX12_blame_113 : okB mX12_blame 113 bX12_blame_113 = true := by decide +kernel
theorem eX12_blame_117 : decode mX12_blame.2.1 117 = .ok (.if_icmp .ge 107, 3) := by decide +kernel
def bX12_blame_120 : List OP := [oi (.iload 8), oi (.iconst 1), oi .iadd, oi (.istore 9)]
theorem oX12_blame_120 : okB mX12_blame 120 bX12_blame_120 = true := by decide +kernel
def bX12_blame_126 : List OP := [oi (.iload 9), oi (.bipush 8)]
theorem oX12_blame_126 : okB mX12_blame 126 bX12_blame_126 = true := by decide +kernel
theorem eX12_blame_130 : decode mX12_blame.2.1 130 = .ok (.if_icmp .ge 88, 3) := by decide +kernel
def bX12_blame_133 : List OP := [oi (.iload 4), oi (.iload 8), oi .ishr, oi (.iconst 1), oi .iand]
theorem oX12_blame_133 : okB mX12_blame 133 bX12_blame_133 = true := by decide +kernel
theorem eX12_blame_140 : decode mX12_blame.2.1 140 = .ok (.ifCond .ne 17, 3) := by decide +kernel
def bX12_blame_143 : List OP := [oi (.iload 4), oi (.iload 9), oi .ishr, oi (.iconst 1), oi .iand]
theorem oX12_blame_143 : okB mX12_blame 143 bX12_blame_143 = true := by decide +kernel
theorem eX12_blame_150 : decode mX12_blame.2.1 150 = .ok (.ifCond .ne 7, 3) := by decide +kernel
def bX12_blame_153 : List OP := [oi (.iconst 1), (.goto 4, 0, 0, 158, 0, 0)]
theorem oX12_blame_153 : okB mX12_blame 153 bX12_blame_153 = true := by decide +kernel
def bX12_blame_157 : List OP := [oi (.iconst 0)]
theorem oX12_blame_157 : okB mX12_blame 157 bX12_blame_157 = true := by decide +kernel
def bX12_blame_158 : List OP := [oi (.istore 10), oi (.iload 10)]
theorem oX12_blame_158 : okB mX12_blame 158 bX12_blame_158 = true := by decide +kernel
theorem eX12_blame_162 : decode mX12_blame.2.1 162 = .ok (.ifCond .eq 50, 3) := by decide +kernel
def bX12_blame_165 : List OP := [oi (.aload_n 0), (.getfield 56, 21, 12, 21, 2, 988), oi (.iload 8), oi .iaload, oi (.iload_n 2), oi .ixor, oi (.aload_n 0), (.getfield 56, 21, 12, 21, 2, 988), oi (.iload 9), oi .iaload, oi (.iload_n 2), oi .ixor, oi .iand, oi (.iload_n 1), oi .iand]
theorem oX12_blame_165 : okB mX12_blame 165 bX12_blame_165 = true := by decide +kernel
theorem eX12_blame_186 : decode mX12_blame.2.1 186 = .ok (.ifCond .ne 26, 3) := by decide +kernel
def bX12_blame_189 : List OP := [oi (.iinc 6 1), oi (.iload 7)]
theorem oX12_blame_189 : okB mX12_blame 189 bX12_blame_189 = true := by decide +kernel
theorem eX12_blame_194 : decode mX12_blame.2.1 194 = .ok (.ifCond .ge 14, 3) := by decide +kernel
def bX12_blame_197 : List OP := [oi (.bipush 10), oi (.iload 8), oi .imul, oi (.iload 9), oi .iadd, (.goto 5, 0, 0, 210, 0, 0)]
theorem oX12_blame_197 : okB mX12_blame 197 bX12_blame_197 = true := by decide +kernel
def bX12_blame_208 : List OP := [oi (.iload 7)]
theorem oX12_blame_208 : okB mX12_blame 208 bX12_blame_208 = true := by decide +kernel
def bX12_blame_210 : List OP := [oi (.istore 7)]
theorem oX12_blame_210 : okB mX12_blame 210 bX12_blame_210 = true := by decide +kernel
def bX12_blame_212 : List OP := [oi (.iinc 9 1), (.goto (-89), 0, 0, 126, 0, 0)]
theorem oX12_blame_212 : okB mX12_blame 212 bX12_blame_212 = true := by decide +kernel
def bX12_blame_218 : List OP := [oi (.iinc 8 1), (.goto (-108), 0, 0, 113, 0, 0)]
theorem oX12_blame_218 : okB mX12_blame 218 bX12_blame_218 = true := by decide +kernel
def bX12_blame_224 : List OP := [oi (.iload_n 3)]
theorem oX12_blame_224 : okB mX12_blame 224 bX12_blame_224 = true := by decide +kernel
theorem eX12_blame_225 : decode mX12_blame.2.1 225 = .ok (.ifCond .ne 8, 3) := by decide +kernel
def bX12_blame_228 : List OP := [oi (.iload 4), (.goto 25, 0, 0, 255, 0, 0)]
theorem oX12_blame_228 : okB mX12_blame 228 bX12_blame_228 = true := by decide +kernel
def bX12_blame_233 : List OP := [oi (.iload_n 3), oi (.iconst 1)]
theorem oX12_blame_233 : okB mX12_blame 233 bX12_blame_233 = true := by decide +kernel
theorem eX12_blame_235 : decode mX12_blame.2.1 235 = .ok (.if_icmp .ne 8, 3) := by decide +kernel
def bX12_blame_238 : List OP := [oi (.iload 6), (.goto 15, 0, 0, 255, 0, 0)]
theorem oX12_blame_238 : okB mX12_blame 238 bX12_blame_238 = true := by decide +kernel
def bX12_blame_243 : List OP := [oi (.iload_n 3), oi (.iconst 2)]
theorem oX12_blame_243 : okB mX12_blame 243 bX12_blame_243 = true := by decide +kernel
theorem eX12_blame_245 : decode mX12_blame.2.1 245 = .ok (.if_icmp .ne 8, 3) := by decide +kernel
def bX12_blame_248 : List OP := [oi (.iload 7), (.goto 5, 0, 0, 255, 0, 0)]
theorem oX12_blame_248 : okB mX12_blame 248 bX12_blame_248 = true := by decide +kernel
def bX12_blame_253 : List OP := [oi (.iload 5)]
theorem oX12_blame_253 : okB mX12_blame 253 bX12_blame_253 = true := by decide +kernel
theorem eX12_blame_255 : decode mX12_blame.2.1 255 = .ok (.ireturn, 1) := by decide +kernel
def bX12_isGroup_0 : List OP := [oi (.iload_n 0), oi (.iconst 0), oi (.iconst 3)]
theorem oX12_isGroup_0 : okB mX12_isGroup 0 bX12_isGroup_0 = true := by decide +kernel
theorem eX12_isGroup_3 : decode mX12_isGroup.2.1 3 = .ok (.invokestatic 102, 3) := by decide +kernel
theorem lX12_isGroup_3 : okL 1091 (.methodLink mX12_isGroup.1.cls 102 mX12_in.1) = true := by decide +kernel
theorem eX12_isGroup_6 : decode mX12_isGroup.2.1 6 = .ok (.ireturn, 1) := by decide +kernel
def bX12_put_0 : List OP := [oi (.iload_n 1)]
theorem oX12_put_0 : okB mX12_put 0 bX12_put_0 = true := by decide +kernel
theorem eX12_put_1 : decode mX12_put.2.1 1 = .ok (.invokestatic 198, 3) := by decide +kernel
theorem lX12_put_1 : okL 1280 (.methodLink mX12_put.1.cls 198 mX12_isGroup.1) = true := by decide +kernel
theorem eX12_put_4 : decode mX12_put.2.1 4 = .ok (.ifCond .ne 5, 3) := by decide +kernel
def bX12_put_7 : List OP := [oi (.iconst (-1))]
theorem oX12_put_7 : okB mX12_put 7 bX12_put_7 = true := by decide +kernel
theorem eX12_put_8 : decode mX12_put.2.1 8 = .ok (.ireturn, 1) := by decide +kernel
def bX12_put_9 : List OP := [oi (.iload_n 2), oi (.iconst 0), oi (.iconst 5)]
theorem oX12_put_9 : okB mX12_put 9 bX12_put_9 = true := by decide +kernel
theorem eX12_put_12 : decode mX12_put.2.1 12 = .ok (.invokestatic 102, 3) := by decide +kernel
theorem lX12_put_12 : okL 1091 (.methodLink mX12_put.1.cls 102 mX12_in.1) = true := by decide +kernel
theorem eX12_put_15 : decode mX12_put.2.1 15 = .ok (.ifCond .eq 13, 3) := by decide +kernel
def bX12_put_18 : List OP := [oi (.iload_n 3), oi (.iconst 0), (.ldc 201, 65535, 0, 0, 0, 1283)]
theorem oX12_put_18 : okB mX12_put 18 bX12_put_18 = true := by decide +kernel
theorem eX12_put_22 : decode mX12_put.2.1 22 = .ok (.invokestatic 102, 3) := by decide +kernel
theorem lX12_put_22 : okL 1091 (.methodLink mX12_put.1.cls 102 mX12_in.1) = true := by decide +kernel
theorem eX12_put_25 : decode mX12_put.2.1 25 = .ok (.ifCond .ne 6, 3) := by decide +kernel
def bX12_put_28 : List OP := [oi (.bipush (-2))]
theorem oX12_put_28 : okB mX12_put 28 bX12_put_28 = true := by decide +kernel
theorem eX12_put_30 : decode mX12_put.2.1 30 = .ok (.ireturn, 1) := by decide +kernel
def bX12_put_31 : List OP := [oi (.aload_n 0), (.getfield 59, 22, 12, 22, 2, 989), oi (.bipush 6), oi (.iload_n 1), oi .imul, oi (.iload_n 2), oi .iadd, oi .iaload, oi (.istore 4), oi (.aload_n 0), (.getfield 59, 22, 12, 22, 2, 989), oi (.bipush 6), oi (.iload_n 1), oi .imul, oi (.iload_n 2), oi .iadd, oi (.iload_n 3), oi .iastore, oi (.iload 4)]
theorem oX12_put_31 : okB mX12_put 31 bX12_put_31 = true := by decide +kernel
theorem eX12_put_58 : decode mX12_put.2.1 58 = .ok (.ireturn, 1) := by decide +kernel
def bX12_sum_0 : List OP := [oi (.iload_n 1)]
theorem oX12_sum_0 : okB mX12_sum 0 bX12_sum_0 = true := by decide +kernel
theorem eX12_sum_1 : decode mX12_sum.2.1 1 = .ok (.invokestatic 198, 3) := by decide +kernel
theorem lX12_sum_1 : okL 1280 (.methodLink mX12_sum.1.cls 198 mX12_isGroup.1) = true := by decide +kernel
theorem eX12_sum_4 : decode mX12_sum.2.1 4 = .ok (.ifCond .ne 5, 3) := by decide +kernel
def bX12_sum_7 : List OP := [oi (.iconst (-1))]
theorem oX12_sum_7 : okB mX12_sum 7 bX12_sum_7 = true := by decide +kernel
theorem eX12_sum_8 : decode mX12_sum.2.1 8 = .ok (.ireturn, 1) := by decide +kernel
def bX12_sum_9 : List OP := [oi (.iload_n 2), oi (.iconst 0), oi (.iconst 1)]
theorem oX12_sum_9 : okB mX12_sum 9 bX12_sum_9 = true := by decide +kernel
theorem eX12_sum_12 : decode mX12_sum.2.1 12 = .ok (.invokestatic 102, 3) := by decide +kernel
theorem lX12_sum_12 : okL 1091 (.methodLink mX12_sum.1.cls 102 mX12_in.1) = true := by decide +kernel
theorem eX12_sum_15 : decode mX12_sum.2.1 15 = .ok (.ifCond .ne 6, 3) := by decide +kernel
def bX12_sum_18 : List OP := [oi (.bipush (-2))]
theorem oX12_sum_18 : okB mX12_sum 18 bX12_sum_18 = true := by decide +kernel
theorem eX12_sum_20 : decode mX12_sum.2.1 20 = .ok (.ireturn, 1) := by decide +kernel
def bX12_sum_21 : List OP := [oi (.iconst 0), oi (.istore_n 3), oi (.iconst 0), oi (.istore 4)]
theorem oX12_sum_21 : okB mX12_sum 21 bX12_sum_21 = true := by decide +kernel
def bX12_sum_26 : List OP := [oi (.iload 4), oi (.bipush 6)]
theorem oX12_sum_26 : okB mX12_sum 26 bX12_sum_26 = true := by decide +kernel
theorem eX12_sum_30 : decode mX12_sum.2.1 30 = .ok (.if_icmp .ge 37, 3) := by decide +kernel
def bX12_sum_33 : List OP := [oi (.iload_n 3), oi (.aload_n 0), (.getfield 59, 22, 12, 22, 2, 989), oi (.bipush 6), oi (.iload_n 1), oi .imul, oi (.iload 4), oi .iadd, oi .iaload, oi (.iload_n 2)]
theorem oX12_sum_33 : okB mX12_sum 33 bX12_sum_33 = true := by decide +kernel
theorem eX12_sum_47 : decode mX12_sum.2.1 47 = .ok (.ifCond .ne 7, 3) := by decide +kernel
def bX12_sum_50 : List OP := [oi (.iconst 1), (.goto 7, 0, 0, 58, 0, 0)]
theorem oX12_sum_50 : okB mX12_sum 50 bX12_sum_50 = true := by decide +kernel
def bX12_sum_54 : List OP := [oi (.iload 4), oi (.iconst 1), oi .iadd]
theorem oX12_sum_54 : okB mX12_sum 54 bX12_sum_54 = true := by decide +kernel
def bX12_sum_58 : List OP := [oi .imul, oi .iadd, oi (.istore_n 3), oi (.iinc 4 1), (.goto (-38), 0, 0, 26, 0, 0)]
theorem oX12_sum_58 : okB mX12_sum 58 bX12_sum_58 = true := by decide +kernel
def bX12_sum_67 : List OP := [oi (.iload_n 3)]
theorem oX12_sum_67 : okB mX12_sum 67 bX12_sum_67 = true := by decide +kernel
theorem eX12_sum_68 : decode mX12_sum.2.1 68 = .ok (.ireturn, 1) := by decide +kernel
def bX12_restore_0 : List OP := [oi (.iload_n 1)]
theorem oX12_restore_0 : okB mX12_restore 0 bX12_restore_0 = true := by decide +kernel
theorem eX12_restore_1 : decode mX12_restore.2.1 1 = .ok (.invokestatic 198, 3) := by decide +kernel
theorem lX12_restore_1 : okL 1280 (.methodLink mX12_restore.1.cls 198 mX12_isGroup.1) = true := by decide +kernel
theorem eX12_restore_4 : decode mX12_restore.2.1 4 = .ok (.ifCond .ne 5, 3) := by decide +kernel
def bX12_restore_7 : List OP := [oi (.iconst (-1))]
theorem oX12_restore_7 : okB mX12_restore 7 bX12_restore_7 = true := by decide +kernel
theorem eX12_restore_8 : decode mX12_restore.2.1 8 = .ok (.ireturn, 1) := by decide +kernel
def bX12_restore_9 : List OP := [oi (.iload_n 2), oi (.iconst 0), oi (.sipush 255)]
theorem oX12_restore_9 : okB mX12_restore 9 bX12_restore_9 = true := by decide +kernel
theorem eX12_restore_14 : decode mX12_restore.2.1 14 = .ok (.invokestatic 102, 3) := by decide +kernel
theorem lX12_restore_14 : okL 1091 (.methodLink mX12_restore.1.cls 102 mX12_in.1) = true := by decide +kernel
theorem eX12_restore_17 : decode mX12_restore.2.1 17 = .ok (.ifCond .eq 12, 3) := by decide +kernel
def bX12_restore_20 : List OP := [oi (.iload_n 3), oi (.iconst 0), oi (.iconst 5)]
theorem oX12_restore_20 : okB mX12_restore 20 bX12_restore_20 = true := by decide +kernel
theorem eX12_restore_23 : decode mX12_restore.2.1 23 = .ok (.invokestatic 102, 3) := by decide +kernel
theorem lX12_restore_23 : okL 1091 (.methodLink mX12_restore.1.cls 102 mX12_in.1) = true := by decide +kernel
theorem eX12_restore_26 : decode mX12_restore.2.1 26 = .ok (.ifCond .ne 6, 3) := by decide +kernel
def bX12_restore_29 : List OP := [oi (.bipush (-2))]
theorem oX12_restore_29 : okB mX12_restore 29 bX12_restore_29 = true := by decide +kernel
theorem eX12_restore_31 : decode mX12_restore.2.1 31 = .ok (.ireturn, 1) := by decide +kernel
def bX12_restore_32 : List OP := [oi (.iload_n 2), oi (.iload_n 3), oi .ishr, oi (.iconst 1), oi .iand]
theorem oX12_restore_32 : okB mX12_restore 32 bX12_restore_32 = true := by decide +kernel
theorem eX12_restore_37 : decode mX12_restore.2.1 37 = .ok (.ifCond .ne 6, 3) := by decide +kernel
def bX12_restore_40 : List OP := [oi (.bipush (-5))]
theorem oX12_restore_40 : okB mX12_restore 40 bX12_restore_40 = true := by decide +kernel
theorem eX12_restore_42 : decode mX12_restore.2.1 42 = .ok (.ireturn, 1) := by decide +kernel
def bX12_restore_43 : List OP := [oi (.iconst 0), oi (.istore 4), oi (.iconst 0), oi (.istore 5)]
theorem oX12_restore_43 : okB mX12_restore 43 bX12_restore_43 = true := by decide +kernel
def bX12_restore_49 : List OP := [oi (.iload 5), oi (.bipush 6)]
theorem oX12_restore_49 : okB mX12_restore 49 bX12_restore_49 = true := by decide +kernel
theorem eX12_restore_53 : decode mX12_restore.2.1 53 = .ok (.if_icmp .ge 20, 3) := by decide +kernel
def bX12_restore_56 : List OP := [oi (.iload 4), oi (.iload_n 2), oi (.iload 5), oi .ishr, oi (.iconst 1), oi .iand, oi .iadd, oi (.istore 4), oi (.iinc 5 1), (.goto (-21), 0, 0, 49, 0, 0)]
theorem oX12_restore_56 : okB mX12_restore 56 bX12_restore_56 = true := by decide +kernel
def bX12_restore_73 : List OP := [oi (.iconst 2), oi (.iload_n 2), oi (.bipush 6), oi .ishr, oi (.iconst 1), oi .iand, oi .isub, oi (.iload_n 2), oi (.bipush 7), oi .ishr, oi (.iconst 1), oi .iand, oi .isub, oi (.istore 5), oi (.iload 4), oi (.iload 5)]
theorem oX12_restore_73 : okB mX12_restore 73 bX12_restore_73 = true := by decide +kernel
theorem eX12_restore_94 : decode mX12_restore.2.1 94 = .ok (.if_icmp .gt 17, 3) := by decide +kernel
def bX12_restore_97 : List OP := [oi (.aload_n 0), (.getfield 59, 22, 12, 22, 2, 989), oi (.bipush 6), oi (.iload_n 1), oi .imul, oi (.iload_n 3), oi .iadd, oi .iaload, (.goto 5, 0, 0, 113, 0, 0)]
theorem oX12_restore_97 : okB mX12_restore 97 bX12_restore_97 = true := by decide +kernel
def bX12_restore_111 : List OP := [oi (.bipush (-6))]
theorem oX12_restore_111 : okB mX12_restore 111 bX12_restore_111 = true := by decide +kernel
theorem eX12_restore_113 : decode mX12_restore.2.1 113 = .ok (.ireturn, 1) := by decide +kernel
def bX12_isNode_0 : List OP := [oi (.iload_n 0), oi (.iconst 0), oi (.bipush 9)]
theorem oX12_isNode_0 : okB mX12_isNode 0 bX12_isNode_0 = true := by decide +kernel
theorem eX12_isNode_4 : decode mX12_isNode.2.1 4 = .ok (.invokestatic 102, 3) := by decide +kernel
theorem lX12_isNode_4 : okL 1091 (.methodLink mX12_isNode.1.cls 102 mX12_in.1) = true := by decide +kernel
theorem eX12_isNode_7 : decode mX12_isNode.2.1 7 = .ok (.ireturn, 1) := by decide +kernel
def bX12_hungOn_0 : List OP := [oi (.iconst 0), oi (.istore_n 3), oi (.iconst 1), oi (.istore 4)]
theorem oX12_hungOn_0 : okB mX12_hungOn 0 bX12_hungOn_0 = true := by decide +kernel
def bX12_hungOn_5 : List OP := [oi (.iload 4), oi (.bipush 10)]
theorem oX12_hungOn_5 : okB mX12_hungOn 5 bX12_hungOn_5 = true := by decide +kernel
theorem eX12_hungOn_9 : decode mX12_hungOn.2.1 9 = .ok (.if_icmp .ge 44, 3) := by decide +kernel
def bX12_hungOn_12 : List OP := [oi (.iload_n 3), oi (.iload 4), oi (.iload_n 2)]
theorem oX12_hungOn_12 : okB mX12_hungOn 12 bX12_hungOn_12 = true := by decide +kernel
theorem eX12_hungOn_16 : decode mX12_hungOn.2.1 16 = .ok (.if_icmp .eq 28, 3) := by decide +kernel
def bX12_hungOn_19 : List OP := [oi (.aload_n 0), (.getfield 68, 25, 12, 25, 2, 992), oi (.iload 4), oi .baload]
theorem oX12_hungOn_19 : okB mX12_hungOn 19 bX12_hungOn_19 = true := by decide +kernel
theorem eX12_hungOn_26 : decode mX12_hungOn.2.1 26 = .ok (.ifCond .ne 18, 3) := by decide +kernel
def bX12_hungOn_29 : List OP := [oi (.aload_n 0), (.getfield 62, 23, 12, 23, 2, 990), oi (.iload 4), oi .iaload, oi (.iload_n 1)]
theorem oX12_hungOn_29 : okB mX12_hungOn 29 bX12_hungOn_29 = true := by decide +kernel
theorem eX12_hungOn_37 : decode mX12_hungOn.2.1 37 = .ok (.if_icmp .ne 7, 3) := by decide +kernel
def bX12_hungOn_40 : List OP := [oi (.iconst 1), (.goto 4, 0, 0, 45, 0, 0)]
theorem oX12_hungOn_40 : okB mX12_hungOn 40 bX12_hungOn_40 = true := by decide +kernel
def bX12_hungOn_44 : List OP := [oi (.iconst 0)]
theorem oX12_hungOn_44 : okB mX12_hungOn 44 bX12_hungOn_44 = true := by decide +kernel
def bX12_hungOn_45 : List OP := [oi .iadd, oi (.istore_n 3), oi (.iinc 4 1), (.goto (-45), 0, 0, 5, 0, 0)]
theorem oX12_hungOn_45 : okB mX12_hungOn 45 bX12_hungOn_45 = true := by decide +kernel
def bX12_hungOn_53 : List OP := [oi (.iload_n 3)]
theorem oX12_hungOn_53 : okB mX12_hungOn 53 bX12_hungOn_53 = true := by decide +kernel
theorem eX12_hungOn_54 : decode mX12_hungOn.2.1 54 = .ok (.ireturn, 1) := by decide +kernel
def bX12_hang_0 : List OP := [oi (.iload_n 1)]
theorem oX12_hang_0 : okB mX12_hang 0 bX12_hang_0 = true := by decide +kernel
theorem eX12_hang_1 : decode mX12_hang.2.1 1 = .ok (.invokestatic 202, 3) := by decide +kernel
theorem lX12_hang_1 : okL 1296 (.methodLink mX12_hang.1.cls 202 mX12_isNode.1) = true := by decide +kernel
theorem eX12_hang_4 : decode mX12_hang.2.1 4 = .ok (.ifCond .eq 10, 3) := by decide +kernel
def bX12_hang_7 : List OP := [oi (.iload_n 2)]
theorem oX12_hang_7 : okB mX12_hang 7 bX12_hang_7 = true := by decide +kernel
theorem eX12_hang_8 : decode mX12_hang.2.1 8 = .ok (.invokestatic 202, 3) := by decide +kernel
theorem lX12_hang_8 : okL 1296 (.methodLink mX12_hang.1.cls 202 mX12_isNode.1) = true := by decide +kernel
theorem eX12_hang_11 : decode mX12_hang.2.1 11 = .ok (.ifCond .ne 5, 3) := by decide +kernel
def bX12_hang_14 : List OP := [oi (.iconst (-1))]
theorem oX12_hang_14 : okB mX12_hang 14 bX12_hang_14 = true := by decide +kernel
theorem eX12_hang_15 : decode mX12_hang.2.1 15 = .ok (.ireturn, 1) := by decide +kernel
def bX12_hang_16 : List OP := [oi (.iload_n 3), oi (.iconst 1), oi (.bipush 100)]
theorem oX12_hang_16 : okB mX12_hang 16 bX12_hang_16 = true := by decide +kernel
theorem eX12_hang_20 : decode mX12_hang.2.1 20 = .ok (.invokestatic 102, 3) := by decide +kernel
theorem lX12_hang_20 : okL 1091 (.methodLink mX12_hang.1.cls 102 mX12_in.1) = true := by decide +kernel
theorem eX12_hang_23 : decode mX12_hang.2.1 23 = .ok (.ifCond .ne 6, 3) := by decide +kernel
def bX12_hang_26 : List OP := [oi (.bipush (-2))]
theorem oX12_hang_26 : okB mX12_hang 26 bX12_hang_26 = true := by decide +kernel
theorem eX12_hang_28 : decode mX12_hang.2.1 28 = .ok (.ireturn, 1) := by decide +kernel
def bX12_hang_29 : List OP := [oi (.aload_n 0), (.getfield 68, 25, 12, 25, 2, 992), oi (.iload_n 1), oi .baload]
theorem oX12_hang_29 : okB mX12_hang 29 bX12_hang_29 = true := by decide +kernel
theorem eX12_hang_35 : decode mX12_hang.2.1 35 = .ok (.ifCond .ne 12, 3) := by decide +kernel
def bX12_hang_38 : List OP := [oi (.aload_n 0), (.getfield 68, 25, 12, 25, 2, 992), oi (.iload_n 2), oi .baload]
theorem oX12_hang_38 : okB mX12_hang 38 bX12_hang_38 = true := by decide +kernel
theorem eX12_hang_44 : decode mX12_hang.2.1 44 = .ok (.ifCond .eq 6, 3) := by decide +kernel
def bX12_hang_47 : List OP := [oi (.bipush (-3))]
theorem oX12_hang_47 : okB mX12_hang 47 bX12_hang_47 = true := by decide +kernel
theorem eX12_hang_49 : decode mX12_hang.2.1 49 = .ok (.ireturn, 1) := by decide +kernel
def bX12_hang_50 : List OP := [oi (.iload_n 2), oi (.iload_n 1)]
theorem oX12_hang_50 : okB mX12_hang 50 bX12_hang_50 = true := by decide +kernel
theorem eX12_hang_52 : decode mX12_hang.2.1 52 = .ok (.if_icmp .lt 6, 3) := by decide +kernel
def bX12_hang_55 : List OP := [oi (.bipush (-5))]
theorem oX12_hang_55 : okB mX12_hang 55 bX12_hang_55 = true := by decide +kernel
theorem eX12_hang_57 : decode mX12_hang.2.1 57 = .ok (.ireturn, 1) := by decide +kernel
def bX12_hang_58 : List OP := [oi (.aload_n 0), oi (.iload_n 2), oi (.iload_n 1)]
theorem oX12_hang_58 : okB mX12_hang 58 bX12_hang_58 = true := by decide +kernel
theorem eX12_hang_61 : decode mX12_hang.2.1 61 = .ok (.invokevirtual 205, 3) := by decide +kernel
theorem lX12_hang_61 : okL 1299 (.methodLink mX12_hang.1.cls 205 mX12_hungOn.1) = true := by decide +kernel
def bX12_hang_64 : List OP := [oi (.aload_n 0), (.getfield 17, 3, 12, 3, 2, 970), oi (.bipush 6), oi .iaload]
theorem oX12_hang_64 : okB mX12_hang 64 bX12_hang_64 = true := by decide +kernel
theorem eX12_hang_71 : decode mX12_hang.2.1 71 = .ok (.if_icmp .lt 6, 3) := by decide +kernel
def bX12_hang_74 : List OP := [oi (.bipush (-4))]
theorem oX12_hang_74 : okB mX12_hang 74 bX12_hang_74 = true := by decide +kernel
theorem eX12_hang_76 : decode mX12_hang.2.1 76 = .ok (.ireturn, 1) := by decide +kernel
def bX12_hang_77 : List OP := [oi (.aload_n 0), (.getfield 62, 23, 12, 23, 2, 990), oi (.iload_n 1), oi .iaload, oi (.istore 4), oi (.aload_n 0), (.getfield 62, 23, 12, 23, 2, 990), oi (.iload_n 1), oi (.iload_n 2), oi .iastore, oi (.aload_n 0), (.getfield 65, 24, 12, 24, 2, 991), oi (.iload_n 1), oi (.iload_n 3), oi .iastore, oi (.iload 4)]
theorem oX12_hang_77 : okB mX12_hang 77 bX12_hang_77 = true := by decide +kernel
theorem eX12_hang_101 : decode mX12_hang.2.1 101 = .ok (.ireturn, 1) := by decide +kernel
def bX12_behindOf_0 : List OP := [oi (.iconst 0), oi (.istore_n 2), oi (.iload_n 1), oi (.istore_n 3)]
theorem oX12_behindOf_0 : okB mX12_behindOf 0 bX12_behindOf_0 = true := by decide +kernel
def bX12_behindOf_4 : List OP := [oi (.iload_n 3)]
theorem oX12_behindOf_4 : okB mX12_behindOf 4 bX12_behindOf_4 = true := by decide +kernel
theorem eX12_behindOf_5 : decode mX12_behindOf.2.1 5 = .ok (.ifCond .le 22, 3) := by decide +kernel
def bX12_behindOf_8 : List OP := [oi (.iload_n 2), oi (.aload_n 0), (.getfield 65, 24, 12, 24, 2, 991), oi (.iload_n 3), oi .iaload, oi .iadd, oi (.istore_n 2), oi (.aload_n 0), (.getfield 62, 23, 12, 23, 2, 990), oi (.iload_n 3), oi .iaload, oi (.istore_n 3), (.goto (-20), 0, 0, 4, 0, 0)]
theorem oX12_behindOf_8 : okB mX12_behindOf 8 bX12_behindOf_8 = true := by decide +kernel
def bX12_behindOf_27 : List OP := [oi (.iload_n 2)]
theorem oX12_behindOf_27 : okB mX12_behindOf 27 bX12_behindOf_27 = true := by decide +kernel
theorem eX12_behindOf_28 : decode mX12_behindOf.2.1 28 = .ok (.ireturn, 1) := by decide +kernel
def bX12_behind_0 : List OP := [oi (.iload_n 1)]
theorem oX12_behind_0 : okB mX12_behind 0 bX12_behind_0 = true := by decide +kernel
theorem eX12_behind_1 : decode mX12_behind.2.1 1 = .ok (.invokestatic 202, 3) := by decide +kernel
theorem lX12_behind_1 : okL 1296 (.methodLink mX12_behind.1.cls 202 mX12_isNode.1) = true := by decide +kernel
theorem eX12_behind_4 : decode mX12_behind.2.1 4 = .ok (.ifCond .ne 7, 3) := by decide +kernel
def bX12_behind_7 : List OP := [oi (.iconst (-1)), (.goto 22, 0, 0, 30, 0, 0)]
theorem oX12_behind_7 : okB mX12_behind 7 bX12_behind_7 = true := by decide +kernel
def bX12_behind_11 : List OP := [oi (.aload_n 0), (.getfield 68, 25, 12, 25, 2, 992), oi (.iload_n 1), oi .baload]
theorem oX12_behind_11 : okB mX12_behind 11 bX12_behind_11 = true := by decide +kernel
theorem eX12_behind_17 : decode mX12_behind.2.1 17 = .ok (.ifCond .eq 8, 3) := by decide +kernel
def bX12_behind_20 : List OP := [oi (.bipush (-3)), (.goto 8, 0, 0, 30, 0, 0)]
theorem oX12_behind_20 : okB mX12_behind 20 bX12_behind_20 = true := by decide +kernel
def bX12_behind_25 : List OP := [oi (.aload_n 0), oi (.iload_n 1)]
theorem oX12_behind_25 : okB mX12_behind 25 bX12_behind_25 = true := by decide +kernel
theorem eX12_behind_27 : decode mX12_behind.2.1 27 = .ok (.invokevirtual 208, 3) := by decide +kernel
theorem lX12_behind_27 : okL 1307 (.methodLink mX12_behind.1.cls 208 mX12_behindOf.1) = true := by decide +kernel
theorem eX12_behind_30 : decode mX12_behind.2.1 30 = .ok (.ireturn, 1) := by decide +kernel
def bX12_isBelow_0 : List OP := [oi (.iload_n 1), oi (.istore_n 3)]
theorem oX12_isBelow_0 : okB mX12_isBelow 0 bX12_isBelow_0 = true := by decide +kernel
def bX12_isBelow_2 : List OP := [oi (.iload_n 3)]
theorem oX12_isBelow_2 : okB mX12_isBelow 2 bX12_isBelow_2 = true := by decide +kernel
theorem eX12_isBelow_3 : decode mX12_isBelow.2.1 3 = .ok (.ifCond .le 18, 3) := by decide +kernel
def bX12_isBelow_6 : List OP := [oi (.iload_n 3), oi (.iload_n 2)]
theorem oX12_isBelow_6 : okB mX12_isBelow 6 bX12_isBelow_6 = true := by decide +kernel
theorem eX12_isBelow_8 : decode mX12_isBelow.2.1 8 = .ok (.if_icmp .eq 13, 3) := by decide +kernel
def bX12_isBelow_11 : List OP := [oi (.aload_n 0), (.getfield 62, 23, 12, 23, 2, 990), oi (.iload_n 3), oi .iaload, oi (.istore_n 3), (.goto (-16), 0, 0, 2, 0, 0)]
theorem oX12_isBelow_11 : okB mX12_isBelow 11 bX12_isBelow_11 = true := by decide +kernel
def bX12_isBelow_21 : List OP := [oi (.iload_n 3), oi (.iload_n 2)]
theorem oX12_isBelow_21 : okB mX12_isBelow 21 bX12_isBelow_21 = true := by decide +kernel
theorem eX12_isBelow_23 : decode mX12_isBelow.2.1 23 = .ok (.if_icmp .ne 7, 3) := by decide +kernel
def bX12_isBelow_26 : List OP := [oi (.iconst 1), (.goto 4, 0, 0, 31, 0, 0)]
theorem oX12_isBelow_26 : okB mX12_isBelow 26 bX12_isBelow_26 = true := by decide +kernel
def bX12_isBelow_30 : List OP := [oi (.iconst 0)]
theorem oX12_isBelow_30 : okB mX12_isBelow 30 bX12_isBelow_30 = true := by decide +kernel
theorem eX12_isBelow_31 : decode mX12_isBelow.2.1 31 = .ok (.ireturn, 1) := by decide +kernel
def bX12_fall_0 : List OP := [oi (.iload_n 1)]
theorem oX12_fall_0 : okB mX12_fall 0 bX12_fall_0 = true := by decide +kernel
theorem eX12_fall_1 : decode mX12_fall.2.1 1 = .ok (.invokestatic 202, 3) := by decide +kernel
theorem lX12_fall_1 : okL 1296 (.methodLink mX12_fall.1.cls 202 mX12_isNode.1) = true := by decide +kernel
theorem eX12_fall_4 : decode mX12_fall.2.1 4 = .ok (.ifCond .ne 5, 3) := by decide +kernel
def bX12_fall_7 : List OP := [oi (.iconst (-1))]
theorem oX12_fall_7 : okB mX12_fall 7 bX12_fall_7 = true := by decide +kernel
theorem eX12_fall_8 : decode mX12_fall.2.1 8 = .ok (.ireturn, 1) := by decide +kernel
def bX12_fall_9 : List OP := [oi (.iload_n 1)]
theorem oX12_fall_9 : okB mX12_fall 9 bX12_fall_9 = true := by decide +kernel
theorem eX12_fall_10 : decode mX12_fall.2.1 10 = .ok (.ifCond .ne 6, 3) := by decide +kernel
def bX12_fall_13 : List OP := [oi (.bipush (-5))]
theorem oX12_fall_13 : okB mX12_fall 13 bX12_fall_13 = true := by decide +kernel
theorem eX12_fall_15 : decode mX12_fall.2.1 15 = .ok (.ireturn, 1) := by decide +kernel
def bX12_fall_16 : List OP := [oi (.aload_n 0), (.getfield 68, 25, 12, 25, 2, 992), oi (.iload_n 1), oi .baload]
theorem oX12_fall_16 : okB mX12_fall 16 bX12_fall_16 = true := by decide +kernel
theorem eX12_fall_22 : decode mX12_fall.2.1 22 = .ok (.ifCond .eq 6, 3) := by decide +kernel
def bX12_fall_25 : List OP := [oi (.bipush (-3))]
theorem oX12_fall_25 : okB mX12_fall 25 bX12_fall_25 = true := by decide +kernel
theorem eX12_fall_27 : decode mX12_fall.2.1 27 = .ok (.ireturn, 1) := by decide +kernel
def bX12_fall_28 : List OP := [oi (.aload_n 0), (.getfield 68, 25, 12, 25, 2, 992), oi (.iload_n 1), oi (.iconst 1), oi .bastore, oi (.iconst 0), oi (.istore_n 2), oi (.iconst 1), oi (.istore_n 3)]
theorem oX12_fall_28 : okB mX12_fall 28 bX12_fall_28 = true := by decide +kernel
def bX12_fall_39 : List OP := [oi (.iload_n 3), oi (.bipush 10)]
theorem oX12_fall_39 : okB mX12_fall 39 bX12_fall_39 = true := by decide +kernel
theorem eX12_fall_42 : decode mX12_fall.2.1 42 = .ok (.if_icmp .ge 145, 3) := by decide +kernel
def bX12_fall_45 : List OP := [oi (.aload_n 0), (.getfield 68, 25, 12, 25, 2, 992), oi (.iload_n 3), oi .baload]
theorem oX12_fall_45 : okB mX12_fall 45 bX12_fall_45 = true := by decide +kernel
theorem eX12_fall_51 : decode mX12_fall.2.1 51 = .ok (.ifCond .ne 130, 3) := by decide +kernel
def bX12_fall_54 : List OP := [oi (.aload_n 0), (.getfield 62, 23, 12, 23, 2, 990), oi (.iload_n 3), oi .iaload, oi (.iload_n 1)]
theorem oX12_fall_54 : okB mX12_fall 54 bX12_fall_54 = true := by decide +kernel
theorem eX12_fall_61 : decode mX12_fall.2.1 61 = .ok (.if_icmp .ne 120, 3) := by decide +kernel
def bX12_fall_64 : List OP := [oi (.bipush (-6)), oi (.istore 4), oi (.iconst 0), oi (.istore 5)]
theorem oX12_fall_64 : okB mX12_fall 64 bX12_fall_64 = true := by decide +kernel
def bX12_fall_71 : List OP := [oi (.iload 5), oi (.iload_n 3)]
theorem oX12_fall_71 : okB mX12_fall 71 bX12_fall_71 = true := by decide +kernel
theorem eX12_fall_74 : decode mX12_fall.2.1 74 = .ok (.if_icmp .ge 87, 3) := by decide +kernel
def bX12_fall_77 : List OP := [oi (.aload_n 0), (.getfield 68, 25, 12, 25, 2, 992), oi (.iload 5), oi .baload]
theorem oX12_fall_77 : okB mX12_fall 77 bX12_fall_77 = true := by decide +kernel
theorem eX12_fall_84 : decode mX12_fall.2.1 84 = .ok (.ifCond .ne 34, 3) := by decide +kernel
def bX12_fall_87 : List OP := [oi (.aload_n 0), oi (.iload 5), oi (.iload_n 1)]
theorem oX12_fall_87 : okB mX12_fall 87 bX12_fall_87 = true := by decide +kernel
theorem eX12_fall_91 : decode mX12_fall.2.1 91 = .ok (.invokevirtual 211, 3) := by decide +kernel
theorem lX12_fall_91 : okL 1315 (.methodLink mX12_fall.1.cls 211 mX12_isBelow.1) = true := by decide +kernel
theorem eX12_fall_94 : decode mX12_fall.2.1 94 = .ok (.ifCond .ne 24, 3) := by decide +kernel
def bX12_fall_97 : List OP := [oi (.aload_n 0), oi (.iload 5), oi (.iload_n 3)]
theorem oX12_fall_97 : okB mX12_fall 97 bX12_fall_97 = true := by decide +kernel
theorem eX12_fall_101 : decode mX12_fall.2.1 101 = .ok (.invokevirtual 205, 3) := by decide +kernel
theorem lX12_fall_101 : okL 1299 (.methodLink mX12_fall.1.cls 205 mX12_hungOn.1) = true := by decide +kernel
def bX12_fall_104 : List OP := [oi (.aload_n 0), (.getfield 17, 3, 12, 3, 2, 970), oi (.bipush 6), oi .iaload]
theorem oX12_fall_104 : okB mX12_fall 104 bX12_fall_104 = true := by decide +kernel
theorem eX12_fall_111 : decode mX12_fall.2.1 111 = .ok (.if_icmp .ge 7, 3) := by decide +kernel
def bX12_fall_114 : List OP := [oi (.iconst 1), (.goto 4, 0, 0, 119, 0, 0)]
theorem oX12_fall_114 : okB mX12_fall 114 bX12_fall_114 = true := by decide +kernel
def bX12_fall_118 : List OP := [oi (.iconst 0)]
theorem oX12_fall_118 : okB mX12_fall 118 bX12_fall_118 = true := by decide +kernel
def bX12_fall_119 : List OP := [oi (.istore 6), oi (.iload 6)]
theorem oX12_fall_119 : okB mX12_fall 119 bX12_fall_119 = true := by decide +kernel
theorem eX12_fall_123 : decode mX12_fall.2.1 123 = .ok (.ifCond .eq 28, 3) := by decide +kernel
def bX12_fall_126 : List OP := [oi (.iload 4)]
theorem oX12_fall_126 : okB mX12_fall 126 bX12_fall_126 = true := by decide +kernel
theorem eX12_fall_128 : decode mX12_fall.2.1 128 = .ok (.ifCond .lt 18, 3) := by decide +kernel
def bX12_fall_131 : List OP := [oi (.aload_n 0), oi (.iload 5)]
theorem oX12_fall_131 : okB mX12_fall 131 bX12_fall_131 = true := by decide +kernel
theorem eX12_fall_134 : decode mX12_fall.2.1 134 = .ok (.invokevirtual 208, 3) := by decide +kernel
theorem lX12_fall_134 : okL 1307 (.methodLink mX12_fall.1.cls 208 mX12_behindOf.1) = true := by decide +kernel
def bX12_fall_137 : List OP := [oi (.aload_n 0), oi (.iload 4)]
theorem oX12_fall_137 : okB mX12_fall 137 bX12_fall_137 = true := by decide +kernel
theorem eX12_fall_140 : decode mX12_fall.2.1 140 = .ok (.invokevirtual 208, 3) := by decide +kernel
theorem lX12_fall_140 : okL 1307 (.methodLink mX12_fall.1.cls 208 mX12_behindOf.1) = true := by decide +kernel
theorem eX12_fall_143 : decode mX12_fall.2.1 143 = .ok (.if_icmp .ge 8, 3) := by decide +kernel
def bX12_fall_146 : List OP := [oi (.iload 5), (.goto 5, 0, 0, 153, 0, 0)]
theorem oX12_fall_146 : okB mX12_fall 146 bX12_fall_146 = true := by decide +kernel
def bX12_fall_151 : List OP := [oi (.iload 4)]
theorem oX12_fall_151 : okB mX12_fall 151 bX12_fall_151 = true := by decide +kernel
def bX12_fall_153 : List OP := [oi (.istore 4), oi (.iinc 5 1), (.goto (-87), 0, 0, 71, 0, 0)]
theorem oX12_fall_153 : okB mX12_fall 153 bX12_fall_153 = true := by decide +kernel
def bX12_fall_161 : List OP := [oi (.aload_n 0), (.getfield 62, 23, 12, 23, 2, 990), oi (.iload_n 3), oi (.iload 4)]
theorem oX12_fall_161 : okB mX12_fall 161 bX12_fall_161 = true := by decide +kernel
theorem eX12_fall_168 : decode mX12_fall.2.1 168 = .ok (.ifCond .ge 7, 3) := by decide +kernel
def bX12_fall_171 : List OP := [oi (.iconst 0), (.goto 5, 0, 0, 177, 0, 0)]
theorem oX12_fall_171 : okB mX12_fall 171 bX12_fall_171 = true := by decide +kernel
def bX12_fall_175 : List OP := [oi (.iload 4)]
theorem oX12_fall_175 : okB mX12_fall 175 bX12_fall_175 = true := by decide +kernel
def bX12_fall_177 : List OP := [oi .iastore, oi (.iinc 2 1)]
theorem oX12_fall_177 : okB mX12_fall 177 bX12_fall_177 = true := by decide +kernel
def bX12_fall_181 : List OP := [oi (.iinc 3 1), (.goto (-145), 0, 0, 39, 0, 0)]
theorem oX12_fall_181 : okB mX12_fall 181 bX12_fall_181 = true := by decide +kernel
def bX12_fall_187 : List OP := [oi (.iload_n 2)]
theorem oX12_fall_187 : okB mX12_fall 187 bX12_fall_187 = true := by decide +kernel
theorem eX12_fall_188 : decode mX12_fall.2.1 188 = .ok (.ireturn, 1) := by decide +kernel
def bX12_tree_0 : List OP := [oi (.iconst 0), oi (.istore_n 2), oi (.iload_n 1)]
theorem oX12_tree_0 : okB mX12_tree 0 bX12_tree_0 = true := by decide +kernel
theorem eX12_tree_3 : decode mX12_tree.2.1 3 = .ok (.ifCond .eq 8, 3) := by decide +kernel
def bX12_tree_6 : List OP := [oi (.iload_n 1), oi (.iconst 1)]
theorem oX12_tree_6 : okB mX12_tree 6 bX12_tree_6 = true := by decide +kernel
theorem eX12_tree_8 : decode mX12_tree.2.1 8 = .ok (.if_icmp .ne 56, 3) := by decide +kernel
def bX12_tree_11 : List OP := [oi (.iconst 0), oi (.istore_n 3)]
theorem oX12_tree_11 : okB mX12_tree 11 bX12_tree_11 = true := by decide +kernel
def bX12_tree_13 : List OP := [oi (.iload_n 3), oi (.bipush 10)]
theorem oX12_tree_13 : okB mX12_tree 13 bX12_tree_13 = true := by decide +kernel
theorem eX12_tree_16 : decode mX12_tree.2.1 16 = .ok (.if_icmp .ge 46, 3) := by decide +kernel
def bX12_tree_19 : List OP := [oi (.iload_n 2), oi (.aload_n 0), (.getfield 68, 25, 12, 25, 2, 992), oi (.iload_n 3), oi .baload]
theorem oX12_tree_19 : okB mX12_tree 19 bX12_tree_19 = true := by decide +kernel
theorem eX12_tree_26 : decode mX12_tree.2.1 26 = .ok (.ifCond .ne 27, 3) := by decide +kernel
def bX12_tree_29 : List OP := [oi (.iload_n 1)]
theorem oX12_tree_29 : okB mX12_tree 29 bX12_tree_29 = true := by decide +kernel
theorem eX12_tree_30 : decode mX12_tree.2.1 30 = .ok (.ifCond .eq 17, 3) := by decide +kernel
def bX12_tree_33 : List OP := [oi (.aload_n 0), oi (.iload_n 3)]
theorem oX12_tree_33 : okB mX12_tree 33 bX12_tree_33 = true := by decide +kernel
theorem eX12_tree_35 : decode mX12_tree.2.1 35 = .ok (.invokevirtual 208, 3) := by decide +kernel
theorem lX12_tree_35 : okL 1307 (.methodLink mX12_tree.1.cls 208 mX12_behindOf.1) = true := by decide +kernel
def bX12_tree_38 : List OP := [oi (.aload_n 0), (.getfield 17, 3, 12, 3, 2, 970), oi (.iconst 5), oi .iaload]
theorem oX12_tree_38 : okB mX12_tree 38 bX12_tree_38 = true := by decide +kernel
theorem eX12_tree_44 : decode mX12_tree.2.1 44 = .ok (.if_icmp .gt 9, 3) := by decide +kernel
def bX12_tree_47 : List OP := [oi (.iconst 1), oi (.iload_n 3), oi .ishl, (.goto 4, 0, 0, 54, 0, 0)]
theorem oX12_tree_47 : okB mX12_tree 47 bX12_tree_47 = true := by decide +kernel
def bX12_tree_53 : List OP := [oi (.iconst 0)]
theorem oX12_tree_53 : okB mX12_tree 53 bX12_tree_53 = true := by decide +kernel
def bX12_tree_54 : List OP := [oi .ior, oi (.istore_n 2), oi (.iinc 3 1), (.goto (-46), 0, 0, 13, 0, 0)]
theorem oX12_tree_54 : okB mX12_tree 54 bX12_tree_54 = true := by decide +kernel
def bX12_tree_62 : List OP := [oi (.iload_n 2)]
theorem oX12_tree_62 : okB mX12_tree 62 bX12_tree_62 = true := by decide +kernel
theorem eX12_tree_63 : decode mX12_tree.2.1 63 = .ok (.ireturn, 1) := by decide +kernel
def bX12_tree_64 : List OP := [oi (.iload_n 1), oi (.bipush 10), oi (.bipush 19)]
theorem oX12_tree_64 : okB mX12_tree 64 bX12_tree_64 = true := by decide +kernel
theorem eX12_tree_69 : decode mX12_tree.2.1 69 = .ok (.invokestatic 102, 3) := by decide +kernel
theorem lX12_tree_69 : okL 1091 (.methodLink mX12_tree.1.cls 102 mX12_in.1) = true := by decide +kernel
theorem eX12_tree_72 : decode mX12_tree.2.1 72 = .ok (.ifCond .ne 6, 3) := by decide +kernel
def bX12_tree_75 : List OP := [oi (.bipush (-2))]
theorem oX12_tree_75 : okB mX12_tree 75 bX12_tree_75 = true := by decide +kernel
theorem eX12_tree_77 : decode mX12_tree.2.1 77 = .ok (.ireturn, 1) := by decide +kernel
def bX12_tree_78 : List OP := [oi (.iload_n 1), oi (.bipush 10)]
theorem oX12_tree_78 : okB mX12_tree 78 bX12_tree_78 = true := by decide +kernel
theorem eX12_tree_81 : decode mX12_tree.2.1 81 = .ok (.if_icmp .eq 15, 3) := by decide +kernel
def bX12_tree_84 : List OP := [oi (.aload_n 0), (.getfield 68, 25, 12, 25, 2, 992), oi (.iload_n 1), oi (.bipush 10), oi .isub, oi .baload]
theorem oX12_tree_84 : okB mX12_tree 84 bX12_tree_84 = true := by decide +kernel
theorem eX12_tree_93 : decode mX12_tree.2.1 93 = .ok (.ifCond .eq 8, 3) := by decide +kernel
def bX12_tree_96 : List OP := [oi (.bipush (-6)), (.goto 12, 0, 0, 110, 0, 0)]
theorem oX12_tree_96 : okB mX12_tree 96 bX12_tree_96 = true := by decide +kernel
def bX12_tree_101 : List OP := [oi (.aload_n 0), (.getfield 62, 23, 12, 23, 2, 990), oi (.iload_n 1), oi (.bipush 10), oi .isub, oi .iaload]
theorem oX12_tree_101 : okB mX12_tree 101 bX12_tree_101 = true := by decide +kernel
theorem eX12_tree_110 : decode mX12_tree.2.1 110 = .ok (.ireturn, 1) := by decide +kernel
def bX12_told_0 : List OP := [oi (.iconst 0), oi (.istore_n 2), oi (.iconst 0), oi (.istore_n 3)]
theorem oX12_told_0 : okB mX12_told 0 bX12_told_0 = true := by decide +kernel
def bX12_told_4 : List OP := [oi (.iload_n 3), oi (.aload_n 0), (.getfield 99, 0, 12, 0, 0, 967)]
theorem oX12_told_4 : okB mX12_told 4 bX12_told_4 = true := by decide +kernel
theorem eX12_told_9 : decode mX12_told.2.1 9 = .ok (.if_icmp .ge 48, 3) := by decide +kernel
def bX12_told_12 : List OP := [oi (.iload_n 2), oi (.iload_n 1), oi (.iconst 1)]
theorem oX12_told_12 : okB mX12_told 12 bX12_told_12 = true := by decide +kernel
theorem eX12_told_15 : decode mX12_told.2.1 15 = .ok (.if_icmp .ne 14, 3) := by decide +kernel
def bX12_told_18 : List OP := [oi (.aload_n 0), oi (.iload_n 3)]
theorem oX12_told_18 : okB mX12_told 18 bX12_told_18 = true := by decide +kernel
theorem eX12_told_20 : decode mX12_told.2.1 20 = .ok (.invokevirtual 136, 3) := by decide +kernel
theorem lX12_told_20 : okL 1140 (.methodLink mX12_told.1.cls 136 mX12_isScene.1) = true := by decide +kernel
theorem eX12_told_23 : decode mX12_told.2.1 23 = .ok (.ifCond .eq 25, 3) := by decide +kernel
def bX12_told_26 : List OP := [(.goto 16, 0, 0, 42, 0, 0)]
theorem oX12_told_26 : okB mX12_told 26 bX12_told_26 = true := by decide +kernel
def bX12_told_29 : List OP := [oi (.iload_n 1), oi (.iconst 2)]
theorem oX12_told_29 : okB mX12_told 29 bX12_told_29 = true := by decide +kernel
theorem eX12_told_31 : decode mX12_told.2.1 31 = .ok (.if_icmp .ne 17, 3) := by decide +kernel
def bX12_told_34 : List OP := [oi (.aload_n 0), oi (.iload_n 3)]
theorem oX12_told_34 : okB mX12_told 34 bX12_told_34 = true := by decide +kernel
theorem eX12_told_36 : decode mX12_told.2.1 36 = .ok (.invokevirtual 139, 3) := by decide +kernel
theorem lX12_told_36 : okL 1144 (.methodLink mX12_told.1.cls 139 mX12_isStill.1) = true := by decide +kernel
theorem eX12_told_39 : decode mX12_told.2.1 39 = .ok (.ifCond .eq 9, 3) := by decide +kernel
def bX12_told_42 : List OP := [oi (.iconst 1), oi (.iload_n 3), oi .ishl, (.goto 4, 0, 0, 49, 0, 0)]
theorem oX12_told_42 : okB mX12_told 42 bX12_told_42 = true := by decide +kernel
def bX12_told_48 : List OP := [oi (.iconst 0)]
theorem oX12_told_48 : okB mX12_told 48 bX12_told_48 = true := by decide +kernel
def bX12_told_49 : List OP := [oi .ior, oi (.istore_n 2), oi (.iinc 3 1), (.goto (-50), 0, 0, 4, 0, 0)]
theorem oX12_told_49 : okB mX12_told 49 bX12_told_49 = true := by decide +kernel
def bX12_told_57 : List OP := [oi (.iload_n 1)]
theorem oX12_told_57 : okB mX12_told 57 bX12_told_57 = true := by decide +kernel
theorem eX12_told_58 : decode mX12_told.2.1 58 = .ok (.ifCond .ne 10, 3) := by decide +kernel
def bX12_told_61 : List OP := [oi (.aload_n 0), (.getfield 99, 0, 12, 0, 0, 967), (.goto 68, 0, 0, 133, 0, 0)]
theorem oX12_told_61 : okB mX12_told 61 bX12_told_61 = true := by decide +kernel
def bX12_told_68 : List OP := [oi (.iload_n 1), oi (.iconst 1)]
theorem oX12_told_68 : okB mX12_told 68 bX12_told_68 = true := by decide +kernel
theorem eX12_told_70 : decode mX12_told.2.1 70 = .ok (.if_icmp .eq 8, 3) := by decide +kernel
def bX12_told_73 : List OP := [oi (.iload_n 1), oi (.iconst 2)]
theorem oX12_told_73 : okB mX12_told 73 bX12_told_73 = true := by decide +kernel
theorem eX12_told_75 : decode mX12_told.2.1 75 = .ok (.if_icmp .ne 7, 3) := by decide +kernel
def bX12_told_78 : List OP := [oi (.iload_n 2), (.goto 54, 0, 0, 133, 0, 0)]
theorem oX12_told_78 : okB mX12_told 78 bX12_told_78 = true := by decide +kernel
def bX12_told_82 : List OP := [oi (.iload_n 1), oi (.iconst 3)]
theorem oX12_told_82 : okB mX12_told 82 bX12_told_82 = true := by decide +kernel
theorem eX12_told_84 : decode mX12_told.2.1 84 = .ok (.if_icmp .ne 10, 3) := by decide +kernel
def bX12_told_87 : List OP := [oi (.aload_n 0), (.getfield 142, 8, 12, 8, 0, 975), (.goto 42, 0, 0, 133, 0, 0)]
theorem oX12_told_87 : okB mX12_told 87 bX12_told_87 = true := by decide +kernel
def bX12_told_94 : List OP := [oi (.iload_n 1), oi (.iconst 4)]
theorem oX12_told_94 : okB mX12_told 94 bX12_told_94 = true := by decide +kernel
theorem eX12_told_96 : decode mX12_told.2.1 96 = .ok (.if_icmp .ne 10, 3) := by decide +kernel
def bX12_told_99 : List OP := [oi (.aload_n 0), (.getfield 186, 16, 12, 16, 0, 983), (.goto 30, 0, 0, 133, 0, 0)]
theorem oX12_told_99 : okB mX12_told 99 bX12_told_99 = true := by decide +kernel
def bX12_told_106 : List OP := [oi (.iload_n 1), oi (.iconst 5)]
theorem oX12_told_106 : okB mX12_told 106 bX12_told_106 = true := by decide +kernel
theorem eX12_told_108 : decode mX12_told.2.1 108 = .ok (.if_icmp .ne 10, 3) := by decide +kernel
def bX12_told_111 : List OP := [oi (.aload_n 0), (.getfield 92, 4, 12, 4, 0, 971), (.goto 18, 0, 0, 133, 0, 0)]
theorem oX12_told_111 : okB mX12_told 111 bX12_told_111 = true := by decide +kernel
def bX12_told_118 : List OP := [oi (.iload_n 1), oi (.bipush 6)]
theorem oX12_told_118 : okB mX12_told 118 bX12_told_118 = true := by decide +kernel
theorem eX12_told_121 : decode mX12_told.2.1 121 = .ok (.if_icmp .ne 10, 3) := by decide +kernel
def bX12_told_124 : List OP := [oi (.aload_n 0), (.getfield 96, 6, 12, 6, 0, 973), (.goto 5, 0, 0, 133, 0, 0)]
theorem oX12_told_124 : okB mX12_told 124 bX12_told_124 = true := by decide +kernel
def bX12_told_131 : List OP := [oi (.bipush (-2))]
theorem oX12_told_131 : okB mX12_told 131 bX12_told_131 = true := by decide +kernel
theorem eX12_told_133 : decode mX12_told.2.1 133 = .ok (.ireturn, 1) := by decide +kernel
end
section
/-! ===== code as blocks ===== -/
theorem eL_law_0 : decode mL_law.2.1 0 = .ok (.new 7, 3) := by decide +kernel
def bL_law_3 : List OP := [oi .dup]
theorem oL_law_3 : okB mL_law 3 bL_law_3 = true := by decide +kernel
theorem eL_law_4 : decode mL_law.2.1 4 = .ok (.invokespecial 9, 3) := by decide +kernel
theorem lL_law_4 : okL 60 (.methodLink mL_law.1.cls 9 mX11_init.1) = true := by decide +kernel
def bL_law_7 : List OP := [oi (.astore_n 1)]
theorem oL_law_7 : okB mL_law 7 bL_law_7 = true := by decide +kernel
theorem eL_law_8 : decode mL_law.2.1 8 = .ok (.new 10, 3) := by decide +kernel
def bL_law_11 : List OP := [oi .dup]
theorem oL_law_11 : okB mL_law 11 bL_law_11 = true := by decide +kernel
theorem eL_law_12 : decode mL_law.2.1 12 = .ok (.invokespecial 12, 3) := by decide +kernel
theorem lL_law_12 : okL 963 (.methodLink mL_law.1.cls 12 mX12_init.1) = true := by decide +kernel
def bL_law_15 : List OP := [oi (.astore_n 2), oi (.iconst 0), oi (.istore_n 3)]
theorem oL_law_15 : okB mL_law 15 bL_law_15 = true := by decide +kernel
def bL_law_18 : List OP := [oi (.iload_n 3), oi (.aload_n 0)]
theorem oL_law_18 : okB mL_law 18 bL_law_18 = true := by decide +kernel
theorem eL_law_20 : decode mL_law.2.1 20 = .ok (.arraylength, 1) := by decide +kernel
def bL_law_21 : List OP := [oi (.bipush 6), oi .isub]
theorem oL_law_21 : okB mL_law 21 bL_law_21 = true := by decide +kernel
theorem eL_law_24 : decode mL_law.2.1 24 = .ok (.if_icmp .gt 1405, 3) := by decide +kernel
def bL_law_27 : List OP := [oi (.aload_n 0), oi (.iload_n 3), oi .iaload, oi (.bipush 63), oi .iand]
theorem oL_law_27 : okB mL_law 27 bL_law_27 = true := by decide +kernel
theorem eL_law_33 : decode mL_law.2.1 33 = .ok (.tableswitch 1390 0 36 #[163, 176, 219, 268, 301, 334, 367, 400, 423, 466, 489, 532, 555, 568, 581, 594, 617, 640, 683, 716, 759, 792, 855, 888, 931, 994, 1037, 1060, 1093, 1136, 1179, 1212, 1255, 1298, 1321, 1344, 1367], 163) := by decide +kernel
def bL_law_196 : List OP := [oi (.aload_n 1)]
theorem oL_law_196 : okB mL_law 196 bL_law_196 = true := by decide +kernel
theorem eL_law_197 : decode mL_law.2.1 197 = .ok (.invokevirtual 13, 3) := by decide +kernel
theorem lL_law_197 : okL 409 (.methodLink mL_law.1.cls 13 mX11_frame.1) = true := by decide +kernel
def bL_law_200 : List OP := [oi (.aload_n 2)]
theorem oL_law_200 : okB mL_law 200 bL_law_200 = true := by decide +kernel
theorem eL_law_201 : decode mL_law.2.1 201 = .ok (.invokevirtual 17, 3) := by decide +kernel
theorem lL_law_201 : okL 1079 (.methodLink mL_law.1.cls 17 mX12_frame.1) = true := by decide +kernel
theorem eL_law_204 : decode mL_law.2.1 204 = .ok (.if_icmp .eq 1219, 3) := by decide +kernel
def bL_law_207 : List OP := [oi (.iconst 0)]
theorem oL_law_207 : okB mL_law 207 bL_law_207 = true := by decide +kernel
theorem eL_law_208 : decode mL_law.2.1 208 = .ok (.ireturn, 1) := by decide +kernel
def bL_law_209 : List OP := [oi (.aload_n 1), oi (.aload_n 0), oi (.iload_n 3), oi (.iconst 1), oi .iadd, oi .iaload, oi (.aload_n 0), oi (.iload_n 3), oi (.iconst 2), oi .iadd, oi .iaload, oi (.aload_n 0), oi (.iload_n 3), oi (.iconst 3), oi .iadd, oi .iaload]
theorem oL_law_209 : okB mL_law 209 bL_law_209 = true := by decide +kernel
theorem eL_law_225 : decode mL_law.2.1 225 = .ok (.invokevirtual 18, 3) := by decide +kernel
theorem lL_law_225 : okL 417 (.methodLink mL_law.1.cls 18 mX11_dot.1) = true := by decide +kernel
def bL_law_228 : List OP := [oi (.aload_n 2), oi (.aload_n 0), oi (.iload_n 3), oi (.iconst 1), oi .iadd, oi .iaload, oi (.aload_n 0), oi (.iload_n 3), oi (.iconst 2), oi .iadd, oi .iaload, oi (.aload_n 0), oi (.iload_n 3), oi (.iconst 3), oi .iadd, oi .iaload]
theorem oL_law_228 : okB mL_law 228 bL_law_228 = true := by decide +kernel
theorem eL_law_244 : decode mL_law.2.1 244 = .ok (.invokevirtual 22, 3) := by decide +kernel
theorem lL_law_244 : okL 1083 (.methodLink mL_law.1.cls 22 mX12_dot.1) = true := by decide +kernel
theorem eL_law_247 : decode mL_law.2.1 247 = .ok (.if_icmp .eq 1176, 3) := by decide +kernel
def bL_law_250 : List OP := [oi (.iconst 0)]
theorem oL_law_250 : okB mL_law 250 bL_law_250 = true := by decide +kernel
theorem eL_law_251 : decode mL_law.2.1 251 = .ok (.ireturn, 1) := by decide +kernel
def bL_law_252 : List OP := [oi (.aload_n 1), oi (.aload_n 0), oi (.iload_n 3), oi (.iconst 1), oi .iadd, oi .iaload, oi (.aload_n 0), oi (.iload_n 3), oi (.iconst 2), oi .iadd, oi .iaload]
theorem oL_law_252 : okB mL_law 252 bL_law_252 = true := by decide +kernel
theorem eL_law_263 : decode mL_law.2.1 263 = .ok (.ifCond .eq 7, 3) := by decide +kernel
def bL_law_266 : List OP := [oi (.iconst 1), (.goto 4, 0, 0, 271, 0, 0)]
theorem oL_law_266 : okB mL_law 266 bL_law_266 = true := by decide +kernel
def bL_law_270 : List OP := [oi (.iconst 0)]
theorem oL_law_270 : okB mL_law 270 bL_law_270 = true := by decide +kernel
theorem eL_law_271 : decode mL_law.2.1 271 = .ok (.invokevirtual 23, 3) := by decide +kernel
theorem lL_law_271 : okL 439 (.methodLink mL_law.1.cls 23 mX11_key.1) = true := by decide +kernel
def bL_law_274 : List OP := [oi (.aload_n 2), oi (.aload_n 0), oi (.iload_n 3), oi (.iconst 1), oi .iadd, oi .iaload, oi (.aload_n 0), oi (.iload_n 3), oi (.iconst 2), oi .iadd, oi .iaload]
theorem oL_law_274 : okB mL_law 274 bL_law_274 = true := by decide +kernel
theorem eL_law_285 : decode mL_law.2.1 285 = .ok (.ifCond .eq 7, 3) := by decide +kernel
def bL_law_288 : List OP := [oi (.iconst 1), (.goto 4, 0, 0, 293, 0, 0)]
theorem oL_law_288 : okB mL_law 288 bL_law_288 = true := by decide +kernel
def bL_law_292 : List OP := [oi (.iconst 0)]
theorem oL_law_292 : okB mL_law 292 bL_law_292 = true := by decide +kernel
theorem eL_law_293 : decode mL_law.2.1 293 = .ok (.invokevirtual 27, 3) := by decide +kernel
theorem lL_law_293 : okL 1094 (.methodLink mL_law.1.cls 27 mX12_key.1) = true := by decide +kernel
theorem eL_law_296 : decode mL_law.2.1 296 = .ok (.if_icmp .eq 1127, 3) := by decide +kernel
def bL_law_299 : List OP := [oi (.iconst 0)]
theorem oL_law_299 : okB mL_law 299 bL_law_299 = true := by decide +kernel
theorem eL_law_300 : decode mL_law.2.1 300 = .ok (.ireturn, 1) := by decide +kernel
def bL_law_301 : List OP := [oi (.aload_n 1), oi (.aload_n 0), oi (.iload_n 3), oi (.iconst 1), oi .iadd, oi .iaload, oi (.aload_n 0), oi (.iload_n 3), oi (.iconst 2), oi .iadd, oi .iaload]
theorem oL_law_301 : okB mL_law 301 bL_law_301 = true := by decide +kernel
theorem eL_law_312 : decode mL_law.2.1 312 = .ok (.invokevirtual 28, 3) := by decide +kernel
theorem lL_law_312 : okL 447 (.methodLink mL_law.1.cls 28 mX11_set.1) = true := by decide +kernel
def bL_law_315 : List OP := [oi (.aload_n 2), oi (.aload_n 0), oi (.iload_n 3), oi (.iconst 1), oi .iadd, oi .iaload, oi (.aload_n 0), oi (.iload_n 3), oi (.iconst 2), oi .iadd, oi .iaload]
theorem oL_law_315 : okB mL_law 315 bL_law_315 = true := by decide +kernel
theorem eL_law_326 : decode mL_law.2.1 326 = .ok (.invokevirtual 32, 3) := by decide +kernel
theorem lL_law_326 : okL 1098 (.methodLink mL_law.1.cls 32 mX12_set.1) = true := by decide +kernel
theorem eL_law_329 : decode mL_law.2.1 329 = .ok (.if_icmp .eq 1094, 3) := by decide +kernel
def bL_law_332 : List OP := [oi (.iconst 0)]
theorem oL_law_332 : okB mL_law 332 bL_law_332 = true := by decide +kernel
theorem eL_law_333 : decode mL_law.2.1 333 = .ok (.ireturn, 1) := by decide +kernel
def bL_law_334 : List OP := [oi (.aload_n 1), oi (.aload_n 0), oi (.iload_n 3), oi (.iconst 1), oi .iadd, oi .iaload, oi (.aload_n 0), oi (.iload_n 3), oi (.iconst 2), oi .iadd, oi .iaload]
theorem oL_law_334 : okB mL_law 334 bL_law_334 = true := by decide +kernel
theorem eL_law_345 : decode mL_law.2.1 345 = .ok (.invokevirtual 33, 3) := by decide +kernel
theorem lL_law_345 : okL 460 (.methodLink mL_law.1.cls 33 mX11_way.1) = true := by decide +kernel
def bL_law_348 : List OP := [oi (.aload_n 2), oi (.aload_n 0), oi (.iload_n 3), oi (.iconst 1), oi .iadd, oi .iaload, oi (.aload_n 0), oi (.iload_n 3), oi (.iconst 2), oi .iadd, oi .iaload]
theorem oL_law_348 : okB mL_law 348 bL_law_348 = true := by decide +kernel
theorem eL_law_359 : decode mL_law.2.1 359 = .ok (.invokevirtual 36, 3) := by decide +kernel
theorem lL_law_359 : okL 1102 (.methodLink mL_law.1.cls 36 mX12_way.1) = true := by decide +kernel
theorem eL_law_362 : decode mL_law.2.1 362 = .ok (.if_icmp .eq 1061, 3) := by decide +kernel
def bL_law_365 : List OP := [oi (.iconst 0)]
theorem oL_law_365 : okB mL_law 365 bL_law_365 = true := by decide +kernel
theorem eL_law_366 : decode mL_law.2.1 366 = .ok (.ireturn, 1) := by decide +kernel
def bL_law_367 : List OP := [oi (.aload_n 1), oi (.aload_n 0), oi (.iload_n 3), oi (.iconst 1), oi .iadd, oi .iaload, oi (.aload_n 0), oi (.iload_n 3), oi (.iconst 2), oi .iadd, oi .iaload]
theorem oL_law_367 : okB mL_law 367 bL_law_367 = true := by decide +kernel
theorem eL_law_378 : decode mL_law.2.1 378 = .ok (.invokevirtual 37, 3) := by decide +kernel
theorem lL_law_378 : okL 523 (.methodLink mL_law.1.cls 37 mX11_opened.1) = true := by decide +kernel
def bL_law_381 : List OP := [oi (.aload_n 2), oi (.aload_n 0), oi (.iload_n 3), oi (.iconst 1), oi .iadd, oi .iaload, oi (.aload_n 0), oi (.iload_n 3), oi (.iconst 2), oi .iadd, oi .iaload]
theorem oL_law_381 : okB mL_law 381 bL_law_381 = true := by decide +kernel
theorem eL_law_392 : decode mL_law.2.1 392 = .ok (.invokevirtual 40, 3) := by decide +kernel
theorem lL_law_392 : okL 1128 (.methodLink mL_law.1.cls 40 mX12_opened.1) = true := by decide +kernel
theorem eL_law_395 : decode mL_law.2.1 395 = .ok (.if_icmp .eq 1028, 3) := by decide +kernel
def bL_law_398 : List OP := [oi (.iconst 0)]
theorem oL_law_398 : okB mL_law 398 bL_law_398 = true := by decide +kernel
theorem eL_law_399 : decode mL_law.2.1 399 = .ok (.ireturn, 1) := by decide +kernel
def bL_law_400 : List OP := [oi (.aload_n 1), oi (.aload_n 0), oi (.iload_n 3), oi (.iconst 1), oi .iadd, oi .iaload, oi (.aload_n 0), oi (.iload_n 3), oi (.iconst 2), oi .iadd, oi .iaload]
theorem oL_law_400 : okB mL_law 400 bL_law_400 = true := by decide +kernel
theorem eL_law_411 : decode mL_law.2.1 411 = .ok (.invokevirtual 41, 3) := by decide +kernel
theorem lL_law_411 : okL 527 (.methodLink mL_law.1.cls 41 mX11_of.1) = true := by decide +kernel
def bL_law_414 : List OP := [oi (.aload_n 2), oi (.aload_n 0), oi (.iload_n 3), oi (.iconst 1), oi .iadd, oi .iaload, oi (.aload_n 0), oi (.iload_n 3), oi (.iconst 2), oi .iadd, oi .iaload]
theorem oL_law_414 : okB mL_law 414 bL_law_414 = true := by decide +kernel
theorem eL_law_425 : decode mL_law.2.1 425 = .ok (.invokevirtual 44, 3) := by decide +kernel
theorem lL_law_425 : okL 1132 (.methodLink mL_law.1.cls 44 mX12_of.1) = true := by decide +kernel
theorem eL_law_428 : decode mL_law.2.1 428 = .ok (.if_icmp .eq 995, 3) := by decide +kernel
def bL_law_431 : List OP := [oi (.iconst 0)]
theorem oL_law_431 : okB mL_law 431 bL_law_431 = true := by decide +kernel
theorem eL_law_432 : decode mL_law.2.1 432 = .ok (.ireturn, 1) := by decide +kernel
def bL_law_433 : List OP := [oi (.aload_n 1), oi (.aload_n 0), oi (.iload_n 3), oi (.iconst 1), oi .iadd, oi .iaload]
theorem oL_law_433 : okB mL_law 433 bL_law_433 = true := by decide +kernel
theorem eL_law_439 : decode mL_law.2.1 439 = .ok (.invokevirtual 45, 3) := by decide +kernel
theorem lL_law_439 : okL 547 (.methodLink mL_law.1.cls 45 mX11_pieces.1) = true := by decide +kernel
def bL_law_442 : List OP := [oi (.aload_n 2), oi (.aload_n 0), oi (.iload_n 3), oi (.iconst 1), oi .iadd, oi .iaload]
theorem oL_law_442 : okB mL_law 442 bL_law_442 = true := by decide +kernel
theorem eL_law_448 : decode mL_law.2.1 448 = .ok (.invokevirtual 49, 3) := by decide +kernel
theorem lL_law_448 : okL 1148 (.methodLink mL_law.1.cls 49 mX12_pieces.1) = true := by decide +kernel
theorem eL_law_451 : decode mL_law.2.1 451 = .ok (.if_icmp .eq 972, 3) := by decide +kernel
def bL_law_454 : List OP := [oi (.iconst 0)]
theorem oL_law_454 : okB mL_law 454 bL_law_454 = true := by decide +kernel
theorem eL_law_455 : decode mL_law.2.1 455 = .ok (.ireturn, 1) := by decide +kernel
def bL_law_456 : List OP := [oi (.aload_n 1), oi (.aload_n 0), oi (.iload_n 3), oi (.iconst 1), oi .iadd, oi .iaload, oi (.aload_n 0), oi (.iload_n 3), oi (.iconst 2), oi .iadd, oi .iaload, oi (.aload_n 0), oi (.iload_n 3), oi (.iconst 3), oi .iadd, oi .iaload]
theorem oL_law_456 : okB mL_law 456 bL_law_456 = true := by decide +kernel
theorem eL_law_472 : decode mL_law.2.1 472 = .ok (.invokevirtual 50, 3) := by decide +kernel
theorem lL_law_472 : okL 551 (.methodLink mL_law.1.cls 50 mX11_bits.1) = true := by decide +kernel
def bL_law_475 : List OP := [oi (.aload_n 2), oi (.aload_n 0), oi (.iload_n 3), oi (.iconst 1), oi .iadd, oi .iaload, oi (.aload_n 0), oi (.iload_n 3), oi (.iconst 2), oi .iadd, oi .iaload, oi (.aload_n 0), oi (.iload_n 3), oi (.iconst 3), oi .iadd, oi .iaload]
theorem oL_law_475 : okB mL_law 475 bL_law_475 = true := by decide +kernel
theorem eL_law_491 : decode mL_law.2.1 491 = .ok (.invokevirtual 53, 3) := by decide +kernel
theorem lL_law_491 : okL 1152 (.methodLink mL_law.1.cls 53 mX12_bits.1) = true := by decide +kernel
theorem eL_law_494 : decode mL_law.2.1 494 = .ok (.if_icmp .eq 929, 3) := by decide +kernel
def bL_law_497 : List OP := [oi (.iconst 0)]
theorem oL_law_497 : okB mL_law 497 bL_law_497 = true := by decide +kernel
theorem eL_law_498 : decode mL_law.2.1 498 = .ok (.ireturn, 1) := by decide +kernel
def bL_law_499 : List OP := [oi (.aload_n 1), oi (.aload_n 0), oi (.iload_n 3), oi (.iconst 1), oi .iadd, oi .iaload]
theorem oL_law_499 : okB mL_law 499 bL_law_499 = true := by decide +kernel
theorem eL_law_505 : decode mL_law.2.1 505 = .ok (.invokevirtual 54, 3) := by decide +kernel
theorem lL_law_505 : okL 559 (.methodLink mL_law.1.cls 54 mX11_doors.1) = true := by decide +kernel
def bL_law_508 : List OP := [oi (.aload_n 2), oi (.aload_n 0), oi (.iload_n 3), oi (.iconst 1), oi .iadd, oi .iaload]
theorem oL_law_508 : okB mL_law 508 bL_law_508 = true := by decide +kernel
theorem eL_law_514 : decode mL_law.2.1 514 = .ok (.invokevirtual 57, 3) := by decide +kernel
theorem lL_law_514 : okL 1156 (.methodLink mL_law.1.cls 57 mX12_doors.1) = true := by decide +kernel
theorem eL_law_517 : decode mL_law.2.1 517 = .ok (.if_icmp .eq 906, 3) := by decide +kernel
def bL_law_520 : List OP := [oi (.iconst 0)]
theorem oL_law_520 : okB mL_law 520 bL_law_520 = true := by decide +kernel
theorem eL_law_521 : decode mL_law.2.1 521 = .ok (.ireturn, 1) := by decide +kernel
def bL_law_522 : List OP := [oi (.aload_n 1), oi (.aload_n 0), oi (.iload_n 3), oi (.iconst 1), oi .iadd, oi .iaload, oi (.aload_n 0), oi (.iload_n 3), oi (.iconst 2), oi .iadd, oi .iaload, oi (.aload_n 0), oi (.iload_n 3), oi (.iconst 3), oi .iadd, oi .iaload]
theorem oL_law_522 : okB mL_law 522 bL_law_522 = true := by decide +kernel
theorem eL_law_538 : decode mL_law.2.1 538 = .ok (.invokevirtual 58, 3) := by decide +kernel
theorem lL_law_538 : okL 563 (.methodLink mL_law.1.cls 58 mX11_line.1) = true := by decide +kernel
def bL_law_541 : List OP := [oi (.aload_n 2), oi (.aload_n 0), oi (.iload_n 3), oi (.iconst 1), oi .iadd, oi .iaload, oi (.aload_n 0), oi (.iload_n 3), oi (.iconst 2), oi .iadd, oi .iaload, oi (.aload_n 0), oi (.iload_n 3), oi (.iconst 3), oi .iadd, oi .iaload]
theorem oL_law_541 : okB mL_law 541 bL_law_541 = true := by decide +kernel
theorem eL_law_557 : decode mL_law.2.1 557 = .ok (.invokevirtual 61, 3) := by decide +kernel
theorem lL_law_557 : okL 1160 (.methodLink mL_law.1.cls 61 mX12_line.1) = true := by decide +kernel
theorem eL_law_560 : decode mL_law.2.1 560 = .ok (.if_icmp .eq 863, 3) := by decide +kernel
def bL_law_563 : List OP := [oi (.iconst 0)]
theorem oL_law_563 : okB mL_law 563 bL_law_563 = true := by decide +kernel
theorem eL_law_564 : decode mL_law.2.1 564 = .ok (.ireturn, 1) := by decide +kernel
def bL_law_565 : List OP := [oi (.aload_n 1), oi (.aload_n 0), oi (.iload_n 3), oi (.iconst 1), oi .iadd, oi .iaload]
theorem oL_law_565 : okB mL_law 565 bL_law_565 = true := by decide +kernel
theorem eL_law_571 : decode mL_law.2.1 571 = .ok (.invokevirtual 62, 3) := by decide +kernel
theorem lL_law_571 : okL 571 (.methodLink mL_law.1.cls 62 mX11_say.1) = true := by decide +kernel
def bL_law_574 : List OP := [oi (.aload_n 2), oi (.aload_n 0), oi (.iload_n 3), oi (.iconst 1), oi .iadd, oi .iaload]
theorem oL_law_574 : okB mL_law 574 bL_law_574 = true := by decide +kernel
theorem eL_law_580 : decode mL_law.2.1 580 = .ok (.invokevirtual 65, 3) := by decide +kernel
theorem lL_law_580 : okL 1164 (.methodLink mL_law.1.cls 65 mX12_say.1) = true := by decide +kernel
theorem eL_law_583 : decode mL_law.2.1 583 = .ok (.if_icmp .eq 840, 3) := by decide +kernel
def bL_law_586 : List OP := [oi (.iconst 0)]
theorem oL_law_586 : okB mL_law 586 bL_law_586 = true := by decide +kernel
theorem eL_law_587 : decode mL_law.2.1 587 = .ok (.ireturn, 1) := by decide +kernel
def bL_law_588 : List OP := [oi (.aload_n 1)]
theorem oL_law_588 : okB mL_law 588 bL_law_588 = true := by decide +kernel
theorem eL_law_589 : decode mL_law.2.1 589 = .ok (.invokevirtual 66, 3) := by decide +kernel
theorem lL_law_589 : okL 579 (.methodLink mL_law.1.cls 66 mX11_wipe.1) = true := by decide +kernel
def bL_law_592 : List OP := [oi (.aload_n 2)]
theorem oL_law_592 : okB mL_law 592 bL_law_592 = true := by decide +kernel
theorem eL_law_593 : decode mL_law.2.1 593 = .ok (.invokevirtual 69, 3) := by decide +kernel
theorem lL_law_593 : okL 1168 (.methodLink mL_law.1.cls 69 mX12_wipe.1) = true := by decide +kernel
theorem eL_law_596 : decode mL_law.2.1 596 = .ok (.if_icmp .eq 827, 3) := by decide +kernel
def bL_law_599 : List OP := [oi (.iconst 0)]
theorem oL_law_599 : okB mL_law 599 bL_law_599 = true := by decide +kernel
theorem eL_law_600 : decode mL_law.2.1 600 = .ok (.ireturn, 1) := by decide +kernel
def bL_law_601 : List OP := [oi (.aload_n 1)]
theorem oL_law_601 : okB mL_law 601 bL_law_601 = true := by decide +kernel
theorem eL_law_602 : decode mL_law.2.1 602 = .ok (.invokevirtual 70, 3) := by decide +kernel
theorem lL_law_602 : okL 587 (.methodLink mL_law.1.cls 70 mX11_fault.1) = true := by decide +kernel
def bL_law_605 : List OP := [oi (.aload_n 2)]
theorem oL_law_605 : okB mL_law 605 bL_law_605 = true := by decide +kernel
theorem eL_law_606 : decode mL_law.2.1 606 = .ok (.invokevirtual 73, 3) := by decide +kernel
theorem lL_law_606 : okL 1172 (.methodLink mL_law.1.cls 73 mX12_fault.1) = true := by decide +kernel
theorem eL_law_609 : decode mL_law.2.1 609 = .ok (.if_icmp .eq 814, 3) := by decide +kernel
def bL_law_612 : List OP := [oi (.iconst 0)]
theorem oL_law_612 : okB mL_law 612 bL_law_612 = true := by decide +kernel
theorem eL_law_613 : decode mL_law.2.1 613 = .ok (.ireturn, 1) := by decide +kernel
def bL_law_614 : List OP := [oi (.aload_n 1)]
theorem oL_law_614 : okB mL_law 614 bL_law_614 = true := by decide +kernel
theorem eL_law_615 : decode mL_law.2.1 615 = .ok (.invokevirtual 74, 3) := by decide +kernel
theorem lL_law_615 : okL 607 (.methodLink mL_law.1.cls 74 mX11_rule.1) = true := by decide +kernel
def bL_law_618 : List OP := [oi (.aload_n 2)]
theorem oL_law_618 : okB mL_law 618 bL_law_618 = true := by decide +kernel
theorem eL_law_619 : decode mL_law.2.1 619 = .ok (.invokevirtual 77, 3) := by decide +kernel
theorem lL_law_619 : okL 1180 (.methodLink mL_law.1.cls 77 mX12_rule.1) = true := by decide +kernel
theorem eL_law_622 : decode mL_law.2.1 622 = .ok (.if_icmp .eq 801, 3) := by decide +kernel
def bL_law_625 : List OP := [oi (.iconst 0)]
theorem oL_law_625 : okB mL_law 625 bL_law_625 = true := by decide +kernel
theorem eL_law_626 : decode mL_law.2.1 626 = .ok (.ireturn, 1) := by decide +kernel
def bL_law_627 : List OP := [oi (.aload_n 1), oi (.aload_n 0), oi (.iload_n 3), oi (.iconst 1), oi .iadd, oi .iaload]
theorem oL_law_627 : okB mL_law 627 bL_law_627 = true := by decide +kernel
theorem eL_law_633 : decode mL_law.2.1 633 = .ok (.invokevirtual 78, 3) := by decide +kernel
theorem lL_law_633 : okL 619 (.methodLink mL_law.1.cls 78 mX11_show.1) = true := by decide +kernel
def bL_law_636 : List OP := [oi (.aload_n 2), oi (.aload_n 0), oi (.iload_n 3), oi (.iconst 1), oi .iadd, oi .iaload]
theorem oL_law_636 : okB mL_law 636 bL_law_636 = true := by decide +kernel
theorem eL_law_642 : decode mL_law.2.1 642 = .ok (.invokevirtual 81, 3) := by decide +kernel
theorem lL_law_642 : okL 1184 (.methodLink mL_law.1.cls 81 mX12_show.1) = true := by decide +kernel
theorem eL_law_645 : decode mL_law.2.1 645 = .ok (.if_icmp .eq 778, 3) := by decide +kernel
def bL_law_648 : List OP := [oi (.iconst 0)]
theorem oL_law_648 : okB mL_law 648 bL_law_648 = true := by decide +kernel
theorem eL_law_649 : decode mL_law.2.1 649 = .ok (.ireturn, 1) := by decide +kernel
def bL_law_650 : List OP := [oi (.aload_n 1), oi (.aload_n 0), oi (.iload_n 3), oi (.iconst 1), oi .iadd, oi .iaload]
theorem oL_law_650 : okB mL_law 650 bL_law_650 = true := by decide +kernel
theorem eL_law_656 : decode mL_law.2.1 656 = .ok (.invokevirtual 82, 3) := by decide +kernel
theorem lL_law_656 : okL 664 (.methodLink mL_law.1.cls 82 mX11_best.1) = true := by decide +kernel
def bL_law_659 : List OP := [oi (.aload_n 2), oi (.aload_n 0), oi (.iload_n 3), oi (.iconst 1), oi .iadd, oi .iaload]
theorem oL_law_659 : okB mL_law 659 bL_law_659 = true := by decide +kernel
theorem eL_law_665 : decode mL_law.2.1 665 = .ok (.invokevirtual 85, 3) := by decide +kernel
theorem lL_law_665 : okL 1203 (.methodLink mL_law.1.cls 85 mX12_best.1) = true := by decide +kernel
theorem eL_law_668 : decode mL_law.2.1 668 = .ok (.if_icmp .eq 755, 3) := by decide +kernel
def bL_law_671 : List OP := [oi (.iconst 0)]
theorem oL_law_671 : okB mL_law 671 bL_law_671 = true := by decide +kernel
theorem eL_law_672 : decode mL_law.2.1 672 = .ok (.ireturn, 1) := by decide +kernel
def bL_law_673 : List OP := [oi (.aload_n 1), oi (.aload_n 0), oi (.iload_n 3), oi (.iconst 1), oi .iadd, oi .iaload, oi (.aload_n 0), oi (.iload_n 3), oi (.iconst 2), oi .iadd, oi .iaload, oi (.aload_n 0), oi (.iload_n 3), oi (.iconst 3), oi .iadd, oi .iaload]
theorem oL_law_673 : okB mL_law 673 bL_law_673 = true := by decide +kernel
theorem eL_law_689 : decode mL_law.2.1 689 = .ok (.invokevirtual 86, 3) := by decide +kernel
theorem lL_law_689 : okL 709 (.methodLink mL_law.1.cls 86 mX11_town.1) = true := by decide +kernel
def bL_law_692 : List OP := [oi (.aload_n 2), oi (.aload_n 0), oi (.iload_n 3), oi (.iconst 1), oi .iadd, oi .iaload, oi (.aload_n 0), oi (.iload_n 3), oi (.iconst 2), oi .iadd, oi .iaload, oi (.aload_n 0), oi (.iload_n 3), oi (.iconst 3), oi .iadd, oi .iaload]
theorem oL_law_692 : okB mL_law 692 bL_law_692 = true := by decide +kernel
theorem eL_law_708 : decode mL_law.2.1 708 = .ok (.invokevirtual 89, 3) := by decide +kernel
theorem lL_law_708 : okL 1211 (.methodLink mL_law.1.cls 89 mX12_town.1) = true := by decide +kernel
theorem eL_law_711 : decode mL_law.2.1 711 = .ok (.if_icmp .eq 712, 3) := by decide +kernel
def bL_law_714 : List OP := [oi (.iconst 0)]
theorem oL_law_714 : okB mL_law 714 bL_law_714 = true := by decide +kernel
theorem eL_law_715 : decode mL_law.2.1 715 = .ok (.ireturn, 1) := by decide +kernel
def bL_law_716 : List OP := [oi (.aload_n 1), oi (.aload_n 0), oi (.iload_n 3), oi (.iconst 1), oi .iadd, oi .iaload, oi (.aload_n 0), oi (.iload_n 3), oi (.iconst 2), oi .iadd, oi .iaload]
theorem oL_law_716 : okB mL_law 716 bL_law_716 = true := by decide +kernel
theorem eL_law_727 : decode mL_law.2.1 727 = .ok (.invokevirtual 90, 3) := by decide +kernel
theorem lL_law_727 : okL 721 (.methodLink mL_law.1.cls 90 mX11_weight.1) = true := by decide +kernel
def bL_law_730 : List OP := [oi (.aload_n 2), oi (.aload_n 0), oi (.iload_n 3), oi (.iconst 1), oi .iadd, oi .iaload, oi (.aload_n 0), oi (.iload_n 3), oi (.iconst 2), oi .iadd, oi .iaload]
theorem oL_law_730 : okB mL_law 730 bL_law_730 = true := by decide +kernel
theorem eL_law_741 : decode mL_law.2.1 741 = .ok (.invokevirtual 93, 3) := by decide +kernel
theorem lL_law_741 : okL 1218 (.methodLink mL_law.1.cls 93 mX12_weight.1) = true := by decide +kernel
theorem eL_law_744 : decode mL_law.2.1 744 = .ok (.if_icmp .eq 679, 3) := by decide +kernel
def bL_law_747 : List OP := [oi (.iconst 0)]
theorem oL_law_747 : okB mL_law 747 bL_law_747 = true := by decide +kernel
theorem eL_law_748 : decode mL_law.2.1 748 = .ok (.ireturn, 1) := by decide +kernel
def bL_law_749 : List OP := [oi (.aload_n 1), oi (.aload_n 0), oi (.iload_n 3), oi (.iconst 1), oi .iadd, oi .iaload, oi (.aload_n 0), oi (.iload_n 3), oi (.iconst 2), oi .iadd, oi .iaload, oi (.aload_n 0), oi (.iload_n 3), oi (.iconst 3), oi .iadd, oi .iaload]
theorem oL_law_749 : okB mL_law 749 bL_law_749 = true := by decide +kernel
theorem eL_law_765 : decode mL_law.2.1 765 = .ok (.invokevirtual 94, 3) := by decide +kernel
theorem lL_law_765 : okL 732 (.methodLink mL_law.1.cls 94 mX11_ask.1) = true := by decide +kernel
def bL_law_768 : List OP := [oi (.aload_n 2), oi (.aload_n 0), oi (.iload_n 3), oi (.iconst 1), oi .iadd, oi .iaload, oi (.aload_n 0), oi (.iload_n 3), oi (.iconst 2), oi .iadd, oi .iaload, oi (.aload_n 0), oi (.iload_n 3), oi (.iconst 3), oi .iadd, oi .iaload]
theorem oL_law_768 : okB mL_law 768 bL_law_768 = true := by decide +kernel
theorem eL_law_784 : decode mL_law.2.1 784 = .ok (.invokevirtual 97, 3) := by decide +kernel
theorem lL_law_784 : okL 1225 (.methodLink mL_law.1.cls 97 mX12_ask.1) = true := by decide +kernel
theorem eL_law_787 : decode mL_law.2.1 787 = .ok (.if_icmp .eq 636, 3) := by decide +kernel
def bL_law_790 : List OP := [oi (.iconst 0)]
theorem oL_law_790 : okB mL_law 790 bL_law_790 = true := by decide +kernel
theorem eL_law_791 : decode mL_law.2.1 791 = .ok (.ireturn, 1) := by decide +kernel
def bL_law_792 : List OP := [oi (.aload_n 1), oi (.aload_n 0), oi (.iload_n 3), oi (.iconst 1), oi .iadd, oi .iaload, oi (.aload_n 0), oi (.iload_n 3), oi (.iconst 2), oi .iadd, oi .iaload]
theorem oL_law_792 : okB mL_law 792 bL_law_792 = true := by decide +kernel
theorem eL_law_803 : decode mL_law.2.1 803 = .ok (.invokevirtual 98, 3) := by decide +kernel
theorem lL_law_803 : okL 740 (.methodLink mL_law.1.cls 98 mX11_kept.1) = true := by decide +kernel
def bL_law_806 : List OP := [oi (.aload_n 2), oi (.aload_n 0), oi (.iload_n 3), oi (.iconst 1), oi .iadd, oi .iaload, oi (.aload_n 0), oi (.iload_n 3), oi (.iconst 2), oi .iadd, oi .iaload]
theorem oL_law_806 : okB mL_law 806 bL_law_806 = true := by decide +kernel
theorem eL_law_817 : decode mL_law.2.1 817 = .ok (.invokevirtual 101, 3) := by decide +kernel
theorem lL_law_817 : okL 1229 (.methodLink mL_law.1.cls 101 mX12_kept.1) = true := by decide +kernel
theorem eL_law_820 : decode mL_law.2.1 820 = .ok (.if_icmp .eq 603, 3) := by decide +kernel
def bL_law_823 : List OP := [oi (.iconst 0)]
theorem oL_law_823 : okB mL_law 823 bL_law_823 = true := by decide +kernel
theorem eL_law_824 : decode mL_law.2.1 824 = .ok (.ireturn, 1) := by decide +kernel
def bL_law_825 : List OP := [oi (.aload_n 1), oi (.aload_n 0), oi (.iload_n 3), oi (.iconst 1), oi .iadd, oi .iaload, oi (.aload_n 0), oi (.iload_n 3), oi (.iconst 2), oi .iadd, oi .iaload, oi (.aload_n 0), oi (.iload_n 3), oi (.iconst 3), oi .iadd, oi .iaload, oi (.aload_n 0), oi (.iload_n 3), oi (.iconst 4), oi .iadd, oi .iaload, oi (.aload_n 0), oi (.iload_n 3), oi (.iconst 5), oi .iadd, oi .iaload]
theorem oL_law_825 : okB mL_law 825 bL_law_825 = true := by decide +kernel
theorem eL_law_851 : decode mL_law.2.1 851 = .ok (.invokevirtual 102, 3) := by decide +kernel
theorem lL_law_851 : okL 757 (.methodLink mL_law.1.cls 102 mX11_right.1) = true := by decide +kernel
def bL_law_854 : List OP := [oi (.aload_n 2), oi (.aload_n 0), oi (.iload_n 3), oi (.iconst 1), oi .iadd, oi .iaload, oi (.aload_n 0), oi (.iload_n 3), oi (.iconst 2), oi .iadd, oi .iaload, oi (.aload_n 0), oi (.iload_n 3), oi (.iconst 3), oi .iadd, oi .iaload, oi (.aload_n 0), oi (.iload_n 3), oi (.iconst 4), oi .iadd, oi .iaload, oi (.aload_n 0), oi (.iload_n 3), oi (.iconst 5), oi .iadd, oi .iaload]
theorem oL_law_854 : okB mL_law 854 bL_law_854 = true := by decide +kernel
theorem eL_law_880 : decode mL_law.2.1 880 = .ok (.invokevirtual 106, 3) := by decide +kernel
theorem lL_law_880 : okL 1233 (.methodLink mL_law.1.cls 106 mX12_right.1) = true := by decide +kernel
theorem eL_law_883 : decode mL_law.2.1 883 = .ok (.if_icmp .eq 540, 3) := by decide +kernel
def bL_law_886 : List OP := [oi (.iconst 0)]
theorem oL_law_886 : okB mL_law 886 bL_law_886 = true := by decide +kernel
theorem eL_law_887 : decode mL_law.2.1 887 = .ok (.ireturn, 1) := by decide +kernel
def bL_law_888 : List OP := [oi (.aload_n 1), oi (.aload_n 0), oi (.iload_n 3), oi (.iconst 1), oi .iadd, oi .iaload, oi (.aload_n 0), oi (.iload_n 3), oi (.iconst 2), oi .iadd, oi .iaload]
theorem oL_law_888 : okB mL_law 888 bL_law_888 = true := by decide +kernel
theorem eL_law_899 : decode mL_law.2.1 899 = .ok (.invokevirtual 107, 3) := by decide +kernel
theorem lL_law_899 : okL 765 (.methodLink mL_law.1.cls 107 mX11_land.1) = true := by decide +kernel
def bL_law_902 : List OP := [oi (.aload_n 2), oi (.aload_n 0), oi (.iload_n 3), oi (.iconst 1), oi .iadd, oi .iaload, oi (.aload_n 0), oi (.iload_n 3), oi (.iconst 2), oi .iadd, oi .iaload]
theorem oL_law_902 : okB mL_law 902 bL_law_902 = true := by decide +kernel
theorem eL_law_913 : decode mL_law.2.1 913 = .ok (.invokevirtual 110, 3) := by decide +kernel
theorem lL_law_913 : okL 1237 (.methodLink mL_law.1.cls 110 mX12_land.1) = true := by decide +kernel
theorem eL_law_916 : decode mL_law.2.1 916 = .ok (.if_icmp .eq 507, 3) := by decide +kernel
def bL_law_919 : List OP := [oi (.iconst 0)]
theorem oL_law_919 : okB mL_law 919 bL_law_919 = true := by decide +kernel
theorem eL_law_920 : decode mL_law.2.1 920 = .ok (.ireturn, 1) := by decide +kernel
def bL_law_921 : List OP := [oi (.aload_n 1), oi (.aload_n 0), oi (.iload_n 3), oi (.iconst 1), oi .iadd, oi .iaload, oi (.aload_n 0), oi (.iload_n 3), oi (.iconst 2), oi .iadd, oi .iaload, oi (.aload_n 0), oi (.iload_n 3), oi (.iconst 3), oi .iadd, oi .iaload]
theorem oL_law_921 : okB mL_law 921 bL_law_921 = true := by decide +kernel
theorem eL_law_937 : decode mL_law.2.1 937 = .ok (.invokevirtual 111, 3) := by decide +kernel
theorem lL_law_937 : okL 776 (.methodLink mL_law.1.cls 111 mX11_may.1) = true := by decide +kernel
def bL_law_940 : List OP := [oi (.aload_n 2), oi (.aload_n 0), oi (.iload_n 3), oi (.iconst 1), oi .iadd, oi .iaload, oi (.aload_n 0), oi (.iload_n 3), oi (.iconst 2), oi .iadd, oi .iaload, oi (.aload_n 0), oi (.iload_n 3), oi (.iconst 3), oi .iadd, oi .iaload]
theorem oL_law_940 : okB mL_law 940 bL_law_940 = true := by decide +kernel
theorem eL_law_956 : decode mL_law.2.1 956 = .ok (.invokevirtual 114, 3) := by decide +kernel
theorem lL_law_956 : okL 1244 (.methodLink mL_law.1.cls 114 mX12_may.1) = true := by decide +kernel
theorem eL_law_959 : decode mL_law.2.1 959 = .ok (.if_icmp .eq 464, 3) := by decide +kernel
def bL_law_962 : List OP := [oi (.iconst 0)]
theorem oL_law_962 : okB mL_law 962 bL_law_962 = true := by decide +kernel
theorem eL_law_963 : decode mL_law.2.1 963 = .ok (.ireturn, 1) := by decide +kernel
def bL_law_964 : List OP := [oi (.aload_n 1), oi (.aload_n 0), oi (.iload_n 3), oi (.iconst 1), oi .iadd, oi .iaload, oi (.aload_n 0), oi (.iload_n 3), oi (.iconst 2), oi .iadd, oi .iaload, oi (.aload_n 0), oi (.iload_n 3), oi (.iconst 3), oi .iadd, oi .iaload, oi (.aload_n 0), oi (.iload_n 3), oi (.iconst 4), oi .iadd, oi .iaload, oi (.aload_n 0), oi (.iload_n 3), oi (.iconst 5), oi .iadd, oi .iaload]
theorem oL_law_964 : okB mL_law 964 bL_law_964 = true := by decide +kernel
theorem eL_law_990 : decode mL_law.2.1 990 = .ok (.invokevirtual 115, 3) := by decide +kernel
theorem lL_law_990 : okL 788 (.methodLink mL_law.1.cls 115 mX11_see.1) = true := by decide +kernel
def bL_law_993 : List OP := [oi (.aload_n 2), oi (.aload_n 0), oi (.iload_n 3), oi (.iconst 1), oi .iadd, oi .iaload, oi (.aload_n 0), oi (.iload_n 3), oi (.iconst 2), oi .iadd, oi .iaload, oi (.aload_n 0), oi (.iload_n 3), oi (.iconst 3), oi .iadd, oi .iaload, oi (.aload_n 0), oi (.iload_n 3), oi (.iconst 4), oi .iadd, oi .iaload, oi (.aload_n 0), oi (.iload_n 3), oi (.iconst 5), oi .iadd, oi .iaload]
theorem oL_law_993 : okB mL_law 993 bL_law_993 = true := by decide +kernel
theorem eL_law_1019 : decode mL_law.2.1 1019 = .ok (.invokevirtual 118, 3) := by decide +kernel
theorem lL_law_1019 : okL 1252 (.methodLink mL_law.1.cls 118 mX12_see.1) = true := by decide +kernel
theorem eL_law_1022 : decode mL_law.2.1 1022 = .ok (.if_icmp .eq 401, 3) := by decide +kernel
def bL_law_1025 : List OP := [oi (.iconst 0)]
theorem oL_law_1025 : okB mL_law 1025 bL_law_1025 = true := by decide +kernel
theorem eL_law_1026 : decode mL_law.2.1 1026 = .ok (.ireturn, 1) := by decide +kernel
def bL_law_1027 : List OP := [oi (.aload_n 1), oi (.aload_n 0), oi (.iload_n 3), oi (.iconst 1), oi .iadd, oi .iaload, oi (.aload_n 0), oi (.iload_n 3), oi (.iconst 2), oi .iadd, oi .iaload, oi (.aload_n 0), oi (.iload_n 3), oi (.iconst 3), oi .iadd, oi .iaload]
theorem oL_law_1027 : okB mL_law 1027 bL_law_1027 = true := by decide +kernel
theorem eL_law_1043 : decode mL_law.2.1 1043 = .ok (.invokevirtual 119, 3) := by decide +kernel
theorem lL_law_1043 : okL 803 (.methodLink mL_law.1.cls 119 mX11_seen.1) = true := by decide +kernel
def bL_law_1046 : List OP := [oi (.aload_n 2), oi (.aload_n 0), oi (.iload_n 3), oi (.iconst 1), oi .iadd, oi .iaload, oi (.aload_n 0), oi (.iload_n 3), oi (.iconst 2), oi .iadd, oi .iaload, oi (.aload_n 0), oi (.iload_n 3), oi (.iconst 3), oi .iadd, oi .iaload]
theorem oL_law_1046 : okB mL_law 1046 bL_law_1046 = true := by decide +kernel
theorem eL_law_1062 : decode mL_law.2.1 1062 = .ok (.invokevirtual 122, 3) := by decide +kernel
theorem lL_law_1062 : okL 1256 (.methodLink mL_law.1.cls 122 mX12_seen.1) = true := by decide +kernel
theorem eL_law_1065 : decode mL_law.2.1 1065 = .ok (.if_icmp .eq 358, 3) := by decide +kernel
def bL_law_1068 : List OP := [oi (.iconst 0)]
theorem oL_law_1068 : okB mL_law 1068 bL_law_1068 = true := by decide +kernel
theorem eL_law_1069 : decode mL_law.2.1 1069 = .ok (.ireturn, 1) := by decide +kernel
def bL_law_1070 : List OP := [oi (.aload_n 1), oi (.aload_n 0), oi (.iload_n 3), oi (.iconst 1), oi .iadd, oi .iaload]
theorem oL_law_1070 : okB mL_law 1070 bL_law_1070 = true := by decide +kernel
theorem eL_law_1076 : decode mL_law.2.1 1076 = .ok (.invokevirtual 123, 3) := by decide +kernel
theorem lL_law_1076 : okL 812 (.methodLink mL_law.1.cls 123 mX11_owed.1) = true := by decide +kernel
def bL_law_1079 : List OP := [oi (.aload_n 2), oi (.aload_n 0), oi (.iload_n 3), oi (.iconst 1), oi .iadd, oi .iaload]
theorem oL_law_1079 : okB mL_law 1079 bL_law_1079 = true := by decide +kernel
theorem eL_law_1085 : decode mL_law.2.1 1085 = .ok (.invokevirtual 126, 3) := by decide +kernel
theorem lL_law_1085 : okL 1264 (.methodLink mL_law.1.cls 126 mX12_owed.1) = true := by decide +kernel
theorem eL_law_1088 : decode mL_law.2.1 1088 = .ok (.if_icmp .eq 335, 3) := by decide +kernel
def bL_law_1091 : List OP := [oi (.iconst 0)]
theorem oL_law_1091 : okB mL_law 1091 bL_law_1091 = true := by decide +kernel
theorem eL_law_1092 : decode mL_law.2.1 1092 = .ok (.ireturn, 1) := by decide +kernel
def bL_law_1093 : List OP := [oi (.aload_n 1), oi (.aload_n 0), oi (.iload_n 3), oi (.iconst 1), oi .iadd, oi .iaload, oi (.aload_n 0), oi (.iload_n 3), oi (.iconst 2), oi .iadd, oi .iaload]
theorem oL_law_1093 : okB mL_law 1093 bL_law_1093 = true := by decide +kernel
theorem eL_law_1104 : decode mL_law.2.1 1104 = .ok (.invokevirtual 127, 3) := by decide +kernel
theorem lL_law_1104 : okL 822 (.methodLink mL_law.1.cls 127 mX11_mark.1) = true := by decide +kernel
def bL_law_1107 : List OP := [oi (.aload_n 2), oi (.aload_n 0), oi (.iload_n 3), oi (.iconst 1), oi .iadd, oi .iaload, oi (.aload_n 0), oi (.iload_n 3), oi (.iconst 2), oi .iadd, oi .iaload]
theorem oL_law_1107 : okB mL_law 1107 bL_law_1107 = true := by decide +kernel
theorem eL_law_1118 : decode mL_law.2.1 1118 = .ok (.invokevirtual 130, 3) := by decide +kernel
theorem lL_law_1118 : okL 1268 (.methodLink mL_law.1.cls 130 mX12_mark.1) = true := by decide +kernel
theorem eL_law_1121 : decode mL_law.2.1 1121 = .ok (.if_icmp .eq 302, 3) := by decide +kernel
def bL_law_1124 : List OP := [oi (.iconst 0)]
theorem oL_law_1124 : okB mL_law 1124 bL_law_1124 = true := by decide +kernel
theorem eL_law_1125 : decode mL_law.2.1 1125 = .ok (.ireturn, 1) := by decide +kernel
def bL_law_1126 : List OP := [oi (.aload_n 1), oi (.aload_n 0), oi (.iload_n 3), oi (.iconst 1), oi .iadd, oi .iaload, oi (.aload_n 0), oi (.iload_n 3), oi (.iconst 2), oi .iadd, oi .iaload, oi (.aload_n 0), oi (.iload_n 3), oi (.iconst 3), oi .iadd, oi .iaload]
theorem oL_law_1126 : okB mL_law 1126 bL_law_1126 = true := by decide +kernel
theorem eL_law_1142 : decode mL_law.2.1 1142 = .ok (.invokevirtual 131, 3) := by decide +kernel
theorem lL_law_1142 : okL 830 (.methodLink mL_law.1.cls 131 mX11_blame.1) = true := by decide +kernel
def bL_law_1145 : List OP := [oi (.aload_n 2), oi (.aload_n 0), oi (.iload_n 3), oi (.iconst 1), oi .iadd, oi .iaload, oi (.aload_n 0), oi (.iload_n 3), oi (.iconst 2), oi .iadd, oi .iaload, oi (.aload_n 0), oi (.iload_n 3), oi (.iconst 3), oi .iadd, oi .iaload]
theorem oL_law_1145 : okB mL_law 1145 bL_law_1145 = true := by decide +kernel
theorem eL_law_1161 : decode mL_law.2.1 1161 = .ok (.invokevirtual 134, 3) := by decide +kernel
theorem lL_law_1161 : okL 1272 (.methodLink mL_law.1.cls 134 mX12_blame.1) = true := by decide +kernel
theorem eL_law_1164 : decode mL_law.2.1 1164 = .ok (.if_icmp .eq 259, 3) := by decide +kernel
def bL_law_1167 : List OP := [oi (.iconst 0)]
theorem oL_law_1167 : okB mL_law 1167 bL_law_1167 = true := by decide +kernel
theorem eL_law_1168 : decode mL_law.2.1 1168 = .ok (.ireturn, 1) := by decide +kernel
def bL_law_1169 : List OP := [oi (.aload_n 1), oi (.aload_n 0), oi (.iload_n 3), oi (.iconst 1), oi .iadd, oi .iaload, oi (.aload_n 0), oi (.iload_n 3), oi (.iconst 2), oi .iadd, oi .iaload, oi (.aload_n 0), oi (.iload_n 3), oi (.iconst 3), oi .iadd, oi .iaload]
theorem oL_law_1169 : okB mL_law 1169 bL_law_1169 = true := by decide +kernel
theorem eL_law_1185 : decode mL_law.2.1 1185 = .ok (.invokevirtual 135, 3) := by decide +kernel
theorem lL_law_1185 : okL 860 (.methodLink mL_law.1.cls 135 mX11_put.1) = true := by decide +kernel
def bL_law_1188 : List OP := [oi (.aload_n 2), oi (.aload_n 0), oi (.iload_n 3), oi (.iconst 1), oi .iadd, oi .iaload, oi (.aload_n 0), oi (.iload_n 3), oi (.iconst 2), oi .iadd, oi .iaload, oi (.aload_n 0), oi (.iload_n 3), oi (.iconst 3), oi .iadd, oi .iaload]
theorem oL_law_1188 : okB mL_law 1188 bL_law_1188 = true := by decide +kernel
theorem eL_law_1204 : decode mL_law.2.1 1204 = .ok (.invokevirtual 138, 3) := by decide +kernel
theorem lL_law_1204 : okL 1276 (.methodLink mL_law.1.cls 138 mX12_put.1) = true := by decide +kernel
theorem eL_law_1207 : decode mL_law.2.1 1207 = .ok (.if_icmp .eq 216, 3) := by decide +kernel
def bL_law_1210 : List OP := [oi (.iconst 0)]
theorem oL_law_1210 : okB mL_law 1210 bL_law_1210 = true := by decide +kernel
theorem eL_law_1211 : decode mL_law.2.1 1211 = .ok (.ireturn, 1) := by decide +kernel
def bL_law_1212 : List OP := [oi (.aload_n 1), oi (.aload_n 0), oi (.iload_n 3), oi (.iconst 1), oi .iadd, oi .iaload, oi (.aload_n 0), oi (.iload_n 3), oi (.iconst 2), oi .iadd, oi .iaload]
theorem oL_law_1212 : okB mL_law 1212 bL_law_1212 = true := by decide +kernel
theorem eL_law_1223 : decode mL_law.2.1 1223 = .ok (.invokevirtual 139, 3) := by decide +kernel
theorem lL_law_1223 : okL 869 (.methodLink mL_law.1.cls 139 mX11_sum.1) = true := by decide +kernel
def bL_law_1226 : List OP := [oi (.aload_n 2), oi (.aload_n 0), oi (.iload_n 3), oi (.iconst 1), oi .iadd, oi .iaload, oi (.aload_n 0), oi (.iload_n 3), oi (.iconst 2), oi .iadd, oi .iaload]
theorem oL_law_1226 : okB mL_law 1226 bL_law_1226 = true := by decide +kernel
theorem eL_law_1237 : decode mL_law.2.1 1237 = .ok (.invokevirtual 142, 3) := by decide +kernel
theorem lL_law_1237 : okL 1284 (.methodLink mL_law.1.cls 142 mX12_sum.1) = true := by decide +kernel
theorem eL_law_1240 : decode mL_law.2.1 1240 = .ok (.if_icmp .eq 183, 3) := by decide +kernel
def bL_law_1243 : List OP := [oi (.iconst 0)]
theorem oL_law_1243 : okB mL_law 1243 bL_law_1243 = true := by decide +kernel
theorem eL_law_1244 : decode mL_law.2.1 1244 = .ok (.ireturn, 1) := by decide +kernel
def bL_law_1245 : List OP := [oi (.aload_n 1), oi (.aload_n 0), oi (.iload_n 3), oi (.iconst 1), oi .iadd, oi .iaload, oi (.aload_n 0), oi (.iload_n 3), oi (.iconst 2), oi .iadd, oi .iaload, oi (.aload_n 0), oi (.iload_n 3), oi (.iconst 3), oi .iadd, oi .iaload]
theorem oL_law_1245 : okB mL_law 1245 bL_law_1245 = true := by decide +kernel
theorem eL_law_1261 : decode mL_law.2.1 1261 = .ok (.invokevirtual 143, 3) := by decide +kernel
theorem lL_law_1261 : okL 885 (.methodLink mL_law.1.cls 143 mX11_restore.1) = true := by decide +kernel
def bL_law_1264 : List OP := [oi (.aload_n 2), oi (.aload_n 0), oi (.iload_n 3), oi (.iconst 1), oi .iadd, oi .iaload, oi (.aload_n 0), oi (.iload_n 3), oi (.iconst 2), oi .iadd, oi .iaload, oi (.aload_n 0), oi (.iload_n 3), oi (.iconst 3), oi .iadd, oi .iaload]
theorem oL_law_1264 : okB mL_law 1264 bL_law_1264 = true := by decide +kernel
theorem eL_law_1280 : decode mL_law.2.1 1280 = .ok (.invokevirtual 146, 3) := by decide +kernel
theorem lL_law_1280 : okL 1288 (.methodLink mL_law.1.cls 146 mX12_restore.1) = true := by decide +kernel
theorem eL_law_1283 : decode mL_law.2.1 1283 = .ok (.if_icmp .eq 140, 3) := by decide +kernel
def bL_law_1286 : List OP := [oi (.iconst 0)]
theorem oL_law_1286 : okB mL_law 1286 bL_law_1286 = true := by decide +kernel
theorem eL_law_1287 : decode mL_law.2.1 1287 = .ok (.ireturn, 1) := by decide +kernel
def bL_law_1288 : List OP := [oi (.aload_n 1), oi (.aload_n 0), oi (.iload_n 3), oi (.iconst 1), oi .iadd, oi .iaload, oi (.aload_n 0), oi (.iload_n 3), oi (.iconst 2), oi .iadd, oi .iaload, oi (.aload_n 0), oi (.iload_n 3), oi (.iconst 3), oi .iadd, oi .iaload]
theorem oL_law_1288 : okB mL_law 1288 bL_law_1288 = true := by decide +kernel
theorem eL_law_1304 : decode mL_law.2.1 1304 = .ok (.invokevirtual 147, 3) := by decide +kernel
theorem lL_law_1304 : okL 894 (.methodLink mL_law.1.cls 147 mX11_hang.1) = true := by decide +kernel
def bL_law_1307 : List OP := [oi (.aload_n 2), oi (.aload_n 0), oi (.iload_n 3), oi (.iconst 1), oi .iadd, oi .iaload, oi (.aload_n 0), oi (.iload_n 3), oi (.iconst 2), oi .iadd, oi .iaload, oi (.aload_n 0), oi (.iload_n 3), oi (.iconst 3), oi .iadd, oi .iaload]
theorem oL_law_1307 : okB mL_law 1307 bL_law_1307 = true := by decide +kernel
theorem eL_law_1323 : decode mL_law.2.1 1323 = .ok (.invokevirtual 150, 3) := by decide +kernel
theorem lL_law_1323 : okL 1292 (.methodLink mL_law.1.cls 150 mX12_hang.1) = true := by decide +kernel
theorem eL_law_1326 : decode mL_law.2.1 1326 = .ok (.if_icmp .eq 97, 3) := by decide +kernel
def bL_law_1329 : List OP := [oi (.iconst 0)]
theorem oL_law_1329 : okB mL_law 1329 bL_law_1329 = true := by decide +kernel
theorem eL_law_1330 : decode mL_law.2.1 1330 = .ok (.ireturn, 1) := by decide +kernel
def bL_law_1331 : List OP := [oi (.aload_n 1), oi (.aload_n 0), oi (.iload_n 3), oi (.iconst 1), oi .iadd, oi .iaload]
theorem oL_law_1331 : okB mL_law 1331 bL_law_1331 = true := by decide +kernel
theorem eL_law_1337 : decode mL_law.2.1 1337 = .ok (.invokevirtual 151, 3) := by decide +kernel
theorem lL_law_1337 : okL 909 (.methodLink mL_law.1.cls 151 mX11_behind.1) = true := by decide +kernel
def bL_law_1340 : List OP := [oi (.aload_n 2), oi (.aload_n 0), oi (.iload_n 3), oi (.iconst 1), oi .iadd, oi .iaload]
theorem oL_law_1340 : okB mL_law 1340 bL_law_1340 = true := by decide +kernel
theorem eL_law_1346 : decode mL_law.2.1 1346 = .ok (.invokevirtual 154, 3) := by decide +kernel
theorem lL_law_1346 : okL 1303 (.methodLink mL_law.1.cls 154 mX12_behind.1) = true := by decide +kernel
theorem eL_law_1349 : decode mL_law.2.1 1349 = .ok (.if_icmp .eq 74, 3) := by decide +kernel
def bL_law_1352 : List OP := [oi (.iconst 0)]
theorem oL_law_1352 : okB mL_law 1352 bL_law_1352 = true := by decide +kernel
theorem eL_law_1353 : decode mL_law.2.1 1353 = .ok (.ireturn, 1) := by decide +kernel
def bL_law_1354 : List OP := [oi (.aload_n 1), oi (.aload_n 0), oi (.iload_n 3), oi (.iconst 1), oi .iadd, oi .iaload]
theorem oL_law_1354 : okB mL_law 1354 bL_law_1354 = true := by decide +kernel
theorem eL_law_1360 : decode mL_law.2.1 1360 = .ok (.invokevirtual 155, 3) := by decide +kernel
theorem lL_law_1360 : okL 917 (.methodLink mL_law.1.cls 155 mX11_fall.1) = true := by decide +kernel
def bL_law_1363 : List OP := [oi (.aload_n 2), oi (.aload_n 0), oi (.iload_n 3), oi (.iconst 1), oi .iadd, oi .iaload]
theorem oL_law_1363 : okB mL_law 1363 bL_law_1363 = true := by decide +kernel
theorem eL_law_1369 : decode mL_law.2.1 1369 = .ok (.invokevirtual 158, 3) := by decide +kernel
theorem lL_law_1369 : okL 1311 (.methodLink mL_law.1.cls 158 mX12_fall.1) = true := by decide +kernel
theorem eL_law_1372 : decode mL_law.2.1 1372 = .ok (.if_icmp .eq 51, 3) := by decide +kernel
def bL_law_1375 : List OP := [oi (.iconst 0)]
theorem oL_law_1375 : okB mL_law 1375 bL_law_1375 = true := by decide +kernel
theorem eL_law_1376 : decode mL_law.2.1 1376 = .ok (.ireturn, 1) := by decide +kernel
def bL_law_1377 : List OP := [oi (.aload_n 1), oi (.aload_n 0), oi (.iload_n 3), oi (.iconst 1), oi .iadd, oi .iaload]
theorem oL_law_1377 : okB mL_law 1377 bL_law_1377 = true := by decide +kernel
theorem eL_law_1383 : decode mL_law.2.1 1383 = .ok (.invokevirtual 159, 3) := by decide +kernel
theorem lL_law_1383 : okL 931 (.methodLink mL_law.1.cls 159 mX11_tree.1) = true := by decide +kernel
def bL_law_1386 : List OP := [oi (.aload_n 2), oi (.aload_n 0), oi (.iload_n 3), oi (.iconst 1), oi .iadd, oi .iaload]
theorem oL_law_1386 : okB mL_law 1386 bL_law_1386 = true := by decide +kernel
theorem eL_law_1392 : decode mL_law.2.1 1392 = .ok (.invokevirtual 162, 3) := by decide +kernel
theorem lL_law_1392 : okL 1319 (.methodLink mL_law.1.cls 162 mX12_tree.1) = true := by decide +kernel
theorem eL_law_1395 : decode mL_law.2.1 1395 = .ok (.if_icmp .eq 28, 3) := by decide +kernel
def bL_law_1398 : List OP := [oi (.iconst 0)]
theorem oL_law_1398 : okB mL_law 1398 bL_law_1398 = true := by decide +kernel
theorem eL_law_1399 : decode mL_law.2.1 1399 = .ok (.ireturn, 1) := by decide +kernel
def bL_law_1400 : List OP := [oi (.aload_n 1), oi (.aload_n 0), oi (.iload_n 3), oi (.iconst 1), oi .iadd, oi .iaload]
theorem oL_law_1400 : okB mL_law 1400 bL_law_1400 = true := by decide +kernel
theorem eL_law_1406 : decode mL_law.2.1 1406 = .ok (.invokevirtual 163, 3) := by decide +kernel
theorem lL_law_1406 : okL 947 (.methodLink mL_law.1.cls 163 mX11_told.1) = true := by decide +kernel
def bL_law_1409 : List OP := [oi (.aload_n 2), oi (.aload_n 0), oi (.iload_n 3), oi (.iconst 1), oi .iadd, oi .iaload]
theorem oL_law_1409 : okB mL_law 1409 bL_law_1409 = true := by decide +kernel
theorem eL_law_1415 : decode mL_law.2.1 1415 = .ok (.invokevirtual 166, 3) := by decide +kernel
theorem lL_law_1415 : okL 1323 (.methodLink mL_law.1.cls 166 mX12_told.1) = true := by decide +kernel
theorem eL_law_1418 : decode mL_law.2.1 1418 = .ok (.if_icmp .eq 5, 3) := by decide +kernel
def bL_law_1421 : List OP := [oi (.iconst 0)]
theorem oL_law_1421 : okB mL_law 1421 bL_law_1421 = true := by decide +kernel
theorem eL_law_1422 : decode mL_law.2.1 1422 = .ok (.ireturn, 1) := by decide +kernel
def bL_law_1423 : List OP := [oi (.iinc 3 6), (.goto (-1408), 0, 0, 18, 0, 0)]
theorem oL_law_1423 : okB mL_law 1423 bL_law_1423 = true := by decide +kernel
def bL_law_1429 : List OP := [oi (.iconst 1)]
theorem oL_law_1429 : okB mL_law 1429 bL_law_1429 = true := by decide +kernel
theorem eL_law_1430 : decode mL_law.2.1 1430 = .ok (.ireturn, 1) := by decide +kernel
end
section
/-! ===== Math, System.arraycopy ===== -/
theorem up_at {μ : MM} {c : Nat} {i v : Int} : up μ c i v c i = v := by simp [up]
theorem up_ne {μ : MM} {c c' : Nat} {i i' v : Int} (h : c' ≠ c ∨ i' ≠ i) : up μ c i v c' i' = μ c' i' := by
  unfold up
  rw [if_neg]
  rintro ⟨h1, h2⟩
  rcases h with h | h
  · exact h h1
  · exact h h2
theorem up_def {μ : MM} {c c' : Nat} {i i' v : Int} : up μ c i v c' i' = if c' = c ∧ i' = i then v else μ c' i' := rfl
def cpy (μ : MM) (c0 : Nat) (sp : Int) (c1 : Nat) (dp n : Int) : MM := fun c i => if c = c1 ∧ dp ≤ i ∧ i < dp + n then μ c0 (sp + (i - dp)) else μ c i
section JDK
variable {κ : KX} {cx : MX} {R : Room} {Qf : List Frame → Array Value → State → State → Prop} {cells slots : Nat} {S : List SH} {pc : Nat} {ls r : List AV} {μ : MM} {ν : ML}
theorem cat_rest {κ : KX} {rest : List AV} (h : 2 * rest.length ≤ 8) {n N : Nat} (hn : 8 + n ≤ N) : ((rest.map (cvA κ)).map fun v => v.category).sum + n ≤ N := by
  have h1 := rest_ok (κ := κ) (m := ⟨0, 0⟩) (pc := 0) (lsA := #[]) (st := []) h
  have : ((rest.map (cvA κ)).map fun v => v.category).sum ≤ 8 := Nat.le_trans (Nat.le_add_left _ _) h1
  omega
theorem aw_mmax {x y : Int} {idx p1 : Nat} (hd : decode cx.2.1 pc = .ok (.invokestatic idx, 3)) (hl : okL p1 (.methodLink cx.1.cls idx mJ9_max.1) = true) (hx : R32 x) (hy : R32 y) (hrest : 2 * r.length ≤ 8) (hR : 1 ≤ R.frames ∧ 21 ≤ R.locals) (hc : cells ≤ R.cells ∧ slots ≤ R.slots) (k : AW κ cx R Qf cells slots S (pc + 3) ls (aI (if x < y then y else x) :: r) μ ν) : AW κ cx R Qf cells slots S pc ls (aI y :: aI x :: r) μ ν := by
  intro hS p l e s m args below meth c F H locs lsA hs hW hl0
  obtain ⟨hx0, hb, -, hml, hown, hts, -, -, hK, hst⟩ := id F
  refine va_mmax hx0 hb (by rw [hml, hl0.1]) hown (hts _ (okL_mem hl)) (hts _ (okL_mem (pos := 498) (by decide +kernel))) (hts _ (okL_mem (pos := 54) (by decide +kernel))) (hts _ (okL_mem (pos := 499) (by decide +kernel))) hR.1 (cat_rest hrest hR.2) hc.1 hc.2 hd ?_
  have := k hS p l e s m args below meth c F H locs lsA hs hW hl0
  by_cases h : x < y
  · rw [if_pos ((lt32 hx hy).mpr h)]; rw [if_pos h] at this; exact this
  · rw [if_neg (fun q => h ((lt32 hx hy).mp q))]; rw [if_neg h] at this; exact this
theorem aw_mmin {x y : Int} {idx p1 : Nat} (hd : decode cx.2.1 pc = .ok (.invokestatic idx, 3)) (hl : okL p1 (.methodLink cx.1.cls idx mJ9_min.1) = true) (hx : R32 x) (hy : R32 y) (hrest : 2 * r.length ≤ 8) (hR : 1 ≤ R.frames ∧ 21 ≤ R.locals) (hc : cells ≤ R.cells ∧ slots ≤ R.slots) (k : AW κ cx R Qf cells slots S (pc + 3) ls (aI (if y < x then y else x) :: r) μ ν) : AW κ cx R Qf cells slots S pc ls (aI y :: aI x :: r) μ ν := by
  intro hS p l e s m args below meth c F H locs lsA hs hW hl0
  obtain ⟨hx0, hb, -, hml, hown, hts, -, -, hK, hst⟩ := id F
  refine va_mmin hx0 hb (by rw [hml, hl0.1]) hown (hts _ (okL_mem hl)) (hts _ (okL_mem (pos := 437) (by decide +kernel))) (hts _ (okL_mem (pos := 54) (by decide +kernel))) (hts _ (okL_mem (pos := 438) (by decide +kernel))) hR.1 (cat_rest hrest hR.2) hc.1 hc.2 hd ?_
  have := k hS p l e s m args below meth c F H locs lsA hs hW hl0
  by_cases h : y < x
  · rw [if_pos ((lt32 hy hx).mpr h)]; rw [if_pos h] at this; exact this
  · rw [if_neg (fun q => h ((lt32 hy hx).mp q))]; rw [if_neg h] at this; exact this
theorem aw_mabs {x : Int} {idx p1 : Nat} (hd : decode cx.2.1 pc = .ok (.invokestatic idx, 3)) (hl : okL p1 (.methodLink cx.1.cls idx mJ9_abs.1) = true) (hx : R32 x) (hrest : 2 * r.length ≤ 8) (hR : 1 ≤ R.frames ∧ 21 ≤ R.locals) (hc : cells ≤ R.cells ∧ slots ≤ R.slots) (k : AW κ cx R Qf cells slots S (pc + 3) ls (aI (if 0 ≤ x then x else 0 - x) :: r) μ ν) : AW κ cx R Qf cells slots S pc ls (aI x :: r) μ ν := by
  intro hS p l e s m args below meth c F H locs lsA hs hW hl0
  obtain ⟨hx0, hb, -, hml, hown, hts, -, -, hK, hst⟩ := id F
  refine va_mabs hx0 hb (by rw [hml, hl0.1]) hown (hts _ (okL_mem hl)) (hts _ (okL_mem (pos := 536) (by decide +kernel))) (hts _ (okL_mem (pos := 54) (by decide +kernel))) (hts _ (okL_mem (pos := 537) (by decide +kernel))) hR.1 (cat_rest hrest hR.2) hc.1 hc.2 hd ?_
  have := k hS p l e s m args below meth c F H locs lsA hs hW hl0
  by_cases h : 0 ≤ x
  · rw [if_pos (by rw [z32]; exact (le32 r0 hx).mpr h)]; rw [if_pos h] at this; exact this
  · rw [if_neg (show ¬ (0 : Int32) ≤ Int32.ofInt x from fun q => h ((le32 r0 hx).mp q))]; rw [if_neg h] at this
    simp only [List.map, cvA, Int32.ofInt_sub] at this
    exact this
end JDK
end
section
/-! ===== contracts over the heap behind the constructors ===== -/
theorem sm0 : SmallS S0 := by
  intro x t n h
  have hx : x < 83 := by
    have := (List.getElem?_eq_some_iff.mp h).1
    exact this
  have key : ∀ x, x < 83 → (match gt S0 x with
    | some (.inl (_, n)) => Nat.blt n 2147483648
    | _ => true) = true := by decide +kernel
  have := key x hx
  rw [gt_eq, h] at this
  simpa using this
abbrev AX (κ : KX) (cx : MX) (d : Nat) (P : Option AV → List SH → MM → ML → Prop) (pc : Nat) (ls st : List AV) (μ : MM) (ν : ML) : Prop := AW κ cx (rmv d 0 0) (mq κ P 0 0) 0 0 S0 pc ls st μ ν
def PE (r : Option AV) (μ1 : MM) (ν1 : ML) : Option AV → List SH → MM → ML → Prop := fun r' S μ ν => r' = r ∧ S = S0 ∧ μ = μ1 ∧ ν = ν1
/-- a method that gives r and leaves the memory as mu1, nu1 -/
abbrev AE (κ : KX) (d : Nat) (cy : MX) (As : List AV) (μ : MM) (ν : ML) (r : Option AV) (μ1 : MM) (ν1 : ML) : Prop := AMet κ d cy As S0 μ ν (PE r μ1 ν1) 0 0
/-- a method whose end is only known by a relation -/
abbrev AQ (κ : KX) (d : Nat) (cy : MX) (As : List AV) (μ : MM) (ν : ML) (P : Option AV → MM → ML → Prop) : Prop := AMet κ d cy As S0 μ ν (fun r S μ' ν' => S = S0 ∧ P r μ' ν') 0 0
theorem pe_i {z w : Int} {μ μ1 : MM} {ν ν1 : ML} (h : w = z) (hm : μ = μ1) (hn : ν = ν1) : PE (some (aI z)) μ1 ν1 (some (aI w)) S0 μ ν := ⟨by rw [h], rfl, hm, hn⟩
theorem pe_v {μ μ1 : MM} {ν ν1 : ML} (hm : μ = μ1) (hn : ν = ν1) : PE none μ1 ν1 none S0 μ ν := ⟨rfl, rfl, hm, hn⟩
section AEC
variable {κ : KX} {cx : MX} {R : Room} {Qf : List Frame → Array Value → State → State → Prop} {cells slots : Nat} {pc : Nat} {ls : List AV} {μ μ1 : MM} {ν ν1 : ML}
theorem fit_R {cy : MX} {d : Nat} {R : Room} (hm : Nat.ble cy.2.2.1 45 = true) (hR : Nat.ble (d + 1) R.frames = true ∧ Nat.ble (64 * (d + 1)) R.locals = true) : d + 1 ≤ R.frames ∧ 8 + (cy.2.2.1 + 11) + 64 * d ≤ R.locals := by
  have h1 := Nat.le_of_ble_eq_true hm
  have h2 := Nat.le_of_ble_eq_true hR.1
  have h3 := Nat.le_of_ble_eq_true hR.2
  exact ⟨h2, by omega⟩
theorem aw_crV {cy : MX} {d n idx b a p1 : Nat} {As rest st : List AV} {fs : List (Option AV)} {P : Option AV → MM → ML → Prop} (hM : AQ κ d cy (aR b :: As) μ ν P) (hm : MokV cy n) (hd : decode cx.2.1 pc = .ok (.invokevirtual idx, 3)) (hl : okL p1 (.methodLink cx.1.cls idx cy.1) = true) (hob : gt S0 b = some (.inr (a, fs))) (hcl : (gt classes a).map (fun q => q.1) = some cy.1.cls) (hn : As.length = n) (hst : As.reverse ++ aR b :: rest = st) (hrest : 2 * rest.length ≤ 8) (hR : d + 1 ≤ R.frames ∧ 8 + (cy.2.2.1 + 11) + 64 * d ≤ R.locals) (hf : cells ≤ R.cells ∧ slots ≤ R.slots)
    (k : ∀ (r : Option AV) (μ' : MM) (ν' : ML), P r μ' ν' → AW κ cx R Qf cells slots S0 (pc + 3) ls (r.toList ++ rest) μ' ν') : AW κ cx R Qf cells slots S0 pc ls st μ ν := by
  subst hst
  refine aw_callV hM hm hd hl hob hcl hn hrest hR hf ?_
  intro r S' μ' ν' hp
  obtain ⟨rfl, hp⟩ := hp
  exact k r μ' ν' hp
theorem aw_ceV {cy : MX} {d n idx b a p1 : Nat} {As rest st : List AV} {fs : List (Option AV)} {r : Option AV} (hM : AE κ d cy (aR b :: As) μ ν r μ1 ν1) (hm : MokV cy n) (hd : decode cx.2.1 pc = .ok (.invokevirtual idx, 3)) (hl : okL p1 (.methodLink cx.1.cls idx cy.1) = true) (hob : gt S0 b = some (.inr (a, fs))) (hcl : (gt classes a).map (fun q => q.1) = some cy.1.cls) (hn : As.length = n) (hst : As.reverse ++ aR b :: rest = st) (hrest : 2 * rest.length ≤ 8) (hR : d + 1 ≤ R.frames ∧ 8 + (cy.2.2.1 + 11) + 64 * d ≤ R.locals) (hf : cells ≤ R.cells ∧ slots ≤ R.slots)
    (k : AW κ cx R Qf cells slots S0 (pc + 3) ls (r.toList ++ rest) μ1 ν1) : AW κ cx R Qf cells slots S0 pc ls st μ ν := by
  subst hst
  refine aw_callV hM hm hd hl hob hcl hn hrest hR hf ?_
  intro r S' μ' ν' hp
  obtain ⟨rfl, rfl, rfl, rfl⟩ := hp
  exact k
theorem aw_ceS {cy : MX} {d n idx p1 : Nat} {As rest st : List AV} {r : Option AV} (hM : AE κ d cy As μ ν r μ1 ν1) (hm : MokS cy n) (hd : decode cx.2.1 pc = .ok (.invokestatic idx, 3)) (hl : okL p1 (.methodLink cx.1.cls idx cy.1) = true) (hn : As.length = n) (hst : As.reverse ++ rest = st) (hrest : 2 * rest.length ≤ 8) (hR : d + 1 ≤ R.frames ∧ 8 + (cy.2.2.1 + 11) + 64 * d ≤ R.locals) (hf : cells ≤ R.cells ∧ slots ≤ R.slots)
    (k : AW κ cx R Qf cells slots S0 (pc + 3) ls (r.toList ++ rest) μ1 ν1) : AW κ cx R Qf cells slots S0 pc ls st μ ν := by
  subst hst
  refine aw_callS hM hm hd hl hn hrest hR hf ?_
  intro r S' μ' ν' hp
  obtain ⟨rfl, rfl, rfl, rfl⟩ := hp
  exact k
theorem aw_ciV {cy : MX} {d n idx b a p1 : Nat} {As rest st : List AV} {fs : List (Option AV)} {z : Int} (hM : AE κ d cy (aR b :: As) μ ν (some (aI z)) μ1 ν1) (hm : MokV cy n) (hd : decode cx.2.1 pc = .ok (.invokevirtual idx, 3)) (hl : okL p1 (.methodLink cx.1.cls idx cy.1) = true) (hob : gt S0 b = some (.inr (a, fs))) (hcl : (gt classes a).map (fun q => q.1) = some cy.1.cls) (hn : As.length = n) (hst : As.reverse ++ aR b :: rest = st) (hrest : 2 * rest.length ≤ 8) (hR : d + 1 ≤ R.frames ∧ 8 + (cy.2.2.1 + 11) + 64 * d ≤ R.locals) (hf : cells ≤ R.cells ∧ slots ≤ R.slots)
    (k : AW κ cx R Qf cells slots S0 (pc + 3) ls (aI z :: rest) μ1 ν1) : AW κ cx R Qf cells slots S0 pc ls st μ ν := aw_ceV hM hm hd hl hob hcl hn hst hrest hR hf k
theorem aw_cvV {cy : MX} {d n idx b a p1 : Nat} {As rest st : List AV} {fs : List (Option AV)} (hM : AE κ d cy (aR b :: As) μ ν none μ1 ν1) (hm : MokV cy n) (hd : decode cx.2.1 pc = .ok (.invokevirtual idx, 3)) (hl : okL p1 (.methodLink cx.1.cls idx cy.1) = true) (hob : gt S0 b = some (.inr (a, fs))) (hcl : (gt classes a).map (fun q => q.1) = some cy.1.cls) (hn : As.length = n) (hst : As.reverse ++ aR b :: rest = st) (hrest : 2 * rest.length ≤ 8) (hR : d + 1 ≤ R.frames ∧ 8 + (cy.2.2.1 + 11) + 64 * d ≤ R.locals) (hf : cells ≤ R.cells ∧ slots ≤ R.slots)
    (k : AW κ cx R Qf cells slots S0 (pc + 3) ls rest μ1 ν1) : AW κ cx R Qf cells slots S0 pc ls st μ ν := aw_ceV hM hm hd hl hob hcl hn hst hrest hR hf k
theorem aw_ciS {cy : MX} {d n idx p1 : Nat} {As rest st : List AV} {z : Int} (hM : AE κ d cy As μ ν (some (aI z)) μ1 ν1) (hm : MokS cy n) (hd : decode cx.2.1 pc = .ok (.invokestatic idx, 3)) (hl : okL p1 (.methodLink cx.1.cls idx cy.1) = true) (hn : As.length = n) (hst : As.reverse ++ rest = st) (hrest : 2 * rest.length ≤ 8) (hR : d + 1 ≤ R.frames ∧ 8 + (cy.2.2.1 + 11) + 64 * d ≤ R.locals) (hf : cells ≤ R.cells ∧ slots ≤ R.slots)
    (k : AW κ cx R Qf cells slots S0 (pc + 3) ls (aI z :: rest) μ1 ν1) : AW κ cx R Qf cells slots S0 pc ls st μ ν := aw_ceS hM hm hd hl hn hst hrest hR hf k
end AEC
/-! between, in -/
def bt (a b c : Int) : Int := if b ≤ a ∧ a ≤ c then 1 else 0
theorem bt_r {a b c : Int} : R32 (bt a b c) := by unfold bt; split <;> decide
theorem bt1 {a b c : Int} (h : ¬ bt a b c = 0) : b ≤ a ∧ a ≤ c := by
  unfold bt at h
  split at h
  · assumption
  · exact absurd rfl h
theorem bt0 {a b c : Int} (h : bt a b c = 0) : ¬ (b ≤ a ∧ a ≤ c) := by
  unfold bt at h
  split at h
  · cases h
  · assumption
end
section
/-! ===== between, in, and the small tests built on them ===== -/
theorem bt_z {a b c : Int} : 0 ≤ bt a b c ∧ bt a b c < 2 := by unfold bt; split <;> decide
theorem c_X11_between {κ : KX} {μ : MM} {ν : ML} {a b c : Int} (ha : R32 a) (hb : R32 b) (hc : R32 c) : AE κ 0 mX11_between [aI a, aI b, aI c] μ ν (some (aI (bt a b c))) μ ν := by
  refine AMet.of kX11_between.1 (Nat.le_of_ble_eq_true rfl) rfl ?_
  refine aw_blk oX11_between_0 (pc' := 2) (ls' := [_, _, _]) (st' := [_, _]) (cs := []) rfl trivial ?_
  refine aw_icmp_lt (tgt := 14) eX11_between_2 (by decide) (by omega) (by omega) (fun h1 => ?_) (fun h1 => ?_)
  · first
    | (exfalso; omega; done)
    | (refine aw_blk oX11_between_14 (pc' := 15) (ls' := [_, _, _]) (st' := [_]) (cs := []) rfl trivial ?_
       refine aw_zret eX11_between_15 rfl (by omega) (Nat.le_refl _) (Nat.le_refl _) ?_
       exact pe_i (by unfold bt; first | rw [if_neg (by omega)] | rw [if_pos (by omega)]) rfl rfl)
  · first
    | (exfalso; omega; done)
    | (refine aw_blk oX11_between_5 (pc' := 7) (ls' := [_, _, _]) (st' := [_, _]) (cs := []) rfl trivial ?_
       refine aw_icmp_gt (tgt := 14) eX11_between_7 (by decide) (by omega) (by omega) (fun h2 => ?_) (fun h2 => ?_)
       · first
         | (exfalso; omega; done)
         | (refine aw_blk oX11_between_14 (pc' := 15) (ls' := [_, _, _]) (st' := [_]) (cs := []) rfl trivial ?_
            refine aw_zret eX11_between_15 rfl (by omega) (Nat.le_refl _) (Nat.le_refl _) ?_
            exact pe_i (by unfold bt; first | rw [if_neg (by omega)] | rw [if_pos (by omega)]) rfl rfl)
       · first
         | (exfalso; omega; done)
         | (refine aw_blk oX11_between_10 (pc' := 15) (ls' := [_, _, _]) (st' := [_]) (cs := []) rfl trivial ?_
            refine aw_zret eX11_between_15 rfl (by omega) (Nat.le_refl _) (Nat.le_refl _) ?_
            exact pe_i (by unfold bt; first | rw [if_neg (by omega)] | rw [if_pos (by omega)]) rfl rfl))
theorem c_X12_in {κ : KX} {μ : MM} {ν : ML} {a b c : Int} (ha : R32 a) (hb : R32 b) (hc : R32 c) : AE κ 0 mX12_in [aI a, aI b, aI c] μ ν (some (aI (bt a b c))) μ ν := by
  refine AMet.of kX12_in.1 (Nat.le_of_ble_eq_true rfl) rfl ?_
  refine aw_blk oX12_in_0 (pc' := 2) (ls' := [_, _, _]) (st' := [_, _]) (cs := []) rfl trivial ?_
  refine aw_icmp_lt (tgt := 14) eX12_in_2 (by decide) (by omega) (by omega) (fun h3 => ?_) (fun h3 => ?_)
  · first
    | (exfalso; omega; done)
    | (refine aw_blk oX12_in_14 (pc' := 15) (ls' := [_, _, _]) (st' := [_]) (cs := []) rfl trivial ?_
       refine aw_zret eX12_in_15 rfl (by omega) (Nat.le_refl _) (Nat.le_refl _) ?_
       exact pe_i (by unfold bt; first | rw [if_neg (by omega)] | rw [if_pos (by omega)]) rfl rfl)
  · first
    | (exfalso; omega; done)
    | (refine aw_blk oX12_in_5 (pc' := 7) (ls' := [_, _, _]) (st' := [_, _]) (cs := []) rfl trivial ?_
       refine aw_icmp_gt (tgt := 14) eX12_in_7 (by decide) (by omega) (by omega) (fun h4 => ?_) (fun h4 => ?_)
       · first
         | (exfalso; omega; done)
         | (refine aw_blk oX12_in_14 (pc' := 15) (ls' := [_, _, _]) (st' := [_]) (cs := []) rfl trivial ?_
            refine aw_zret eX12_in_15 rfl (by omega) (Nat.le_refl _) (Nat.le_refl _) ?_
            exact pe_i (by unfold bt; first | rw [if_neg (by omega)] | rw [if_pos (by omega)]) rfl rfl)
       · first
         | (exfalso; omega; done)
         | (refine aw_blk oX12_in_10 (pc' := 15) (ls' := [_, _, _]) (st' := [_]) (cs := []) rfl trivial ?_
            refine aw_zret eX12_in_15 rfl (by omega) (Nat.le_refl _) (Nat.le_refl _) ?_
            exact pe_i (by unfold bt; first | rw [if_neg (by omega)] | rw [if_pos (by omega)]) rfl rfl))
theorem c_X11_isFilm {κ : KX} {μ : MM} {ν : ML} {a : Int} (ha : R32 a) : AE κ 1 mX11_isFilm [aI a] μ ν (some (aI (bt a 0 5))) μ ν := by
  refine AMet.of kX11_isFilm.1 (Nat.le_of_ble_eq_true rfl) rfl ?_
  refine aw_blk oX11_isFilm_0 (pc' := 3) (ls' := [_]) (st' := [_, _, _]) (cs := []) rfl trivial ?_
  refine aw_ciS (rest := []) (c_X11_between (by omega) (by omega) (by omega)) kX11_between eX11_isFilm_3 lX11_isFilm_3 rfl rfl (Nat.le_of_ble_eq_true rfl) ⟨Nat.le_of_ble_eq_true rfl, Nat.le_of_ble_eq_true rfl⟩ ⟨Nat.le_refl _, Nat.le_refl _⟩ ?_
  refine aw_zret eX11_isFilm_6 rfl (by exact bt_z) (Nat.le_refl _) (Nat.le_refl _) ?_
  exact pe_i rfl rfl rfl
theorem c_X11_isSeer {κ : KX} {μ : MM} {ν : ML} {a : Int} (ha : R32 a) : AE κ 1 mX11_isSeer [aI a] μ ν (some (aI (bt a 0 7))) μ ν := by
  refine AMet.of kX11_isSeer.1 (Nat.le_of_ble_eq_true rfl) rfl ?_
  refine aw_blk oX11_isSeer_0 (pc' := 4) (ls' := [_]) (st' := [_, _, _]) (cs := []) rfl trivial ?_
  refine aw_ciS (rest := []) (c_X11_between (by omega) (by omega) (by omega)) kX11_between eX11_isSeer_4 lX11_isSeer_4 rfl rfl (Nat.le_of_ble_eq_true rfl) ⟨Nat.le_of_ble_eq_true rfl, Nat.le_of_ble_eq_true rfl⟩ ⟨Nat.le_refl _, Nat.le_refl _⟩ ?_
  refine aw_zret eX11_isSeer_7 rfl (by exact bt_z) (Nat.le_refl _) (Nat.le_refl _) ?_
  exact pe_i rfl rfl rfl
theorem c_X11_isNode {κ : KX} {μ : MM} {ν : ML} {a : Int} (ha : R32 a) : AE κ 1 mX11_isNode [aI a] μ ν (some (aI (bt a 0 9))) μ ν := by
  refine AMet.of kX11_isNode.1 (Nat.le_of_ble_eq_true rfl) rfl ?_
  refine aw_blk oX11_isNode_0 (pc' := 4) (ls' := [_]) (st' := [_, _, _]) (cs := []) rfl trivial ?_
  refine aw_ciS (rest := []) (c_X11_between (by omega) (by omega) (by omega)) kX11_between eX11_isNode_4 lX11_isNode_4 rfl rfl (Nat.le_of_ble_eq_true rfl) ⟨Nat.le_of_ble_eq_true rfl, Nat.le_of_ble_eq_true rfl⟩ ⟨Nat.le_refl _, Nat.le_refl _⟩ ?_
  refine aw_zret eX11_isNode_7 rfl (by exact bt_z) (Nat.le_refl _) (Nat.le_refl _) ?_
  exact pe_i rfl rfl rfl
theorem c_X12_isFilm {κ : KX} {μ : MM} {ν : ML} {a : Int} (ha : R32 a) : AE κ 1 mX12_isFilm [aI a] μ ν (some (aI (bt a 0 5))) μ ν := by
  refine AMet.of kX12_isFilm.1 (Nat.le_of_ble_eq_true rfl) rfl ?_
  refine aw_blk oX12_isFilm_0 (pc' := 3) (ls' := [_]) (st' := [_, _, _]) (cs := []) rfl trivial ?_
  refine aw_ciS (rest := []) (c_X12_in (by omega) (by omega) (by omega)) kX12_in eX12_isFilm_3 lX12_isFilm_3 rfl rfl (Nat.le_of_ble_eq_true rfl) ⟨Nat.le_of_ble_eq_true rfl, Nat.le_of_ble_eq_true rfl⟩ ⟨Nat.le_refl _, Nat.le_refl _⟩ ?_
  refine aw_zret eX12_isFilm_6 rfl (by exact bt_z) (Nat.le_refl _) (Nat.le_refl _) ?_
  exact pe_i rfl rfl rfl
theorem c_X12_isSeer {κ : KX} {μ : MM} {ν : ML} {a : Int} (ha : R32 a) : AE κ 1 mX12_isSeer [aI a] μ ν (some (aI (bt a 0 7))) μ ν := by
  refine AMet.of kX12_isSeer.1 (Nat.le_of_ble_eq_true rfl) rfl ?_
  refine aw_blk oX12_isSeer_0 (pc' := 4) (ls' := [_]) (st' := [_, _, _]) (cs := []) rfl trivial ?_
  refine aw_ciS (rest := []) (c_X12_in (by omega) (by omega) (by omega)) kX12_in eX12_isSeer_4 lX12_isSeer_4 rfl rfl (Nat.le_of_ble_eq_true rfl) ⟨Nat.le_of_ble_eq_true rfl, Nat.le_of_ble_eq_true rfl⟩ ⟨Nat.le_refl _, Nat.le_refl _⟩ ?_
  refine aw_zret eX12_isSeer_7 rfl (by exact bt_z) (Nat.le_refl _) (Nat.le_refl _) ?_
  exact pe_i rfl rfl rfl
theorem c_X12_isNode {κ : KX} {μ : MM} {ν : ML} {a : Int} (ha : R32 a) : AE κ 1 mX12_isNode [aI a] μ ν (some (aI (bt a 0 9))) μ ν := by
  refine AMet.of kX12_isNode.1 (Nat.le_of_ble_eq_true rfl) rfl ?_
  refine aw_blk oX12_isNode_0 (pc' := 4) (ls' := [_]) (st' := [_, _, _]) (cs := []) rfl trivial ?_
  refine aw_ciS (rest := []) (c_X12_in (by omega) (by omega) (by omega)) kX12_in eX12_isNode_4 lX12_isNode_4 rfl rfl (Nat.le_of_ble_eq_true rfl) ⟨Nat.le_of_ble_eq_true rfl, Nat.le_of_ble_eq_true rfl⟩ ⟨Nat.le_refl _, Nat.le_refl _⟩ ?_
  refine aw_zret eX12_isNode_7 rfl (by exact bt_z) (Nat.le_refl _) (Nat.le_refl _) ?_
  exact pe_i rfl rfl rfl
theorem c_X12_isTown {κ : KX} {μ : MM} {ν : ML} {a : Int} (ha : R32 a) : AE κ 1 mX12_isTown [aI a] μ ν (some (aI (bt a 0 3))) μ ν := by
  refine AMet.of kX12_isTown.1 (Nat.le_of_ble_eq_true rfl) rfl ?_
  refine aw_blk oX12_isTown_0 (pc' := 3) (ls' := [_]) (st' := [_, _, _]) (cs := []) rfl trivial ?_
  refine aw_ciS (rest := []) (c_X12_in (by omega) (by omega) (by omega)) kX12_in eX12_isTown_3 lX12_isTown_3 rfl rfl (Nat.le_of_ble_eq_true rfl) ⟨Nat.le_of_ble_eq_true rfl, Nat.le_of_ble_eq_true rfl⟩ ⟨Nat.le_refl _, Nat.le_refl _⟩ ?_
  refine aw_zret eX12_isTown_6 rfl (by exact bt_z) (Nat.le_refl _) (Nat.le_refl _) ?_
  exact pe_i rfl rfl rfl
theorem c_X12_isGroup {κ : KX} {μ : MM} {ν : ML} {a : Int} (ha : R32 a) : AE κ 1 mX12_isGroup [aI a] μ ν (some (aI (bt a 0 3))) μ ν := by
  refine AMet.of kX12_isGroup.1 (Nat.le_of_ble_eq_true rfl) rfl ?_
  refine aw_blk oX12_isGroup_0 (pc' := 3) (ls' := [_]) (st' := [_, _, _]) (cs := []) rfl trivial ?_
  refine aw_ciS (rest := []) (c_X12_in (by omega) (by omega) (by omega)) kX12_in eX12_isGroup_3 lX12_isGroup_3 rfl rfl (Nat.le_of_ble_eq_true rfl) ⟨Nat.le_of_ble_eq_true rfl, Nat.le_of_ble_eq_true rfl⟩ ⟨Nat.le_refl _, Nat.le_refl _⟩ ?_
  refine aw_zret eX12_isGroup_6 rfl (by exact bt_z) (Nat.le_refl _) (Nat.le_refl _) ?_
  exact pe_i rfl rfl rfl
end
section
/-! ===== sums, bits ===== -/
def sm (g : Int → Int) : Nat → Int
  | 0 => 0
  | n + 1 => sm g n + g (n : Int)
theorem sm_succ {g : Int → Int} {n : Nat} : sm g (n + 1) = sm g n + g (n : Int) := rfl
theorem sm_congr {g h : Int → Int} : ∀ n : Nat, (∀ k : Nat, k < n → g k = h k) → sm g n = sm h n
  | 0, _ => rfl
  | n + 1, H => by
    simp only [sm]
    rw [sm_congr n (fun k hk => H k (by omega)), H n (by omega)]
theorem sm_bd {g : Int → Int} {B : Int} : ∀ n : Nat, (∀ k : Nat, k < n → 0 ≤ g k ∧ g k ≤ B) → 0 ≤ sm g n ∧ sm g n ≤ n * B
  | 0, _ => by simp [sm]
  | n + 1, H => by
    have h1 := sm_bd n (fun k hk => H k (by omega))
    have h2 := H n (by omega)
    simp only [sm]
    have e : ((n + 1 : Nat) : Int) * B = n * B + B := by
      rw [Int.natCast_add, Int.add_mul]; simp
    rw [e]
    omega
theorem sm_mul {g : Int → Int} {c : Int} : ∀ n : Nat, sm g n * c = sm (fun k => g k * c) n
  | 0 => by simp [sm]
  | n + 1 => by simp only [sm]; rw [Int.add_mul, sm_mul n]
def bitk (f k : Int) : Int := bAnd (bShr f k) 1
theorem bAnd1 (x : Int) : bAnd x 1 = 0 ∨ bAnd x 1 = 1 := by
  unfold bAnd
  have h : (Int32.ofInt x &&& Int32.ofInt 1).toBitVec = (Int32.ofInt x).toBitVec &&& 1#32 := rfl
  have h2 : (Int32.ofInt x &&& Int32.ofInt 1).toInt = ((Int32.ofInt x).toBitVec &&& 1#32).toInt := rfl
  rw [h2, BitVec.and_one_eq_setWidth_ofBool_getLsbD]
  cases (Int32.ofInt x).toBitVec.getLsbD 0
  · left; decide
  · right; decide
theorem bitk01 (f k : Int) : bitk f k = 0 ∨ bitk f k = 1 := bAnd1 _
theorem bitk_bd (f k : Int) : 0 ≤ bitk f k ∧ bitk f k ≤ 1 := by
  rcases bitk01 f k with h | h <;> rw [h] <;> decide
theorem bitk_R (f k : Int) : R32 (bitk f k) := by
  rcases bitk01 f k with h | h <;> rw [h] <;> decide
/-- memory that differs on the cells cs at most -/
def SR (cs : List Nat) (μ μ' : MM) : Prop := ∀ c, c ∉ cs → μ' c = μ c
theorem SR.rf {cs : List Nat} {μ : MM} : SR cs μ μ := fun _ _ => rfl
theorem SR.put {cs : List Nat} {μ μ' : MM} {c : Nat} {i v : Int} (h : SR cs μ μ') (hc : c ∈ cs) : SR cs μ (up μ' c i v) := fun c' hc' => by
  have hne : c' ≠ c := fun e => hc' (by rw [e]; exact hc)
  rw [up_cell hne]
  exact h c' hc'
theorem SR.trans {cs ds : List Nat} {μ μ' μ'' : MM} (h : SR cs μ μ') (h2 : SR ds μ' μ'') : SR (cs ++ ds) μ μ'' := fun c hc => by
  rw [h2 c (fun q => hc (List.mem_append_right _ q)), h c (fun q => hc (List.mem_append_left _ q))]
theorem SR.mono {cs ds : List Nat} {μ μ' : MM} (h : SR cs μ μ') (hs : ∀ c, c ∈ cs → c ∈ ds) : SR ds μ μ' := fun c hc => h c (fun q => hc (hs c q))
theorem AMet.mono {κ : KX} {d : Nat} {cy : MX} {As : List AV} {S : List SH} {μ : MM} {ν : ML} {P P' : Option AV → List SH → MM → ML → Prop} {mc ms : Nat} (h : AMet κ d cy As S μ ν P mc ms) (hp : ∀ r S μ ν, P r S μ ν → P' r S μ ν) : AMet κ d cy As S μ ν P' mc ms := by
  intro hS l
  refine MetFree.mono (h hS l) (fun _ _ q => q) (fun _ _ _ _ _ q => q) ?_
  intro a s o t _ q
  obtain ⟨⟨⟨r, S1, μ1, ν1, h1, h2, h3⟩, h4⟩, h5⟩ := q
  exact ⟨⟨⟨r, S1, μ1, ν1, h1, hp _ _ _ _ h2, h3⟩, h4⟩, h5⟩
theorem AMet.eqv {κ : KX} {d : Nat} {cy : MX} {As : List AV} {μ : MM} {ν : ML} {r : Option AV} {μ1 : MM} {ν1 : ML} {P : Option AV → MM → ML → Prop} (h : AE κ d cy As μ ν r μ1 ν1) (hp : P r μ1 ν1) : AQ κ d cy As μ ν P := AMet.mono h (fun r S μ ν q => by obtain ⟨rfl, rfl, rfl, rfl⟩ := q; exact ⟨rfl, hp⟩)
/-- one call of the law: the class, then the reference: one answer, and the relation again -/
def LawOK (Rl : MM → ML → Prop) (κ : KX) (cx cm : MX) (As : List AV) (μ : MM) (ν : ML) : Prop := ∃ P : Option AV → MM → ML → Prop, AQ κ 60 cx (aR 0 :: As) μ ν P ∧ ∀ r μ1 ν1, P r μ1 ν1 → ∃ z, r = some (aI z) ∧ R32 z ∧ AQ κ 60 cm (aR 55 :: As) μ1 ν1 (fun r' μ2 ν2 => r' = some (aI z) ∧ Rl μ2 ν2)
/-- the same where both ends are known; ν stays -/
def LawM (Rl : MM → Prop) (cs : List Nat) (κ : KX) (cx cm : MX) (As : List AV) (μ : MM) (ν : ML) : Prop := ∃ z μ1 μ2, AE κ 60 cx (aR 0 :: As) μ ν (some (aI z)) μ1 ν ∧ AE κ 60 cm (aR 55 :: As) μ1 ν (some (aI z)) μ2 ν ∧ R32 z ∧ Rl μ2 ∧ SR cs μ μ2
/-- a row of the class and its twin: the same numbers, within lo .. hi -/
def PR (c m : Nat) (n lo hi : Int) (μ : MM) : Prop := ∀ i : Int, 0 ≤ i → i < n → μ m i = μ c i ∧ lo ≤ μ c i ∧ μ c i ≤ hi
theorem PR.up2 {c m : Nat} {n lo hi : Int} {μ : MM} (h : PR c m n lo hi μ) (hcm : c ≠ m) {i v : Int} (h1 : lo ≤ v) (h2 : v ≤ hi) : PR c m n lo hi (up (up μ c i v) m i v) := by
  intro x hx0 hx1
  have g := h x hx0 hx1
  by_cases e : x = i
  · subst e
    rw [up_at, up_ne (Or.inl hcm), up_at]
    exact ⟨rfl, h1, h2⟩
  · rw [up_ne (Or.inr e), up_ne (Or.inr e), up_ne (Or.inl hcm), up_ne (Or.inr e)]
    exact g
theorem PR.fr {c m : Nat} {n lo hi : Int} {μ μ' : MM} {cs : List Nat} (h : PR c m n lo hi μ) (hs : SR cs μ μ') (hc : c ∉ cs) (hm : m ∉ cs) : PR c m n lo hi μ' := by
  intro x hx0 hx1
  rw [hs c hc, hs m hm]
  exact h x hx0 hx1
theorem SR.two {μ : MM} {a b : Nat} {i v j w : Int} : SR [a, b] μ (up (up μ a i v) b j w) := (SR.rf.put (by simp)).put (by simp)
theorem SR.sub {cs ds : List Nat} {μ μ' : MM} (h : SR cs μ μ') (hs : cs.all (fun c => decide (c ∈ ds)) = true) : SR ds μ μ' := h.mono (fun c hc => of_decide_eq_true (List.all_eq_true.mp hs c hc))
theorem up_c {μ : MM} {c c' : Nat} {i i' v : Int} (h : c' ≠ c) : up μ c i v c' i' = μ c' i' := up_ne (Or.inl h)
end
section
/-! ===== TOWNS ===== -/
def RT (μ : MM) : Prop := PR 34 63 4 0 100 μ ∧ PR 35 64 4 0 100 μ ∧ PR 36 65 6 1 50 μ ∧ PR 37 66 24 0 1000 μ
abbrev csT : List Nat := [34, 35, 36, 37, 63, 64, 65, 66]
def wgt (w : Int → Int) (f : Int) : Int := sm (fun k => bitk f k * w k) 6
def cst (a : Int → Int) (far t f : Int) : Int := sm (fun k => if bitk f k = 0 then a (t * 6 + k) else 0) 6 * far
theorem l_weightOf {κ : KX} {μ : MM} {ν : ML} {f : Int} (hf : R32 f) (n : Nat) : ∀ k : Nat, k + n = 6 → AX κ mX10_weightOf 0 (PE (some (aI (wgt (μ 36) f))) μ ν) 4 [aR 33, aI f, aI (sm (fun k => bitk f k * μ 36 k) k), aI k] [] μ ν := by
  induction n with
  | zero =>
    intro k hk
    refine aw_blk oX10_weightOf_4 (pc' := 7) (ls' := [_, _, _, _]) (st' := [_, _]) (cs := []) rfl trivial ?_
    refine aw_icmp_ge (tgt := 31) eX10_weightOf_7 (by decide) (by omega) (by omega) (fun h1 => ?_) (fun h1 => ?_)
    · first
      | (exfalso; omega; done)
      | (refine aw_blk oX10_weightOf_31 (pc' := 32) (ls' := [_, _, _, _]) (st' := [_]) (cs := []) rfl trivial ?_
         refine aw_iret eX10_weightOf_32 rfl (Nat.le_refl _) (Nat.le_refl _) ?_
         (have e : k = 6 := by omega)
         subst e
         exact pe_i rfl rfl rfl)
    · first
      | (exfalso; omega; done)
      | (refine aw_blk oX10_weightOf_10 (pc' := 4) (ls' := [_, _, _, _]) (st' := []) (cs := [(_, _)]) rfl (⟨⟨by omega, by omega⟩, trivial⟩) ?_
         skip)
  | succ n ih =>
    intro k hk
    refine aw_blk oX10_weightOf_4 (pc' := 7) (ls' := [_, _, _, _]) (st' := [_, _]) (cs := []) rfl trivial ?_
    refine aw_icmp_ge (tgt := 31) eX10_weightOf_7 (by decide) (by omega) (by omega) (fun h2 => ?_) (fun h2 => ?_)
    · first
      | (exfalso; omega; done)
      | (refine aw_blk oX10_weightOf_31 (pc' := 32) (ls' := [_, _, _, _]) (st' := [_]) (cs := []) rfl trivial ?_
         refine aw_iret eX10_weightOf_32 rfl (Nat.le_refl _) (Nat.le_refl _) ?_
         skip)
    · first
      | (exfalso; omega; done)
      | (refine aw_blk oX10_weightOf_10 (pc' := 4) (ls' := [_, _, _, _]) (st' := []) (cs := [(_, _)]) rfl (⟨⟨by omega, by omega⟩, trivial⟩) ?_
         exact ih (k + 1) (by omega))
theorem c_weightOf {κ : KX} {μ : MM} {ν : ML} {f : Int} (hf : R32 f) : AE κ 0 mX10_weightOf [aR 33, aI f] μ ν (some (aI (wgt (μ 36) f))) μ ν := by
  refine AMet.of kX10_weightOf.1 (Nat.le_of_ble_eq_true rfl) rfl ?_
  refine aw_blk oX10_weightOf_0 (pc' := 4) (ls' := [_, _, _, _]) (st' := []) (cs := []) rfl trivial ?_
  exact l_weightOf hf 6 0 rfl
theorem l_costOf {κ : KX} {μ : MM} {ν : ML} {t f : Int} (ht : 0 ≤ t ∧ t < 4) (n : Nat) : ∀ k : Nat, k + n = 6 → AX κ mX10_costOf 0 (PE (some (aI (cst (μ 37) (μ 35 t) t f))) μ ν) 5 [aR 33, aI t, aI f, aI (sm (fun k => if bitk f k = 0 then μ 37 (t * 6 + k) else 0) k), aI k] [] μ ν := by
  induction n with
  | zero =>
    intro k hk
    refine aw_blk oX10_costOf_5 (pc' := 9) (ls' := [_, _, _, _, _]) (st' := [_, _]) (cs := []) rfl trivial ?_
    refine aw_icmp_ge (tgt := 42) eX10_costOf_9 (by decide) (by first | omega | exact bitk_R _ _) (by first | omega | exact bitk_R _ _) (fun h3 => ?_) (fun h3 => ?_)
    · first
      | (exfalso; omega; done)
      | (refine aw_blk oX10_costOf_42 (pc' := 50) (ls' := [_, _, _, _, _]) (st' := [_]) (cs := [(_, _)]) rfl (⟨⟨by first | omega | exact bitk_R _ _, by first | omega | exact bitk_R _ _⟩, trivial⟩) ?_
         refine aw_iret eX10_costOf_50 rfl (Nat.le_refl _) (Nat.le_refl _) ?_
         (have e : k = 6 := by omega)
         subst e
         exact pe_i rfl rfl rfl)
    · first
      | (exfalso; omega; done)
      | (refine aw_blk oX10_costOf_12 (pc' := 18) (ls' := [_, _, _, _, _]) (st' := [_]) (cs := []) rfl trivial ?_
         refine aw_if_ne (tgt := 36) eX10_costOf_18 (by decide) (by first | omega | exact bitk_R _ _) (fun h4 => ?_) (fun h4 => ?_)
         · first
           | (exfalso; omega; done)
           | (refine aw_blk oX10_costOf_36 (pc' := 5) (ls' := [_, _, _, _, _]) (st' := []) (cs := []) rfl trivial ?_
              skip)
         · first
           | (exfalso; omega; done)
           | (refine aw_blk oX10_costOf_21 (pc' := 36) (ls' := [_, _, _, _, _]) (st' := []) (cs := [(_, _)]) rfl (⟨⟨by first | omega | exact bitk_R _ _, by first | omega | exact bitk_R _ _⟩, trivial⟩) ?_
              refine aw_blk oX10_costOf_36 (pc' := 5) (ls' := [_, _, _, _, _]) (st' := []) (cs := []) rfl trivial ?_
              skip))
  | succ n ih =>
    intro k hk
    refine aw_blk oX10_costOf_5 (pc' := 9) (ls' := [_, _, _, _, _]) (st' := [_, _]) (cs := []) rfl trivial ?_
    refine aw_icmp_ge (tgt := 42) eX10_costOf_9 (by decide) (by omega) (by omega) (fun h => ?_) (fun h => ?_)
    · exfalso; omega
    · refine aw_blk oX10_costOf_12 (pc' := 18) (ls' := [_, _, _, _, _]) (st' := [_]) (cs := []) rfl trivial ?_
      refine aw_if_ne (tgt := 36) eX10_costOf_18 (by decide) (by exact bitk_R f k) (fun h2 => ?_) (fun h2 => ?_)
      · refine aw_blk oX10_costOf_36 (pc' := 5) (ls' := [_, _, _, _, _]) (st' := []) (cs := []) rfl trivial ?_
        have := ih (k + 1) (by omega)
        simp only [sm] at this
        rw [if_neg (show ¬ bitk f k = 0 from h2), Int.add_zero] at this
        exact this
      · refine aw_blk oX10_costOf_21 (pc' := 36) (ls' := [_, _, _, _, _]) (st' := []) (cs := [(_, _)]) rfl (⟨⟨by omega, by omega⟩, trivial⟩) ?_
        refine aw_blk oX10_costOf_36 (pc' := 5) (ls' := [_, _, _, _, _]) (st' := []) (cs := []) rfl trivial ?_
        have := ih (k + 1) (by omega)
        simp only [sm] at this
        rw [if_pos (show bitk f k = 0 from h2)] at this
        exact this
theorem c_costOf {κ : KX} {μ : MM} {ν : ML} {t f : Int} (ht : 0 ≤ t ∧ t < 4) : AE κ 0 mX10_costOf [aR 33, aI t, aI f] μ ν (some (aI (cst (μ 37) (μ 35 t) t f))) μ ν := by
  refine AMet.of kX10_costOf.1 (Nat.le_of_ble_eq_true rfl) rfl ?_
  refine aw_blk oX10_costOf_0 (pc' := 5) (ls' := [_, _, _, _, _]) (st' := []) (cs := []) rfl trivial ?_
  exact l_costOf ht 6 0 rfl
theorem c_changeRoom {κ : KX} {μ : MM} {ν : ML} {t v : Int} (ht : 0 ≤ t ∧ t < 4) : AE κ 0 mX10_changeRoom [aR 33, aI t, aI v] μ ν (some (aI (μ 34 t))) (up μ 34 t v) ν := by
  refine AMet.of kX10_changeRoom.1 (Nat.le_of_ble_eq_true rfl) rfl ?_
  refine aw_blk oX10_changeRoom_0 (pc' := 15) (ls' := [_, _, _, _]) (st' := [_]) (cs := [(_, _), (_, _)]) rfl (⟨⟨by omega, by omega⟩, ⟨by omega, by omega⟩, trivial⟩) ?_
  refine aw_iret eX10_changeRoom_15 rfl (Nat.le_refl _) (Nat.le_refl _) ?_
  exact pe_i rfl rfl rfl
theorem c_changeFar {κ : KX} {μ : MM} {ν : ML} {t v : Int} (ht : 0 ≤ t ∧ t < 4) : AE κ 0 mX10_changeFar [aR 33, aI t, aI v] μ ν (some (aI (μ 35 t))) (up μ 35 t v) ν := by
  refine AMet.of kX10_changeFar.1 (Nat.le_of_ble_eq_true rfl) rfl ?_
  refine aw_blk oX10_changeFar_0 (pc' := 15) (ls' := [_, _, _, _]) (st' := [_]) (cs := [(_, _), (_, _)]) rfl (⟨⟨by omega, by omega⟩, ⟨by omega, by omega⟩, trivial⟩) ?_
  refine aw_iret eX10_changeFar_15 rfl (Nat.le_refl _) (Nat.le_refl _) ?_
  exact pe_i rfl rfl rfl
theorem c_changeWeight {κ : KX} {μ : MM} {ν : ML} {t v : Int} (ht : 0 ≤ t ∧ t < 6) : AE κ 0 mX10_changeWeight [aR 33, aI t, aI v] μ ν (some (aI (μ 36 t))) (up μ 36 t v) ν := by
  refine AMet.of kX10_changeWeight.1 (Nat.le_of_ble_eq_true rfl) rfl ?_
  refine aw_blk oX10_changeWeight_0 (pc' := 15) (ls' := [_, _, _, _]) (st' := [_]) (cs := [(_, _), (_, _)]) rfl (⟨⟨by omega, by omega⟩, ⟨by omega, by omega⟩, trivial⟩) ?_
  refine aw_iret eX10_changeWeight_15 rfl (Nat.le_refl _) (Nat.le_refl _) ?_
  exact pe_i rfl rfl rfl
theorem c_changeAsks {κ : KX} {μ : MM} {ν : ML} {t f v : Int} (ht : 0 ≤ t ∧ t < 4) (hf : 0 ≤ f ∧ f < 6) : AE κ 0 mX10_changeAsks [aR 33, aI t, aI f, aI v] μ ν (some (aI (μ 37 (t * 6 + f)))) (up μ 37 (t * 6 + f) v) ν := by
  refine AMet.of kX10_changeAsks.1 (Nat.le_of_ble_eq_true rfl) rfl ?_
  refine aw_blk oX10_changeAsks_0 (pc' := 27) (ls' := [_, _, _, _, _]) (st' := [_]) (cs := [(_, _), (_, _)]) rfl (⟨⟨by omega, by omega⟩, ⟨by omega, by omega⟩, trivial⟩) ?_
  refine aw_iret eX10_changeAsks_27 rfl (Nat.le_refl _) (Nat.le_refl _) ?_
  exact pe_i rfl rfl rfl
theorem law_town {κ : KX} {μ : MM} {ν : ML} {t w v : Int} (h : RT μ) (ht : R32 t) (hw : R32 w) (hv : R32 v) : LawM RT csT κ mX11_town mX12_town [aI t, aI w, aI v] μ ν := by
  obtain ⟨h1, h2, h3, h4⟩ := id h
  by_cases c1 : 0 ≤ t ∧ t ≤ 3
  · by_cases c2 : (0 ≤ w ∧ w ≤ 1) ∧ (0 ≤ v ∧ v ≤ 100)
    · have g1 := h1 t (by omega) (by omega)
      have g2 := h2 t (by omega) (by omega)
      by_cases c3 : w = 0
      · refine ⟨μ 34 t, up μ 34 t v, up (up μ 34 t v) 63 t v, ?_, ?_, by omega, ?_, SR.two.sub (by decide)⟩
        · refine AMet.of kX11_town.1 (Nat.le_of_ble_eq_true rfl) rfl ?_
          refine aw_blk oX11_town_0 (pc' := 3) (ls' := [_, _, _, _]) (st' := [_, _, _]) (cs := []) rfl trivial ?_
          refine aw_ciS (rest := []) (c_X11_between (by omega) (by omega) (by omega)) kX11_between eX11_town_3 lX11_town_3 rfl rfl (Nat.le_of_ble_eq_true rfl) ⟨Nat.le_of_ble_eq_true rfl, Nat.le_of_ble_eq_true rfl⟩ ⟨Nat.le_refl _, Nat.le_refl _⟩ ?_
          refine aw_if_ne (tgt := 11) eX11_town_6 (by decide) bt_r (fun hh => have h5 := bt1 hh; ?_) (fun hh => have h5 := bt0 hh; ?_)
          · first
            | (exfalso; omega; done)
            | (refine aw_blk oX11_town_11 (pc' := 14) (ls' := [_, _, _, _]) (st' := [_, _, _]) (cs := []) rfl trivial ?_
               refine aw_ciS (rest := []) (c_X11_between (by omega) (by omega) (by omega)) kX11_between eX11_town_14 lX11_town_14 rfl rfl (Nat.le_of_ble_eq_true rfl) ⟨Nat.le_of_ble_eq_true rfl, Nat.le_of_ble_eq_true rfl⟩ ⟨Nat.le_refl _, Nat.le_refl _⟩ ?_
               refine aw_if_eq (tgt := 30) eX11_town_17 (by decide) bt_r (fun hh => have h6 := bt0 hh; ?_) (fun hh => have h6 := bt1 hh; ?_)
               · first
                 | (exfalso; omega; done)
                 | (refine aw_blk oX11_town_30 (pc' := 32) (ls' := [_, _, _, _]) (st' := [_]) (cs := []) rfl trivial ?_
                    refine aw_iret eX11_town_32 rfl (Nat.le_refl _) (Nat.le_refl _) ?_
                    exact pe_i rfl rfl rfl)
               · first
                 | (exfalso; omega; done)
                 | (refine aw_blk oX11_town_20 (pc' := 24) (ls' := [_, _, _, _]) (st' := [_, _, _]) (cs := []) rfl trivial ?_
                    refine aw_ciS (rest := []) (c_X11_between (by omega) (by omega) (by omega)) kX11_between eX11_town_24 lX11_town_24 rfl rfl (Nat.le_of_ble_eq_true rfl) ⟨Nat.le_of_ble_eq_true rfl, Nat.le_of_ble_eq_true rfl⟩ ⟨Nat.le_refl _, Nat.le_refl _⟩ ?_
                    refine aw_if_ne (tgt := 33) eX11_town_27 (by decide) bt_r (fun hh => have h7 := bt1 hh; ?_) (fun hh => have h7 := bt0 hh; ?_)
                    · first
                      | (exfalso; omega; done)
                      | (refine aw_blk oX11_town_33 (pc' := 34) (ls' := [_, _, _, _]) (st' := [_]) (cs := []) rfl trivial ?_
                         refine aw_if_ne (tgt := 49) eX11_town_34 (by decide) (by omega) (fun h8 => ?_) (fun h8 => ?_)
                         · first
                           | (exfalso; omega; done)
                           | (refine aw_blk oX11_town_49 (pc' := 55) (ls' := [_, _, _, _]) (st' := [_, _, _]) (cs := []) rfl trivial ?_
                              refine aw_ciV (rest := []) (c_changeFar (by omega)) kX10_changeFar eX11_town_55 lX11_town_55 rfl rfl rfl rfl (Nat.le_of_ble_eq_true rfl) ⟨Nat.le_of_ble_eq_true rfl, Nat.le_of_ble_eq_true rfl⟩ ⟨Nat.le_refl _, Nat.le_refl _⟩ ?_
                              refine aw_iret eX11_town_58 rfl (Nat.le_refl _) (Nat.le_refl _) ?_
                              exact pe_i rfl rfl rfl)
                         · first
                           | (exfalso; omega; done)
                           | (refine aw_blk oX11_town_37 (pc' := 43) (ls' := [_, _, _, _]) (st' := [_, _, _]) (cs := []) rfl trivial ?_
                              refine aw_ciV (rest := []) (c_changeRoom (by omega)) kX10_changeRoom eX11_town_43 lX11_town_43 rfl rfl rfl rfl (Nat.le_of_ble_eq_true rfl) ⟨Nat.le_of_ble_eq_true rfl, Nat.le_of_ble_eq_true rfl⟩ ⟨Nat.le_refl _, Nat.le_refl _⟩ ?_
                              refine aw_blk oX11_town_46 (pc' := 58) (ls' := [_, _, _, _]) (st' := [_]) (cs := []) rfl trivial ?_
                              refine aw_iret eX11_town_58 rfl (Nat.le_refl _) (Nat.le_refl _) ?_
                              exact pe_i rfl rfl rfl))
                    · first
                      | (exfalso; omega; done)
                      | (refine aw_blk oX11_town_30 (pc' := 32) (ls' := [_, _, _, _]) (st' := [_]) (cs := []) rfl trivial ?_
                         refine aw_iret eX11_town_32 rfl (Nat.le_refl _) (Nat.le_refl _) ?_
                         exact pe_i rfl rfl rfl)))
          · first
            | (exfalso; omega; done)
            | (refine aw_blk oX11_town_9 (pc' := 10) (ls' := [_, _, _, _]) (st' := [_]) (cs := []) rfl trivial ?_
               refine aw_iret eX11_town_10 rfl (Nat.le_refl _) (Nat.le_refl _) ?_
               exact pe_i rfl rfl rfl)
        · refine AMet.of kX12_town.1 (Nat.le_of_ble_eq_true rfl) rfl ?_
          refine aw_blk oX12_town_0 (pc' := 1) (ls' := [_, _, _, _, _]) (st' := [_]) (cs := []) rfl trivial ?_
          refine aw_ciS (rest := []) (c_X12_isTown (by omega)) kX12_isTown eX12_town_1 lX12_town_1 rfl rfl (Nat.le_of_ble_eq_true rfl) ⟨Nat.le_of_ble_eq_true rfl, Nat.le_of_ble_eq_true rfl⟩ ⟨Nat.le_refl _, Nat.le_refl _⟩ ?_
          refine aw_if_ne (tgt := 9) eX12_town_4 (by decide) bt_r (fun hh => have h9 := bt1 hh; ?_) (fun hh => have h9 := bt0 hh; ?_)
          · first
            | (exfalso; omega; done)
            | (refine aw_blk oX12_town_9 (pc' := 12) (ls' := [_, _, _, _, _]) (st' := [_, _, _]) (cs := []) rfl trivial ?_
               refine aw_ciS (rest := []) (c_X12_in (by omega) (by omega) (by omega)) kX12_in eX12_town_12 lX12_town_12 rfl rfl (Nat.le_of_ble_eq_true rfl) ⟨Nat.le_of_ble_eq_true rfl, Nat.le_of_ble_eq_true rfl⟩ ⟨Nat.le_refl _, Nat.le_refl _⟩ ?_
               refine aw_if_eq (tgt := 28) eX12_town_15 (by decide) bt_r (fun hh => have h10 := bt0 hh; ?_) (fun hh => have h10 := bt1 hh; ?_)
               · first
                 | (exfalso; omega; done)
                 | (refine aw_blk oX12_town_28 (pc' := 30) (ls' := [_, _, _, _, _]) (st' := [_]) (cs := []) rfl trivial ?_
                    refine aw_iret eX12_town_30 rfl (Nat.le_refl _) (Nat.le_refl _) ?_
                    exact pe_i (by rw [up_c (by decide)]; exact g1.1) rfl rfl)
               · first
                 | (exfalso; omega; done)
                 | (refine aw_blk oX12_town_18 (pc' := 22) (ls' := [_, _, _, _, _]) (st' := [_, _, _]) (cs := []) rfl trivial ?_
                    refine aw_ciS (rest := []) (c_X12_in (by omega) (by omega) (by omega)) kX12_in eX12_town_22 lX12_town_22 rfl rfl (Nat.le_of_ble_eq_true rfl) ⟨Nat.le_of_ble_eq_true rfl, Nat.le_of_ble_eq_true rfl⟩ ⟨Nat.le_refl _, Nat.le_refl _⟩ ?_
                    refine aw_if_ne (tgt := 31) eX12_town_25 (by decide) bt_r (fun hh => have h11 := bt1 hh; ?_) (fun hh => have h11 := bt0 hh; ?_)
                    · first
                      | (exfalso; omega; done)
                      | (refine aw_blk oX12_town_31 (pc' := 32) (ls' := [_, _, _, _, _]) (st' := [_]) (cs := []) rfl trivial ?_
                         refine aw_if_ne (tgt := 44) eX12_town_32 (by decide) (by omega) (fun h12 => ?_) (fun h12 => ?_)
                         · first
                           | (exfalso; omega; done)
                           | (refine aw_blk oX12_town_44 (pc' := 50) (ls' := [_, _, _, _, _]) (st' := [_]) (cs := [(_, _)]) rfl (⟨⟨by omega, by omega⟩, trivial⟩) ?_
                              refine aw_blk oX12_town_50 (pc' := 53) (ls' := [_, _, _, _, _]) (st' := [_]) (cs := []) rfl trivial ?_
                              refine aw_if_ne (tgt := 66) eX12_town_53 (by decide) (by omega) (fun h13 => ?_) (fun h13 => ?_)
                              · first
                                | (exfalso; omega; done)
                                | (refine aw_blk oX12_town_66 (pc' := 73) (ls' := [_, _, _, _, _]) (st' := []) (cs := [(_, _)]) rfl (⟨⟨by omega, by omega⟩, trivial⟩) ?_
                                   refine aw_blk oX12_town_73 (pc' := 75) (ls' := [_, _, _, _, _]) (st' := [_]) (cs := []) rfl trivial ?_
                                   refine aw_iret eX12_town_75 rfl (Nat.le_refl _) (Nat.le_refl _) ?_
                                   exact pe_i (by rw [up_c (by decide)]; exact g1.1) rfl rfl)
                              · first
                                | (exfalso; omega; done)
                                | (refine aw_blk oX12_town_56 (pc' := 73) (ls' := [_, _, _, _, _]) (st' := []) (cs := [(_, _)]) rfl (⟨⟨by omega, by omega⟩, trivial⟩) ?_
                                   refine aw_blk oX12_town_73 (pc' := 75) (ls' := [_, _, _, _, _]) (st' := [_]) (cs := []) rfl trivial ?_
                                   refine aw_iret eX12_town_75 rfl (Nat.le_refl _) (Nat.le_refl _) ?_
                                   exact pe_i (by rw [up_c (by decide)]; exact g1.1) rfl rfl))
                         · first
                           | (exfalso; omega; done)
                           | (refine aw_blk oX12_town_35 (pc' := 50) (ls' := [_, _, _, _, _]) (st' := [_]) (cs := [(_, _)]) rfl (⟨⟨by omega, by omega⟩, trivial⟩) ?_
                              refine aw_blk oX12_town_50 (pc' := 53) (ls' := [_, _, _, _, _]) (st' := [_]) (cs := []) rfl trivial ?_
                              refine aw_if_ne (tgt := 66) eX12_town_53 (by decide) (by omega) (fun h14 => ?_) (fun h14 => ?_)
                              · first
                                | (exfalso; omega; done)
                                | (refine aw_blk oX12_town_66 (pc' := 73) (ls' := [_, _, _, _, _]) (st' := []) (cs := [(_, _)]) rfl (⟨⟨by omega, by omega⟩, trivial⟩) ?_
                                   refine aw_blk oX12_town_73 (pc' := 75) (ls' := [_, _, _, _, _]) (st' := [_]) (cs := []) rfl trivial ?_
                                   refine aw_iret eX12_town_75 rfl (Nat.le_refl _) (Nat.le_refl _) ?_
                                   exact pe_i (by rw [up_c (by decide)]; exact g1.1) rfl rfl)
                              · first
                                | (exfalso; omega; done)
                                | (refine aw_blk oX12_town_56 (pc' := 73) (ls' := [_, _, _, _, _]) (st' := []) (cs := [(_, _)]) rfl (⟨⟨by omega, by omega⟩, trivial⟩) ?_
                                   refine aw_blk oX12_town_73 (pc' := 75) (ls' := [_, _, _, _, _]) (st' := [_]) (cs := []) rfl trivial ?_
                                   refine aw_iret eX12_town_75 rfl (Nat.le_refl _) (Nat.le_refl _) ?_
                                   exact pe_i (by rw [up_c (by decide)]; exact g1.1) rfl rfl)))
                    · first
                      | (exfalso; omega; done)
                      | (refine aw_blk oX12_town_28 (pc' := 30) (ls' := [_, _, _, _, _]) (st' := [_]) (cs := []) rfl trivial ?_
                         refine aw_iret eX12_town_30 rfl (Nat.le_refl _) (Nat.le_refl _) ?_
                         exact pe_i (by rw [up_c (by decide)]; exact g1.1) rfl rfl)))
          · first
            | (exfalso; omega; done)
            | (refine aw_blk oX12_town_7 (pc' := 8) (ls' := [_, _, _, _, _]) (st' := [_]) (cs := []) rfl trivial ?_
               refine aw_iret eX12_town_8 rfl (Nat.le_refl _) (Nat.le_refl _) ?_
               exact pe_i (by rw [up_c (by decide)]; exact g1.1) rfl rfl)
        exact ⟨h1.up2 (by decide) c2.2.1 c2.2.2, h2.fr SR.two (by decide) (by decide), h3.fr SR.two (by decide) (by decide), h4.fr SR.two (by decide) (by decide)⟩
      · refine ⟨μ 35 t, up μ 35 t v, up (up μ 35 t v) 64 t v, ?_, ?_, by omega, ?_, SR.two.sub (by decide)⟩
        · refine AMet.of kX11_town.1 (Nat.le_of_ble_eq_true rfl) rfl ?_
          refine aw_blk oX11_town_0 (pc' := 3) (ls' := [_, _, _, _]) (st' := [_, _, _]) (cs := []) rfl trivial ?_
          refine aw_ciS (rest := []) (c_X11_between (by omega) (by omega) (by omega)) kX11_between eX11_town_3 lX11_town_3 rfl rfl (Nat.le_of_ble_eq_true rfl) ⟨Nat.le_of_ble_eq_true rfl, Nat.le_of_ble_eq_true rfl⟩ ⟨Nat.le_refl _, Nat.le_refl _⟩ ?_
          refine aw_if_ne (tgt := 11) eX11_town_6 (by decide) bt_r (fun hh => have h15 := bt1 hh; ?_) (fun hh => have h15 := bt0 hh; ?_)
          · first
            | (exfalso; omega; done)
            | (refine aw_blk oX11_town_11 (pc' := 14) (ls' := [_, _, _, _]) (st' := [_, _, _]) (cs := []) rfl trivial ?_
               refine aw_ciS (rest := []) (c_X11_between (by omega) (by omega) (by omega)) kX11_between eX11_town_14 lX11_town_14 rfl rfl (Nat.le_of_ble_eq_true rfl) ⟨Nat.le_of_ble_eq_true rfl, Nat.le_of_ble_eq_true rfl⟩ ⟨Nat.le_refl _, Nat.le_refl _⟩ ?_
               refine aw_if_eq (tgt := 30) eX11_town_17 (by decide) bt_r (fun hh => have h16 := bt0 hh; ?_) (fun hh => have h16 := bt1 hh; ?_)
               · first
                 | (exfalso; omega; done)
                 | (refine aw_blk oX11_town_30 (pc' := 32) (ls' := [_, _, _, _]) (st' := [_]) (cs := []) rfl trivial ?_
                    refine aw_iret eX11_town_32 rfl (Nat.le_refl _) (Nat.le_refl _) ?_
                    exact pe_i rfl rfl rfl)
               · first
                 | (exfalso; omega; done)
                 | (refine aw_blk oX11_town_20 (pc' := 24) (ls' := [_, _, _, _]) (st' := [_, _, _]) (cs := []) rfl trivial ?_
                    refine aw_ciS (rest := []) (c_X11_between (by omega) (by omega) (by omega)) kX11_between eX11_town_24 lX11_town_24 rfl rfl (Nat.le_of_ble_eq_true rfl) ⟨Nat.le_of_ble_eq_true rfl, Nat.le_of_ble_eq_true rfl⟩ ⟨Nat.le_refl _, Nat.le_refl _⟩ ?_
                    refine aw_if_ne (tgt := 33) eX11_town_27 (by decide) bt_r (fun hh => have h17 := bt1 hh; ?_) (fun hh => have h17 := bt0 hh; ?_)
                    · first
                      | (exfalso; omega; done)
                      | (refine aw_blk oX11_town_33 (pc' := 34) (ls' := [_, _, _, _]) (st' := [_]) (cs := []) rfl trivial ?_
                         refine aw_if_ne (tgt := 49) eX11_town_34 (by decide) (by omega) (fun h18 => ?_) (fun h18 => ?_)
                         · first
                           | (exfalso; omega; done)
                           | (refine aw_blk oX11_town_49 (pc' := 55) (ls' := [_, _, _, _]) (st' := [_, _, _]) (cs := []) rfl trivial ?_
                              refine aw_ciV (rest := []) (c_changeFar (by omega)) kX10_changeFar eX11_town_55 lX11_town_55 rfl rfl rfl rfl (Nat.le_of_ble_eq_true rfl) ⟨Nat.le_of_ble_eq_true rfl, Nat.le_of_ble_eq_true rfl⟩ ⟨Nat.le_refl _, Nat.le_refl _⟩ ?_
                              refine aw_iret eX11_town_58 rfl (Nat.le_refl _) (Nat.le_refl _) ?_
                              exact pe_i rfl rfl rfl)
                         · first
                           | (exfalso; omega; done)
                           | (refine aw_blk oX11_town_37 (pc' := 43) (ls' := [_, _, _, _]) (st' := [_, _, _]) (cs := []) rfl trivial ?_
                              refine aw_ciV (rest := []) (c_changeRoom (by omega)) kX10_changeRoom eX11_town_43 lX11_town_43 rfl rfl rfl rfl (Nat.le_of_ble_eq_true rfl) ⟨Nat.le_of_ble_eq_true rfl, Nat.le_of_ble_eq_true rfl⟩ ⟨Nat.le_refl _, Nat.le_refl _⟩ ?_
                              refine aw_blk oX11_town_46 (pc' := 58) (ls' := [_, _, _, _]) (st' := [_]) (cs := []) rfl trivial ?_
                              refine aw_iret eX11_town_58 rfl (Nat.le_refl _) (Nat.le_refl _) ?_
                              exact pe_i rfl rfl rfl))
                    · first
                      | (exfalso; omega; done)
                      | (refine aw_blk oX11_town_30 (pc' := 32) (ls' := [_, _, _, _]) (st' := [_]) (cs := []) rfl trivial ?_
                         refine aw_iret eX11_town_32 rfl (Nat.le_refl _) (Nat.le_refl _) ?_
                         exact pe_i rfl rfl rfl)))
          · first
            | (exfalso; omega; done)
            | (refine aw_blk oX11_town_9 (pc' := 10) (ls' := [_, _, _, _]) (st' := [_]) (cs := []) rfl trivial ?_
               refine aw_iret eX11_town_10 rfl (Nat.le_refl _) (Nat.le_refl _) ?_
               exact pe_i rfl rfl rfl)
        · refine AMet.of kX12_town.1 (Nat.le_of_ble_eq_true rfl) rfl ?_
          refine aw_blk oX12_town_0 (pc' := 1) (ls' := [_, _, _, _, _]) (st' := [_]) (cs := []) rfl trivial ?_
          refine aw_ciS (rest := []) (c_X12_isTown (by omega)) kX12_isTown eX12_town_1 lX12_town_1 rfl rfl (Nat.le_of_ble_eq_true rfl) ⟨Nat.le_of_ble_eq_true rfl, Nat.le_of_ble_eq_true rfl⟩ ⟨Nat.le_refl _, Nat.le_refl _⟩ ?_
          refine aw_if_ne (tgt := 9) eX12_town_4 (by decide) bt_r (fun hh => have h19 := bt1 hh; ?_) (fun hh => have h19 := bt0 hh; ?_)
          · first
            | (exfalso; omega; done)
            | (refine aw_blk oX12_town_9 (pc' := 12) (ls' := [_, _, _, _, _]) (st' := [_, _, _]) (cs := []) rfl trivial ?_
               refine aw_ciS (rest := []) (c_X12_in (by omega) (by omega) (by omega)) kX12_in eX12_town_12 lX12_town_12 rfl rfl (Nat.le_of_ble_eq_true rfl) ⟨Nat.le_of_ble_eq_true rfl, Nat.le_of_ble_eq_true rfl⟩ ⟨Nat.le_refl _, Nat.le_refl _⟩ ?_
               refine aw_if_eq (tgt := 28) eX12_town_15 (by decide) bt_r (fun hh => have h20 := bt0 hh; ?_) (fun hh => have h20 := bt1 hh; ?_)
               · first
                 | (exfalso; omega; done)
                 | (refine aw_blk oX12_town_28 (pc' := 30) (ls' := [_, _, _, _, _]) (st' := [_]) (cs := []) rfl trivial ?_
                    refine aw_iret eX12_town_30 rfl (Nat.le_refl _) (Nat.le_refl _) ?_
                    exact pe_i (by rw [up_c (by decide)]; exact g2.1) rfl rfl)
               · first
                 | (exfalso; omega; done)
                 | (refine aw_blk oX12_town_18 (pc' := 22) (ls' := [_, _, _, _, _]) (st' := [_, _, _]) (cs := []) rfl trivial ?_
                    refine aw_ciS (rest := []) (c_X12_in (by omega) (by omega) (by omega)) kX12_in eX12_town_22 lX12_town_22 rfl rfl (Nat.le_of_ble_eq_true rfl) ⟨Nat.le_of_ble_eq_true rfl, Nat.le_of_ble_eq_true rfl⟩ ⟨Nat.le_refl _, Nat.le_refl _⟩ ?_
                    refine aw_if_ne (tgt := 31) eX12_town_25 (by decide) bt_r (fun hh => have h21 := bt1 hh; ?_) (fun hh => have h21 := bt0 hh; ?_)
                    · first
                      | (exfalso; omega; done)
                      | (refine aw_blk oX12_town_31 (pc' := 32) (ls' := [_, _, _, _, _]) (st' := [_]) (cs := []) rfl trivial ?_
                         refine aw_if_ne (tgt := 44) eX12_town_32 (by decide) (by omega) (fun h22 => ?_) (fun h22 => ?_)
                         · first
                           | (exfalso; omega; done)
                           | (refine aw_blk oX12_town_44 (pc' := 50) (ls' := [_, _, _, _, _]) (st' := [_]) (cs := [(_, _)]) rfl (⟨⟨by omega, by omega⟩, trivial⟩) ?_
                              refine aw_blk oX12_town_50 (pc' := 53) (ls' := [_, _, _, _, _]) (st' := [_]) (cs := []) rfl trivial ?_
                              refine aw_if_ne (tgt := 66) eX12_town_53 (by decide) (by omega) (fun h23 => ?_) (fun h23 => ?_)
                              · first
                                | (exfalso; omega; done)
                                | (refine aw_blk oX12_town_66 (pc' := 73) (ls' := [_, _, _, _, _]) (st' := []) (cs := [(_, _)]) rfl (⟨⟨by omega, by omega⟩, trivial⟩) ?_
                                   refine aw_blk oX12_town_73 (pc' := 75) (ls' := [_, _, _, _, _]) (st' := [_]) (cs := []) rfl trivial ?_
                                   refine aw_iret eX12_town_75 rfl (Nat.le_refl _) (Nat.le_refl _) ?_
                                   exact pe_i (by rw [up_c (by decide)]; exact g2.1) rfl rfl)
                              · first
                                | (exfalso; omega; done)
                                | (refine aw_blk oX12_town_56 (pc' := 73) (ls' := [_, _, _, _, _]) (st' := []) (cs := [(_, _)]) rfl (⟨⟨by omega, by omega⟩, trivial⟩) ?_
                                   refine aw_blk oX12_town_73 (pc' := 75) (ls' := [_, _, _, _, _]) (st' := [_]) (cs := []) rfl trivial ?_
                                   refine aw_iret eX12_town_75 rfl (Nat.le_refl _) (Nat.le_refl _) ?_
                                   exact pe_i (by rw [up_c (by decide)]; exact g2.1) rfl rfl))
                         · first
                           | (exfalso; omega; done)
                           | (refine aw_blk oX12_town_35 (pc' := 50) (ls' := [_, _, _, _, _]) (st' := [_]) (cs := [(_, _)]) rfl (⟨⟨by omega, by omega⟩, trivial⟩) ?_
                              refine aw_blk oX12_town_50 (pc' := 53) (ls' := [_, _, _, _, _]) (st' := [_]) (cs := []) rfl trivial ?_
                              refine aw_if_ne (tgt := 66) eX12_town_53 (by decide) (by omega) (fun h24 => ?_) (fun h24 => ?_)
                              · first
                                | (exfalso; omega; done)
                                | (refine aw_blk oX12_town_66 (pc' := 73) (ls' := [_, _, _, _, _]) (st' := []) (cs := [(_, _)]) rfl (⟨⟨by omega, by omega⟩, trivial⟩) ?_
                                   refine aw_blk oX12_town_73 (pc' := 75) (ls' := [_, _, _, _, _]) (st' := [_]) (cs := []) rfl trivial ?_
                                   refine aw_iret eX12_town_75 rfl (Nat.le_refl _) (Nat.le_refl _) ?_
                                   exact pe_i (by rw [up_c (by decide)]; exact g2.1) rfl rfl)
                              · first
                                | (exfalso; omega; done)
                                | (refine aw_blk oX12_town_56 (pc' := 73) (ls' := [_, _, _, _, _]) (st' := []) (cs := [(_, _)]) rfl (⟨⟨by omega, by omega⟩, trivial⟩) ?_
                                   refine aw_blk oX12_town_73 (pc' := 75) (ls' := [_, _, _, _, _]) (st' := [_]) (cs := []) rfl trivial ?_
                                   refine aw_iret eX12_town_75 rfl (Nat.le_refl _) (Nat.le_refl _) ?_
                                   exact pe_i (by rw [up_c (by decide)]; exact g2.1) rfl rfl)))
                    · first
                      | (exfalso; omega; done)
                      | (refine aw_blk oX12_town_28 (pc' := 30) (ls' := [_, _, _, _, _]) (st' := [_]) (cs := []) rfl trivial ?_
                         refine aw_iret eX12_town_30 rfl (Nat.le_refl _) (Nat.le_refl _) ?_
                         exact pe_i (by rw [up_c (by decide)]; exact g2.1) rfl rfl)))
          · first
            | (exfalso; omega; done)
            | (refine aw_blk oX12_town_7 (pc' := 8) (ls' := [_, _, _, _, _]) (st' := [_]) (cs := []) rfl trivial ?_
               refine aw_iret eX12_town_8 rfl (Nat.le_refl _) (Nat.le_refl _) ?_
               exact pe_i (by rw [up_c (by decide)]; exact g2.1) rfl rfl)
        exact ⟨h1.fr SR.two (by decide) (by decide), h2.up2 (by decide) c2.2.1 c2.2.2, h3.fr SR.two (by decide) (by decide), h4.fr SR.two (by decide) (by decide)⟩
    · refine ⟨-2, μ, μ, ?_, ?_, by decide, h, SR.rf⟩
      · refine AMet.of kX11_town.1 (Nat.le_of_ble_eq_true rfl) rfl ?_
        refine aw_blk oX11_town_0 (pc' := 3) (ls' := [_, _, _, _]) (st' := [_, _, _]) (cs := []) rfl trivial ?_
        refine aw_ciS (rest := []) (c_X11_between (by omega) (by omega) (by omega)) kX11_between eX11_town_3 lX11_town_3 rfl rfl (Nat.le_of_ble_eq_true rfl) ⟨Nat.le_of_ble_eq_true rfl, Nat.le_of_ble_eq_true rfl⟩ ⟨Nat.le_refl _, Nat.le_refl _⟩ ?_
        refine aw_if_ne (tgt := 11) eX11_town_6 (by decide) bt_r (fun hh => have h25 := bt1 hh; ?_) (fun hh => have h25 := bt0 hh; ?_)
        · first
          | (exfalso; omega; done)
          | (refine aw_blk oX11_town_11 (pc' := 14) (ls' := [_, _, _, _]) (st' := [_, _, _]) (cs := []) rfl trivial ?_
             refine aw_ciS (rest := []) (c_X11_between (by omega) (by omega) (by omega)) kX11_between eX11_town_14 lX11_town_14 rfl rfl (Nat.le_of_ble_eq_true rfl) ⟨Nat.le_of_ble_eq_true rfl, Nat.le_of_ble_eq_true rfl⟩ ⟨Nat.le_refl _, Nat.le_refl _⟩ ?_
             refine aw_if_eq (tgt := 30) eX11_town_17 (by decide) bt_r (fun hh => have h26 := bt0 hh; ?_) (fun hh => have h26 := bt1 hh; ?_)
             · first
               | (exfalso; omega; done)
               | (refine aw_blk oX11_town_30 (pc' := 32) (ls' := [_, _, _, _]) (st' := [_]) (cs := []) rfl trivial ?_
                  refine aw_iret eX11_town_32 rfl (Nat.le_refl _) (Nat.le_refl _) ?_
                  exact pe_i rfl rfl rfl)
             · first
               | (exfalso; omega; done)
               | (refine aw_blk oX11_town_20 (pc' := 24) (ls' := [_, _, _, _]) (st' := [_, _, _]) (cs := []) rfl trivial ?_
                  refine aw_ciS (rest := []) (c_X11_between (by omega) (by omega) (by omega)) kX11_between eX11_town_24 lX11_town_24 rfl rfl (Nat.le_of_ble_eq_true rfl) ⟨Nat.le_of_ble_eq_true rfl, Nat.le_of_ble_eq_true rfl⟩ ⟨Nat.le_refl _, Nat.le_refl _⟩ ?_
                  refine aw_if_ne (tgt := 33) eX11_town_27 (by decide) bt_r (fun hh => have h27 := bt1 hh; ?_) (fun hh => have h27 := bt0 hh; ?_)
                  · first
                    | (exfalso; omega; done)
                    | (refine aw_blk oX11_town_33 (pc' := 34) (ls' := [_, _, _, _]) (st' := [_]) (cs := []) rfl trivial ?_
                       refine aw_if_ne (tgt := 49) eX11_town_34 (by decide) (by omega) (fun h28 => ?_) (fun h28 => ?_)
                       · first
                         | (exfalso; omega; done)
                         | (refine aw_blk oX11_town_49 (pc' := 55) (ls' := [_, _, _, _]) (st' := [_, _, _]) (cs := []) rfl trivial ?_
                            refine aw_ciV (rest := []) (c_changeFar (by omega)) kX10_changeFar eX11_town_55 lX11_town_55 rfl rfl rfl rfl (Nat.le_of_ble_eq_true rfl) ⟨Nat.le_of_ble_eq_true rfl, Nat.le_of_ble_eq_true rfl⟩ ⟨Nat.le_refl _, Nat.le_refl _⟩ ?_
                            refine aw_iret eX11_town_58 rfl (Nat.le_refl _) (Nat.le_refl _) ?_
                            exact pe_i rfl rfl rfl)
                       · first
                         | (exfalso; omega; done)
                         | (refine aw_blk oX11_town_37 (pc' := 43) (ls' := [_, _, _, _]) (st' := [_, _, _]) (cs := []) rfl trivial ?_
                            refine aw_ciV (rest := []) (c_changeRoom (by omega)) kX10_changeRoom eX11_town_43 lX11_town_43 rfl rfl rfl rfl (Nat.le_of_ble_eq_true rfl) ⟨Nat.le_of_ble_eq_true rfl, Nat.le_of_ble_eq_true rfl⟩ ⟨Nat.le_refl _, Nat.le_refl _⟩ ?_
                            refine aw_blk oX11_town_46 (pc' := 58) (ls' := [_, _, _, _]) (st' := [_]) (cs := []) rfl trivial ?_
                            refine aw_iret eX11_town_58 rfl (Nat.le_refl _) (Nat.le_refl _) ?_
                            exact pe_i rfl rfl rfl))
                  · first
                    | (exfalso; omega; done)
                    | (refine aw_blk oX11_town_30 (pc' := 32) (ls' := [_, _, _, _]) (st' := [_]) (cs := []) rfl trivial ?_
                       refine aw_iret eX11_town_32 rfl (Nat.le_refl _) (Nat.le_refl _) ?_
                       exact pe_i rfl rfl rfl)))
        · first
          | (exfalso; omega; done)
          | (refine aw_blk oX11_town_9 (pc' := 10) (ls' := [_, _, _, _]) (st' := [_]) (cs := []) rfl trivial ?_
             refine aw_iret eX11_town_10 rfl (Nat.le_refl _) (Nat.le_refl _) ?_
             exact pe_i rfl rfl rfl)
      · refine AMet.of kX12_town.1 (Nat.le_of_ble_eq_true rfl) rfl ?_
        refine aw_blk oX12_town_0 (pc' := 1) (ls' := [_, _, _, _, _]) (st' := [_]) (cs := []) rfl trivial ?_
        refine aw_ciS (rest := []) (c_X12_isTown (by omega)) kX12_isTown eX12_town_1 lX12_town_1 rfl rfl (Nat.le_of_ble_eq_true rfl) ⟨Nat.le_of_ble_eq_true rfl, Nat.le_of_ble_eq_true rfl⟩ ⟨Nat.le_refl _, Nat.le_refl _⟩ ?_
        refine aw_if_ne (tgt := 9) eX12_town_4 (by decide) bt_r (fun hh => have h29 := bt1 hh; ?_) (fun hh => have h29 := bt0 hh; ?_)
        · first
          | (exfalso; omega; done)
          | (refine aw_blk oX12_town_9 (pc' := 12) (ls' := [_, _, _, _, _]) (st' := [_, _, _]) (cs := []) rfl trivial ?_
             refine aw_ciS (rest := []) (c_X12_in (by omega) (by omega) (by omega)) kX12_in eX12_town_12 lX12_town_12 rfl rfl (Nat.le_of_ble_eq_true rfl) ⟨Nat.le_of_ble_eq_true rfl, Nat.le_of_ble_eq_true rfl⟩ ⟨Nat.le_refl _, Nat.le_refl _⟩ ?_
             refine aw_if_eq (tgt := 28) eX12_town_15 (by decide) bt_r (fun hh => have h30 := bt0 hh; ?_) (fun hh => have h30 := bt1 hh; ?_)
             · first
               | (exfalso; omega; done)
               | (refine aw_blk oX12_town_28 (pc' := 30) (ls' := [_, _, _, _, _]) (st' := [_]) (cs := []) rfl trivial ?_
                  refine aw_iret eX12_town_30 rfl (Nat.le_refl _) (Nat.le_refl _) ?_
                  exact pe_i rfl rfl rfl)
             · first
               | (exfalso; omega; done)
               | (refine aw_blk oX12_town_18 (pc' := 22) (ls' := [_, _, _, _, _]) (st' := [_, _, _]) (cs := []) rfl trivial ?_
                  refine aw_ciS (rest := []) (c_X12_in (by omega) (by omega) (by omega)) kX12_in eX12_town_22 lX12_town_22 rfl rfl (Nat.le_of_ble_eq_true rfl) ⟨Nat.le_of_ble_eq_true rfl, Nat.le_of_ble_eq_true rfl⟩ ⟨Nat.le_refl _, Nat.le_refl _⟩ ?_
                  refine aw_if_ne (tgt := 31) eX12_town_25 (by decide) bt_r (fun hh => have h31 := bt1 hh; ?_) (fun hh => have h31 := bt0 hh; ?_)
                  · first
                    | (exfalso; omega; done)
                    | (refine aw_blk oX12_town_31 (pc' := 32) (ls' := [_, _, _, _, _]) (st' := [_]) (cs := []) rfl trivial ?_
                       refine aw_if_ne (tgt := 44) eX12_town_32 (by decide) (by omega) (fun h32 => ?_) (fun h32 => ?_)
                       · first
                         | (exfalso; omega; done)
                         | (refine aw_blk oX12_town_44 (pc' := 50) (ls' := [_, _, _, _, _]) (st' := [_]) (cs := [(_, _)]) rfl (⟨⟨by omega, by omega⟩, trivial⟩) ?_
                            refine aw_blk oX12_town_50 (pc' := 53) (ls' := [_, _, _, _, _]) (st' := [_]) (cs := []) rfl trivial ?_
                            refine aw_if_ne (tgt := 66) eX12_town_53 (by decide) (by omega) (fun h33 => ?_) (fun h33 => ?_)
                            · first
                              | (exfalso; omega; done)
                              | (refine aw_blk oX12_town_66 (pc' := 73) (ls' := [_, _, _, _, _]) (st' := []) (cs := [(_, _)]) rfl (⟨⟨by omega, by omega⟩, trivial⟩) ?_
                                 refine aw_blk oX12_town_73 (pc' := 75) (ls' := [_, _, _, _, _]) (st' := [_]) (cs := []) rfl trivial ?_
                                 refine aw_iret eX12_town_75 rfl (Nat.le_refl _) (Nat.le_refl _) ?_
                                 exact pe_i rfl rfl rfl)
                            · first
                              | (exfalso; omega; done)
                              | (refine aw_blk oX12_town_56 (pc' := 73) (ls' := [_, _, _, _, _]) (st' := []) (cs := [(_, _)]) rfl (⟨⟨by omega, by omega⟩, trivial⟩) ?_
                                 refine aw_blk oX12_town_73 (pc' := 75) (ls' := [_, _, _, _, _]) (st' := [_]) (cs := []) rfl trivial ?_
                                 refine aw_iret eX12_town_75 rfl (Nat.le_refl _) (Nat.le_refl _) ?_
                                 exact pe_i rfl rfl rfl))
                       · first
                         | (exfalso; omega; done)
                         | (refine aw_blk oX12_town_35 (pc' := 50) (ls' := [_, _, _, _, _]) (st' := [_]) (cs := [(_, _)]) rfl (⟨⟨by omega, by omega⟩, trivial⟩) ?_
                            refine aw_blk oX12_town_50 (pc' := 53) (ls' := [_, _, _, _, _]) (st' := [_]) (cs := []) rfl trivial ?_
                            refine aw_if_ne (tgt := 66) eX12_town_53 (by decide) (by omega) (fun h34 => ?_) (fun h34 => ?_)
                            · first
                              | (exfalso; omega; done)
                              | (refine aw_blk oX12_town_66 (pc' := 73) (ls' := [_, _, _, _, _]) (st' := []) (cs := [(_, _)]) rfl (⟨⟨by omega, by omega⟩, trivial⟩) ?_
                                 refine aw_blk oX12_town_73 (pc' := 75) (ls' := [_, _, _, _, _]) (st' := [_]) (cs := []) rfl trivial ?_
                                 refine aw_iret eX12_town_75 rfl (Nat.le_refl _) (Nat.le_refl _) ?_
                                 exact pe_i rfl rfl rfl)
                            · first
                              | (exfalso; omega; done)
                              | (refine aw_blk oX12_town_56 (pc' := 73) (ls' := [_, _, _, _, _]) (st' := []) (cs := [(_, _)]) rfl (⟨⟨by omega, by omega⟩, trivial⟩) ?_
                                 refine aw_blk oX12_town_73 (pc' := 75) (ls' := [_, _, _, _, _]) (st' := [_]) (cs := []) rfl trivial ?_
                                 refine aw_iret eX12_town_75 rfl (Nat.le_refl _) (Nat.le_refl _) ?_
                                 exact pe_i rfl rfl rfl)))
                  · first
                    | (exfalso; omega; done)
                    | (refine aw_blk oX12_town_28 (pc' := 30) (ls' := [_, _, _, _, _]) (st' := [_]) (cs := []) rfl trivial ?_
                       refine aw_iret eX12_town_30 rfl (Nat.le_refl _) (Nat.le_refl _) ?_
                       exact pe_i rfl rfl rfl)))
        · first
          | (exfalso; omega; done)
          | (refine aw_blk oX12_town_7 (pc' := 8) (ls' := [_, _, _, _, _]) (st' := [_]) (cs := []) rfl trivial ?_
             refine aw_iret eX12_town_8 rfl (Nat.le_refl _) (Nat.le_refl _) ?_
             exact pe_i rfl rfl rfl)
  · refine ⟨-1, μ, μ, ?_, ?_, by decide, h, SR.rf⟩
    · refine AMet.of kX11_town.1 (Nat.le_of_ble_eq_true rfl) rfl ?_
      refine aw_blk oX11_town_0 (pc' := 3) (ls' := [_, _, _, _]) (st' := [_, _, _]) (cs := []) rfl trivial ?_
      refine aw_ciS (rest := []) (c_X11_between (by omega) (by omega) (by omega)) kX11_between eX11_town_3 lX11_town_3 rfl rfl (Nat.le_of_ble_eq_true rfl) ⟨Nat.le_of_ble_eq_true rfl, Nat.le_of_ble_eq_true rfl⟩ ⟨Nat.le_refl _, Nat.le_refl _⟩ ?_
      refine aw_if_ne (tgt := 11) eX11_town_6 (by decide) bt_r (fun hh => have h35 := bt1 hh; ?_) (fun hh => have h35 := bt0 hh; ?_)
      · first
        | (exfalso; omega; done)
        | (refine aw_blk oX11_town_11 (pc' := 14) (ls' := [_, _, _, _]) (st' := [_, _, _]) (cs := []) rfl trivial ?_
           refine aw_ciS (rest := []) (c_X11_between (by omega) (by omega) (by omega)) kX11_between eX11_town_14 lX11_town_14 rfl rfl (Nat.le_of_ble_eq_true rfl) ⟨Nat.le_of_ble_eq_true rfl, Nat.le_of_ble_eq_true rfl⟩ ⟨Nat.le_refl _, Nat.le_refl _⟩ ?_
           refine aw_if_eq (tgt := 30) eX11_town_17 (by decide) bt_r (fun hh => have h36 := bt0 hh; ?_) (fun hh => have h36 := bt1 hh; ?_)
           · first
             | (exfalso; omega; done)
             | (refine aw_blk oX11_town_30 (pc' := 32) (ls' := [_, _, _, _]) (st' := [_]) (cs := []) rfl trivial ?_
                refine aw_iret eX11_town_32 rfl (Nat.le_refl _) (Nat.le_refl _) ?_
                exact pe_i rfl rfl rfl)
           · first
             | (exfalso; omega; done)
             | (refine aw_blk oX11_town_20 (pc' := 24) (ls' := [_, _, _, _]) (st' := [_, _, _]) (cs := []) rfl trivial ?_
                refine aw_ciS (rest := []) (c_X11_between (by omega) (by omega) (by omega)) kX11_between eX11_town_24 lX11_town_24 rfl rfl (Nat.le_of_ble_eq_true rfl) ⟨Nat.le_of_ble_eq_true rfl, Nat.le_of_ble_eq_true rfl⟩ ⟨Nat.le_refl _, Nat.le_refl _⟩ ?_
                refine aw_if_ne (tgt := 33) eX11_town_27 (by decide) bt_r (fun hh => have h37 := bt1 hh; ?_) (fun hh => have h37 := bt0 hh; ?_)
                · first
                  | (exfalso; omega; done)
                  | (refine aw_blk oX11_town_33 (pc' := 34) (ls' := [_, _, _, _]) (st' := [_]) (cs := []) rfl trivial ?_
                     refine aw_if_ne (tgt := 49) eX11_town_34 (by decide) (by omega) (fun h38 => ?_) (fun h38 => ?_)
                     · first
                       | (exfalso; omega; done)
                       | (refine aw_blk oX11_town_49 (pc' := 55) (ls' := [_, _, _, _]) (st' := [_, _, _]) (cs := []) rfl trivial ?_
                          refine aw_ciV (rest := []) (c_changeFar (by omega)) kX10_changeFar eX11_town_55 lX11_town_55 rfl rfl rfl rfl (Nat.le_of_ble_eq_true rfl) ⟨Nat.le_of_ble_eq_true rfl, Nat.le_of_ble_eq_true rfl⟩ ⟨Nat.le_refl _, Nat.le_refl _⟩ ?_
                          refine aw_iret eX11_town_58 rfl (Nat.le_refl _) (Nat.le_refl _) ?_
                          exact pe_i rfl rfl rfl)
                     · first
                       | (exfalso; omega; done)
                       | (refine aw_blk oX11_town_37 (pc' := 43) (ls' := [_, _, _, _]) (st' := [_, _, _]) (cs := []) rfl trivial ?_
                          refine aw_ciV (rest := []) (c_changeRoom (by omega)) kX10_changeRoom eX11_town_43 lX11_town_43 rfl rfl rfl rfl (Nat.le_of_ble_eq_true rfl) ⟨Nat.le_of_ble_eq_true rfl, Nat.le_of_ble_eq_true rfl⟩ ⟨Nat.le_refl _, Nat.le_refl _⟩ ?_
                          refine aw_blk oX11_town_46 (pc' := 58) (ls' := [_, _, _, _]) (st' := [_]) (cs := []) rfl trivial ?_
                          refine aw_iret eX11_town_58 rfl (Nat.le_refl _) (Nat.le_refl _) ?_
                          exact pe_i rfl rfl rfl))
                · first
                  | (exfalso; omega; done)
                  | (refine aw_blk oX11_town_30 (pc' := 32) (ls' := [_, _, _, _]) (st' := [_]) (cs := []) rfl trivial ?_
                     refine aw_iret eX11_town_32 rfl (Nat.le_refl _) (Nat.le_refl _) ?_
                     exact pe_i rfl rfl rfl)))
      · first
        | (exfalso; omega; done)
        | (refine aw_blk oX11_town_9 (pc' := 10) (ls' := [_, _, _, _]) (st' := [_]) (cs := []) rfl trivial ?_
           refine aw_iret eX11_town_10 rfl (Nat.le_refl _) (Nat.le_refl _) ?_
           exact pe_i rfl rfl rfl)
    · refine AMet.of kX12_town.1 (Nat.le_of_ble_eq_true rfl) rfl ?_
      refine aw_blk oX12_town_0 (pc' := 1) (ls' := [_, _, _, _, _]) (st' := [_]) (cs := []) rfl trivial ?_
      refine aw_ciS (rest := []) (c_X12_isTown (by omega)) kX12_isTown eX12_town_1 lX12_town_1 rfl rfl (Nat.le_of_ble_eq_true rfl) ⟨Nat.le_of_ble_eq_true rfl, Nat.le_of_ble_eq_true rfl⟩ ⟨Nat.le_refl _, Nat.le_refl _⟩ ?_
      refine aw_if_ne (tgt := 9) eX12_town_4 (by decide) bt_r (fun hh => have h39 := bt1 hh; ?_) (fun hh => have h39 := bt0 hh; ?_)
      · first
        | (exfalso; omega; done)
        | (refine aw_blk oX12_town_9 (pc' := 12) (ls' := [_, _, _, _, _]) (st' := [_, _, _]) (cs := []) rfl trivial ?_
           refine aw_ciS (rest := []) (c_X12_in (by omega) (by omega) (by omega)) kX12_in eX12_town_12 lX12_town_12 rfl rfl (Nat.le_of_ble_eq_true rfl) ⟨Nat.le_of_ble_eq_true rfl, Nat.le_of_ble_eq_true rfl⟩ ⟨Nat.le_refl _, Nat.le_refl _⟩ ?_
           refine aw_if_eq (tgt := 28) eX12_town_15 (by decide) bt_r (fun hh => have h40 := bt0 hh; ?_) (fun hh => have h40 := bt1 hh; ?_)
           · first
             | (exfalso; omega; done)
             | (refine aw_blk oX12_town_28 (pc' := 30) (ls' := [_, _, _, _, _]) (st' := [_]) (cs := []) rfl trivial ?_
                refine aw_iret eX12_town_30 rfl (Nat.le_refl _) (Nat.le_refl _) ?_
                exact pe_i rfl rfl rfl)
           · first
             | (exfalso; omega; done)
             | (refine aw_blk oX12_town_18 (pc' := 22) (ls' := [_, _, _, _, _]) (st' := [_, _, _]) (cs := []) rfl trivial ?_
                refine aw_ciS (rest := []) (c_X12_in (by omega) (by omega) (by omega)) kX12_in eX12_town_22 lX12_town_22 rfl rfl (Nat.le_of_ble_eq_true rfl) ⟨Nat.le_of_ble_eq_true rfl, Nat.le_of_ble_eq_true rfl⟩ ⟨Nat.le_refl _, Nat.le_refl _⟩ ?_
                refine aw_if_ne (tgt := 31) eX12_town_25 (by decide) bt_r (fun hh => have h41 := bt1 hh; ?_) (fun hh => have h41 := bt0 hh; ?_)
                · first
                  | (exfalso; omega; done)
                  | (refine aw_blk oX12_town_31 (pc' := 32) (ls' := [_, _, _, _, _]) (st' := [_]) (cs := []) rfl trivial ?_
                     refine aw_if_ne (tgt := 44) eX12_town_32 (by decide) (by omega) (fun h42 => ?_) (fun h42 => ?_)
                     · first
                       | (exfalso; omega; done)
                       | (refine aw_blk oX12_town_44 (pc' := 50) (ls' := [_, _, _, _, _]) (st' := [_]) (cs := [(_, _)]) rfl (⟨⟨by omega, by omega⟩, trivial⟩) ?_
                          refine aw_blk oX12_town_50 (pc' := 53) (ls' := [_, _, _, _, _]) (st' := [_]) (cs := []) rfl trivial ?_
                          refine aw_if_ne (tgt := 66) eX12_town_53 (by decide) (by omega) (fun h43 => ?_) (fun h43 => ?_)
                          · first
                            | (exfalso; omega; done)
                            | (refine aw_blk oX12_town_66 (pc' := 73) (ls' := [_, _, _, _, _]) (st' := []) (cs := [(_, _)]) rfl (⟨⟨by omega, by omega⟩, trivial⟩) ?_
                               refine aw_blk oX12_town_73 (pc' := 75) (ls' := [_, _, _, _, _]) (st' := [_]) (cs := []) rfl trivial ?_
                               refine aw_iret eX12_town_75 rfl (Nat.le_refl _) (Nat.le_refl _) ?_
                               exact pe_i rfl rfl rfl)
                          · first
                            | (exfalso; omega; done)
                            | (refine aw_blk oX12_town_56 (pc' := 73) (ls' := [_, _, _, _, _]) (st' := []) (cs := [(_, _)]) rfl (⟨⟨by omega, by omega⟩, trivial⟩) ?_
                               refine aw_blk oX12_town_73 (pc' := 75) (ls' := [_, _, _, _, _]) (st' := [_]) (cs := []) rfl trivial ?_
                               refine aw_iret eX12_town_75 rfl (Nat.le_refl _) (Nat.le_refl _) ?_
                               exact pe_i rfl rfl rfl))
                     · first
                       | (exfalso; omega; done)
                       | (refine aw_blk oX12_town_35 (pc' := 50) (ls' := [_, _, _, _, _]) (st' := [_]) (cs := [(_, _)]) rfl (⟨⟨by omega, by omega⟩, trivial⟩) ?_
                          refine aw_blk oX12_town_50 (pc' := 53) (ls' := [_, _, _, _, _]) (st' := [_]) (cs := []) rfl trivial ?_
                          refine aw_if_ne (tgt := 66) eX12_town_53 (by decide) (by omega) (fun h44 => ?_) (fun h44 => ?_)
                          · first
                            | (exfalso; omega; done)
                            | (refine aw_blk oX12_town_66 (pc' := 73) (ls' := [_, _, _, _, _]) (st' := []) (cs := [(_, _)]) rfl (⟨⟨by omega, by omega⟩, trivial⟩) ?_
                               refine aw_blk oX12_town_73 (pc' := 75) (ls' := [_, _, _, _, _]) (st' := [_]) (cs := []) rfl trivial ?_
                               refine aw_iret eX12_town_75 rfl (Nat.le_refl _) (Nat.le_refl _) ?_
                               exact pe_i rfl rfl rfl)
                          · first
                            | (exfalso; omega; done)
                            | (refine aw_blk oX12_town_56 (pc' := 73) (ls' := [_, _, _, _, _]) (st' := []) (cs := [(_, _)]) rfl (⟨⟨by omega, by omega⟩, trivial⟩) ?_
                               refine aw_blk oX12_town_73 (pc' := 75) (ls' := [_, _, _, _, _]) (st' := [_]) (cs := []) rfl trivial ?_
                               refine aw_iret eX12_town_75 rfl (Nat.le_refl _) (Nat.le_refl _) ?_
                               exact pe_i rfl rfl rfl)))
                · first
                  | (exfalso; omega; done)
                  | (refine aw_blk oX12_town_28 (pc' := 30) (ls' := [_, _, _, _, _]) (st' := [_]) (cs := []) rfl trivial ?_
                     refine aw_iret eX12_town_30 rfl (Nat.le_refl _) (Nat.le_refl _) ?_
                     exact pe_i rfl rfl rfl)))
      · first
        | (exfalso; omega; done)
        | (refine aw_blk oX12_town_7 (pc' := 8) (ls' := [_, _, _, _, _]) (st' := [_]) (cs := []) rfl trivial ?_
           refine aw_iret eX12_town_8 rfl (Nat.le_refl _) (Nat.le_refl _) ?_
           exact pe_i rfl rfl rfl)
theorem law_weight {κ : KX} {μ : MM} {ν : ML} {t v : Int} (h : RT μ) (ht : R32 t) (hv : R32 v) : LawM RT csT κ mX11_weight mX12_weight [aI t, aI v] μ ν := by
  obtain ⟨h1, h2, h3, h4⟩ := id h
  by_cases c1 : 0 ≤ t ∧ t ≤ 5
  · by_cases c2 : 1 ≤ v ∧ v ≤ 50
    · have g1 := h3 t (by omega) (by omega)
      refine ⟨μ 36 t, up μ 36 t v, up (up μ 36 t v) 65 t v, ?_, ?_, by omega, ?_, SR.two.sub (by decide)⟩
      · refine AMet.of kX11_weight.1 (Nat.le_of_ble_eq_true rfl) rfl ?_
        refine aw_blk oX11_weight_0 (pc' := 1) (ls' := [_, _, _]) (st' := [_]) (cs := []) rfl trivial ?_
        refine aw_ciS (rest := []) (c_X11_isFilm (by omega)) kX11_isFilm eX11_weight_1 lX11_weight_1 rfl rfl (Nat.le_of_ble_eq_true rfl) ⟨Nat.le_of_ble_eq_true rfl, Nat.le_of_ble_eq_true rfl⟩ ⟨Nat.le_refl _, Nat.le_refl _⟩ ?_
        refine aw_if_ne (tgt := 9) eX11_weight_4 (by decide) bt_r (fun hh => have h45 := bt1 hh; ?_) (fun hh => have h45 := bt0 hh; ?_)
        · first
          | (exfalso; omega; done)
          | (refine aw_blk oX11_weight_9 (pc' := 13) (ls' := [_, _, _]) (st' := [_, _, _]) (cs := []) rfl trivial ?_
             refine aw_ciS (rest := []) (c_X11_between (by omega) (by omega) (by omega)) kX11_between eX11_weight_13 lX11_weight_13 rfl rfl (Nat.le_of_ble_eq_true rfl) ⟨Nat.le_of_ble_eq_true rfl, Nat.le_of_ble_eq_true rfl⟩ ⟨Nat.le_refl _, Nat.le_refl _⟩ ?_
             refine aw_if_ne (tgt := 22) eX11_weight_16 (by decide) bt_r (fun hh => have h46 := bt1 hh; ?_) (fun hh => have h46 := bt0 hh; ?_)
             · first
               | (exfalso; omega; done)
               | (refine aw_blk oX11_weight_22 (pc' := 28) (ls' := [_, _, _]) (st' := [_, _, _]) (cs := []) rfl trivial ?_
                  refine aw_ciV (rest := []) (c_changeWeight (by omega)) kX10_changeWeight eX11_weight_28 lX11_weight_28 rfl rfl rfl rfl (Nat.le_of_ble_eq_true rfl) ⟨Nat.le_of_ble_eq_true rfl, Nat.le_of_ble_eq_true rfl⟩ ⟨Nat.le_refl _, Nat.le_refl _⟩ ?_
                  refine aw_iret eX11_weight_31 rfl (Nat.le_refl _) (Nat.le_refl _) ?_
                  exact pe_i rfl rfl rfl)
             · first
               | (exfalso; omega; done)
               | (refine aw_blk oX11_weight_19 (pc' := 21) (ls' := [_, _, _]) (st' := [_]) (cs := []) rfl trivial ?_
                  refine aw_iret eX11_weight_21 rfl (Nat.le_refl _) (Nat.le_refl _) ?_
                  exact pe_i rfl rfl rfl))
        · first
          | (exfalso; omega; done)
          | (refine aw_blk oX11_weight_7 (pc' := 8) (ls' := [_, _, _]) (st' := [_]) (cs := []) rfl trivial ?_
             refine aw_iret eX11_weight_8 rfl (Nat.le_refl _) (Nat.le_refl _) ?_
             exact pe_i rfl rfl rfl)
      · refine AMet.of kX12_weight.1 (Nat.le_of_ble_eq_true rfl) rfl ?_
        refine aw_blk oX12_weight_0 (pc' := 1) (ls' := [_, _, _, _]) (st' := [_]) (cs := []) rfl trivial ?_
        refine aw_ciS (rest := []) (c_X12_isFilm (by omega)) kX12_isFilm eX12_weight_1 lX12_weight_1 rfl rfl (Nat.le_of_ble_eq_true rfl) ⟨Nat.le_of_ble_eq_true rfl, Nat.le_of_ble_eq_true rfl⟩ ⟨Nat.le_refl _, Nat.le_refl _⟩ ?_
        refine aw_if_ne (tgt := 9) eX12_weight_4 (by decide) bt_r (fun hh => have h47 := bt1 hh; ?_) (fun hh => have h47 := bt0 hh; ?_)
        · first
          | (exfalso; omega; done)
          | (refine aw_blk oX12_weight_9 (pc' := 13) (ls' := [_, _, _, _]) (st' := [_, _, _]) (cs := []) rfl trivial ?_
             refine aw_ciS (rest := []) (c_X12_in (by omega) (by omega) (by omega)) kX12_in eX12_weight_13 lX12_weight_13 rfl rfl (Nat.le_of_ble_eq_true rfl) ⟨Nat.le_of_ble_eq_true rfl, Nat.le_of_ble_eq_true rfl⟩ ⟨Nat.le_refl _, Nat.le_refl _⟩ ?_
             refine aw_if_ne (tgt := 22) eX12_weight_16 (by decide) bt_r (fun hh => have h48 := bt1 hh; ?_) (fun hh => have h48 := bt0 hh; ?_)
             · first
               | (exfalso; omega; done)
               | (refine aw_blk oX12_weight_22 (pc' := 37) (ls' := [_, _, _, _]) (st' := [_]) (cs := [(_, _), (_, _)]) rfl (⟨⟨by omega, by omega⟩, ⟨by omega, by omega⟩, trivial⟩) ?_
                  refine aw_iret eX12_weight_37 rfl (Nat.le_refl _) (Nat.le_refl _) ?_
                  exact pe_i (by rw [up_c (by decide)]; exact g1.1) rfl rfl)
             · first
               | (exfalso; omega; done)
               | (refine aw_blk oX12_weight_19 (pc' := 21) (ls' := [_, _, _, _]) (st' := [_]) (cs := []) rfl trivial ?_
                  refine aw_iret eX12_weight_21 rfl (Nat.le_refl _) (Nat.le_refl _) ?_
                  exact pe_i (by rw [up_c (by decide)]; exact g1.1) rfl rfl))
        · first
          | (exfalso; omega; done)
          | (refine aw_blk oX12_weight_7 (pc' := 8) (ls' := [_, _, _, _]) (st' := [_]) (cs := []) rfl trivial ?_
             refine aw_iret eX12_weight_8 rfl (Nat.le_refl _) (Nat.le_refl _) ?_
             exact pe_i (by rw [up_c (by decide)]; exact g1.1) rfl rfl)
      exact ⟨h1.fr SR.two (by decide) (by decide), h2.fr SR.two (by decide) (by decide), h3.up2 (by decide) c2.1 c2.2, h4.fr SR.two (by decide) (by decide)⟩
    · refine ⟨-2, μ, μ, ?_, ?_, by decide, h, SR.rf⟩
      · refine AMet.of kX11_weight.1 (Nat.le_of_ble_eq_true rfl) rfl ?_
        refine aw_blk oX11_weight_0 (pc' := 1) (ls' := [_, _, _]) (st' := [_]) (cs := []) rfl trivial ?_
        refine aw_ciS (rest := []) (c_X11_isFilm (by omega)) kX11_isFilm eX11_weight_1 lX11_weight_1 rfl rfl (Nat.le_of_ble_eq_true rfl) ⟨Nat.le_of_ble_eq_true rfl, Nat.le_of_ble_eq_true rfl⟩ ⟨Nat.le_refl _, Nat.le_refl _⟩ ?_
        refine aw_if_ne (tgt := 9) eX11_weight_4 (by decide) bt_r (fun hh => have h49 := bt1 hh; ?_) (fun hh => have h49 := bt0 hh; ?_)
        · first
          | (exfalso; omega; done)
          | (refine aw_blk oX11_weight_9 (pc' := 13) (ls' := [_, _, _]) (st' := [_, _, _]) (cs := []) rfl trivial ?_
             refine aw_ciS (rest := []) (c_X11_between (by omega) (by omega) (by omega)) kX11_between eX11_weight_13 lX11_weight_13 rfl rfl (Nat.le_of_ble_eq_true rfl) ⟨Nat.le_of_ble_eq_true rfl, Nat.le_of_ble_eq_true rfl⟩ ⟨Nat.le_refl _, Nat.le_refl _⟩ ?_
             refine aw_if_ne (tgt := 22) eX11_weight_16 (by decide) bt_r (fun hh => have h50 := bt1 hh; ?_) (fun hh => have h50 := bt0 hh; ?_)
             · first
               | (exfalso; omega; done)
               | (refine aw_blk oX11_weight_22 (pc' := 28) (ls' := [_, _, _]) (st' := [_, _, _]) (cs := []) rfl trivial ?_
                  refine aw_ciV (rest := []) (c_changeWeight (by omega)) kX10_changeWeight eX11_weight_28 lX11_weight_28 rfl rfl rfl rfl (Nat.le_of_ble_eq_true rfl) ⟨Nat.le_of_ble_eq_true rfl, Nat.le_of_ble_eq_true rfl⟩ ⟨Nat.le_refl _, Nat.le_refl _⟩ ?_
                  refine aw_iret eX11_weight_31 rfl (Nat.le_refl _) (Nat.le_refl _) ?_
                  exact pe_i rfl rfl rfl)
             · first
               | (exfalso; omega; done)
               | (refine aw_blk oX11_weight_19 (pc' := 21) (ls' := [_, _, _]) (st' := [_]) (cs := []) rfl trivial ?_
                  refine aw_iret eX11_weight_21 rfl (Nat.le_refl _) (Nat.le_refl _) ?_
                  exact pe_i rfl rfl rfl))
        · first
          | (exfalso; omega; done)
          | (refine aw_blk oX11_weight_7 (pc' := 8) (ls' := [_, _, _]) (st' := [_]) (cs := []) rfl trivial ?_
             refine aw_iret eX11_weight_8 rfl (Nat.le_refl _) (Nat.le_refl _) ?_
             exact pe_i rfl rfl rfl)
      · refine AMet.of kX12_weight.1 (Nat.le_of_ble_eq_true rfl) rfl ?_
        refine aw_blk oX12_weight_0 (pc' := 1) (ls' := [_, _, _, _]) (st' := [_]) (cs := []) rfl trivial ?_
        refine aw_ciS (rest := []) (c_X12_isFilm (by omega)) kX12_isFilm eX12_weight_1 lX12_weight_1 rfl rfl (Nat.le_of_ble_eq_true rfl) ⟨Nat.le_of_ble_eq_true rfl, Nat.le_of_ble_eq_true rfl⟩ ⟨Nat.le_refl _, Nat.le_refl _⟩ ?_
        refine aw_if_ne (tgt := 9) eX12_weight_4 (by decide) bt_r (fun hh => have h51 := bt1 hh; ?_) (fun hh => have h51 := bt0 hh; ?_)
        · first
          | (exfalso; omega; done)
          | (refine aw_blk oX12_weight_9 (pc' := 13) (ls' := [_, _, _, _]) (st' := [_, _, _]) (cs := []) rfl trivial ?_
             refine aw_ciS (rest := []) (c_X12_in (by omega) (by omega) (by omega)) kX12_in eX12_weight_13 lX12_weight_13 rfl rfl (Nat.le_of_ble_eq_true rfl) ⟨Nat.le_of_ble_eq_true rfl, Nat.le_of_ble_eq_true rfl⟩ ⟨Nat.le_refl _, Nat.le_refl _⟩ ?_
             refine aw_if_ne (tgt := 22) eX12_weight_16 (by decide) bt_r (fun hh => have h52 := bt1 hh; ?_) (fun hh => have h52 := bt0 hh; ?_)
             · first
               | (exfalso; omega; done)
               | (refine aw_blk oX12_weight_22 (pc' := 37) (ls' := [_, _, _, _]) (st' := [_]) (cs := [(_, _), (_, _)]) rfl (⟨⟨by omega, by omega⟩, ⟨by omega, by omega⟩, trivial⟩) ?_
                  refine aw_iret eX12_weight_37 rfl (Nat.le_refl _) (Nat.le_refl _) ?_
                  exact pe_i rfl rfl rfl)
             · first
               | (exfalso; omega; done)
               | (refine aw_blk oX12_weight_19 (pc' := 21) (ls' := [_, _, _, _]) (st' := [_]) (cs := []) rfl trivial ?_
                  refine aw_iret eX12_weight_21 rfl (Nat.le_refl _) (Nat.le_refl _) ?_
                  exact pe_i rfl rfl rfl))
        · first
          | (exfalso; omega; done)
          | (refine aw_blk oX12_weight_7 (pc' := 8) (ls' := [_, _, _, _]) (st' := [_]) (cs := []) rfl trivial ?_
             refine aw_iret eX12_weight_8 rfl (Nat.le_refl _) (Nat.le_refl _) ?_
             exact pe_i rfl rfl rfl)
  · refine ⟨-1, μ, μ, ?_, ?_, by decide, h, SR.rf⟩
    · refine AMet.of kX11_weight.1 (Nat.le_of_ble_eq_true rfl) rfl ?_
      refine aw_blk oX11_weight_0 (pc' := 1) (ls' := [_, _, _]) (st' := [_]) (cs := []) rfl trivial ?_
      refine aw_ciS (rest := []) (c_X11_isFilm (by omega)) kX11_isFilm eX11_weight_1 lX11_weight_1 rfl rfl (Nat.le_of_ble_eq_true rfl) ⟨Nat.le_of_ble_eq_true rfl, Nat.le_of_ble_eq_true rfl⟩ ⟨Nat.le_refl _, Nat.le_refl _⟩ ?_
      refine aw_if_ne (tgt := 9) eX11_weight_4 (by decide) bt_r (fun hh => have h53 := bt1 hh; ?_) (fun hh => have h53 := bt0 hh; ?_)
      · first
        | (exfalso; omega; done)
        | (refine aw_blk oX11_weight_9 (pc' := 13) (ls' := [_, _, _]) (st' := [_, _, _]) (cs := []) rfl trivial ?_
           refine aw_ciS (rest := []) (c_X11_between (by omega) (by omega) (by omega)) kX11_between eX11_weight_13 lX11_weight_13 rfl rfl (Nat.le_of_ble_eq_true rfl) ⟨Nat.le_of_ble_eq_true rfl, Nat.le_of_ble_eq_true rfl⟩ ⟨Nat.le_refl _, Nat.le_refl _⟩ ?_
           refine aw_if_ne (tgt := 22) eX11_weight_16 (by decide) bt_r (fun hh => have h54 := bt1 hh; ?_) (fun hh => have h54 := bt0 hh; ?_)
           · first
             | (exfalso; omega; done)
             | (refine aw_blk oX11_weight_22 (pc' := 28) (ls' := [_, _, _]) (st' := [_, _, _]) (cs := []) rfl trivial ?_
                refine aw_ciV (rest := []) (c_changeWeight (by omega)) kX10_changeWeight eX11_weight_28 lX11_weight_28 rfl rfl rfl rfl (Nat.le_of_ble_eq_true rfl) ⟨Nat.le_of_ble_eq_true rfl, Nat.le_of_ble_eq_true rfl⟩ ⟨Nat.le_refl _, Nat.le_refl _⟩ ?_
                refine aw_iret eX11_weight_31 rfl (Nat.le_refl _) (Nat.le_refl _) ?_
                exact pe_i rfl rfl rfl)
           · first
             | (exfalso; omega; done)
             | (refine aw_blk oX11_weight_19 (pc' := 21) (ls' := [_, _, _]) (st' := [_]) (cs := []) rfl trivial ?_
                refine aw_iret eX11_weight_21 rfl (Nat.le_refl _) (Nat.le_refl _) ?_
                exact pe_i rfl rfl rfl))
      · first
        | (exfalso; omega; done)
        | (refine aw_blk oX11_weight_7 (pc' := 8) (ls' := [_, _, _]) (st' := [_]) (cs := []) rfl trivial ?_
           refine aw_iret eX11_weight_8 rfl (Nat.le_refl _) (Nat.le_refl _) ?_
           exact pe_i rfl rfl rfl)
    · refine AMet.of kX12_weight.1 (Nat.le_of_ble_eq_true rfl) rfl ?_
      refine aw_blk oX12_weight_0 (pc' := 1) (ls' := [_, _, _, _]) (st' := [_]) (cs := []) rfl trivial ?_
      refine aw_ciS (rest := []) (c_X12_isFilm (by omega)) kX12_isFilm eX12_weight_1 lX12_weight_1 rfl rfl (Nat.le_of_ble_eq_true rfl) ⟨Nat.le_of_ble_eq_true rfl, Nat.le_of_ble_eq_true rfl⟩ ⟨Nat.le_refl _, Nat.le_refl _⟩ ?_
      refine aw_if_ne (tgt := 9) eX12_weight_4 (by decide) bt_r (fun hh => have h55 := bt1 hh; ?_) (fun hh => have h55 := bt0 hh; ?_)
      · first
        | (exfalso; omega; done)
        | (refine aw_blk oX12_weight_9 (pc' := 13) (ls' := [_, _, _, _]) (st' := [_, _, _]) (cs := []) rfl trivial ?_
           refine aw_ciS (rest := []) (c_X12_in (by omega) (by omega) (by omega)) kX12_in eX12_weight_13 lX12_weight_13 rfl rfl (Nat.le_of_ble_eq_true rfl) ⟨Nat.le_of_ble_eq_true rfl, Nat.le_of_ble_eq_true rfl⟩ ⟨Nat.le_refl _, Nat.le_refl _⟩ ?_
           refine aw_if_ne (tgt := 22) eX12_weight_16 (by decide) bt_r (fun hh => have h56 := bt1 hh; ?_) (fun hh => have h56 := bt0 hh; ?_)
           · first
             | (exfalso; omega; done)
             | (refine aw_blk oX12_weight_22 (pc' := 37) (ls' := [_, _, _, _]) (st' := [_]) (cs := [(_, _), (_, _)]) rfl (⟨⟨by omega, by omega⟩, ⟨by omega, by omega⟩, trivial⟩) ?_
                refine aw_iret eX12_weight_37 rfl (Nat.le_refl _) (Nat.le_refl _) ?_
                exact pe_i rfl rfl rfl)
           · first
             | (exfalso; omega; done)
             | (refine aw_blk oX12_weight_19 (pc' := 21) (ls' := [_, _, _, _]) (st' := [_]) (cs := []) rfl trivial ?_
                refine aw_iret eX12_weight_21 rfl (Nat.le_refl _) (Nat.le_refl _) ?_
                exact pe_i rfl rfl rfl))
      · first
        | (exfalso; omega; done)
        | (refine aw_blk oX12_weight_7 (pc' := 8) (ls' := [_, _, _, _]) (st' := [_]) (cs := []) rfl trivial ?_
           refine aw_iret eX12_weight_8 rfl (Nat.le_refl _) (Nat.le_refl _) ?_
           exact pe_i rfl rfl rfl)
theorem law_ask {κ : KX} {μ : MM} {ν : ML} {t f v : Int} (h : RT μ) (ht : R32 t) (hf : R32 f) (hv : R32 v) : LawM RT csT κ mX11_ask mX12_ask [aI t, aI f, aI v] μ ν := by
  obtain ⟨h1, h2, h3, h4⟩ := id h
  by_cases c1 : (0 ≤ t ∧ t ≤ 3) ∧ (0 ≤ f ∧ f ≤ 5)
  · by_cases c2 : 0 ≤ v ∧ v ≤ 1000
    · have g1 := h4 (t * 6 + f) (by omega) (by omega)
      have e : 6 * t + f = t * 6 + f := by omega
      refine ⟨μ 37 (t * 6 + f), up μ 37 (t * 6 + f) v, up (up μ 37 (t * 6 + f) v) 66 (t * 6 + f) v, ?_, ?_, by omega, ?_, SR.two.sub (by decide)⟩
      · refine AMet.of kX11_ask.1 (Nat.le_of_ble_eq_true rfl) rfl ?_
        refine aw_blk oX11_ask_0 (pc' := 3) (ls' := [_, _, _, _]) (st' := [_, _, _]) (cs := []) rfl trivial ?_
        refine aw_ciS (rest := []) (c_X11_between (by omega) (by omega) (by omega)) kX11_between eX11_ask_3 lX11_ask_3 rfl rfl (Nat.le_of_ble_eq_true rfl) ⟨Nat.le_of_ble_eq_true rfl, Nat.le_of_ble_eq_true rfl⟩ ⟨Nat.le_refl _, Nat.le_refl _⟩ ?_
        refine aw_if_eq (tgt := 16) eX11_ask_6 (by decide) bt_r (fun hh => have h57 := bt0 hh; ?_) (fun hh => have h57 := bt1 hh; ?_)
        · first
          | (exfalso; omega; done)
          | (refine aw_blk oX11_ask_16 (pc' := 17) (ls' := [_, _, _, _]) (st' := [_]) (cs := []) rfl trivial ?_
             refine aw_iret eX11_ask_17 rfl (Nat.le_refl _) (Nat.le_refl _) ?_
             exact pe_i rfl rfl rfl)
        · first
          | (exfalso; omega; done)
          | (refine aw_blk oX11_ask_9 (pc' := 10) (ls' := [_, _, _, _]) (st' := [_]) (cs := []) rfl trivial ?_
             refine aw_ciS (rest := []) (c_X11_isFilm (by omega)) kX11_isFilm eX11_ask_10 lX11_ask_10 rfl rfl (Nat.le_of_ble_eq_true rfl) ⟨Nat.le_of_ble_eq_true rfl, Nat.le_of_ble_eq_true rfl⟩ ⟨Nat.le_refl _, Nat.le_refl _⟩ ?_
             refine aw_if_ne (tgt := 18) eX11_ask_13 (by decide) bt_r (fun hh => have h58 := bt1 hh; ?_) (fun hh => have h58 := bt0 hh; ?_)
             · first
               | (exfalso; omega; done)
               | (refine aw_blk oX11_ask_18 (pc' := 23) (ls' := [_, _, _, _]) (st' := [_, _, _]) (cs := []) rfl trivial ?_
                  refine aw_ciS (rest := []) (c_X11_between (by omega) (by omega) (by omega)) kX11_between eX11_ask_23 lX11_ask_23 rfl rfl (Nat.le_of_ble_eq_true rfl) ⟨Nat.le_of_ble_eq_true rfl, Nat.le_of_ble_eq_true rfl⟩ ⟨Nat.le_refl _, Nat.le_refl _⟩ ?_
                  refine aw_if_ne (tgt := 32) eX11_ask_26 (by decide) bt_r (fun hh => have h59 := bt1 hh; ?_) (fun hh => have h59 := bt0 hh; ?_)
                  · first
                    | (exfalso; omega; done)
                    | (refine aw_blk oX11_ask_32 (pc' := 39) (ls' := [_, _, _, _]) (st' := [_, _, _, _]) (cs := []) rfl trivial ?_
                       refine aw_ciV (rest := []) (c_changeAsks (by omega) (by omega)) kX10_changeAsks eX11_ask_39 lX11_ask_39 rfl rfl rfl rfl (Nat.le_of_ble_eq_true rfl) ⟨Nat.le_of_ble_eq_true rfl, Nat.le_of_ble_eq_true rfl⟩ ⟨Nat.le_refl _, Nat.le_refl _⟩ ?_
                       refine aw_iret eX11_ask_42 rfl (Nat.le_refl _) (Nat.le_refl _) ?_
                       exact pe_i rfl rfl rfl)
                  · first
                    | (exfalso; omega; done)
                    | (refine aw_blk oX11_ask_29 (pc' := 31) (ls' := [_, _, _, _]) (st' := [_]) (cs := []) rfl trivial ?_
                       refine aw_iret eX11_ask_31 rfl (Nat.le_refl _) (Nat.le_refl _) ?_
                       exact pe_i rfl rfl rfl))
             · first
               | (exfalso; omega; done)
               | (refine aw_blk oX11_ask_16 (pc' := 17) (ls' := [_, _, _, _]) (st' := [_]) (cs := []) rfl trivial ?_
                  refine aw_iret eX11_ask_17 rfl (Nat.le_refl _) (Nat.le_refl _) ?_
                  exact pe_i rfl rfl rfl))
      · refine AMet.of kX12_ask.1 (Nat.le_of_ble_eq_true rfl) rfl ?_
        refine aw_blk oX12_ask_0 (pc' := 1) (ls' := [_, _, _, _, _]) (st' := [_]) (cs := []) rfl trivial ?_
        refine aw_ciS (rest := []) (c_X12_isTown (by omega)) kX12_isTown eX12_ask_1 lX12_ask_1 rfl rfl (Nat.le_of_ble_eq_true rfl) ⟨Nat.le_of_ble_eq_true rfl, Nat.le_of_ble_eq_true rfl⟩ ⟨Nat.le_refl _, Nat.le_refl _⟩ ?_
        refine aw_if_eq (tgt := 14) eX12_ask_4 (by decide) bt_r (fun hh => have h60 := bt0 hh; ?_) (fun hh => have h60 := bt1 hh; ?_)
        · first
          | (exfalso; omega; done)
          | (refine aw_blk oX12_ask_14 (pc' := 15) (ls' := [_, _, _, _, _]) (st' := [_]) (cs := []) rfl trivial ?_
             refine aw_iret eX12_ask_15 rfl (Nat.le_refl _) (Nat.le_refl _) ?_
             exact pe_i (by rw [e, up_c (by decide)]; exact g1.1) (by rw [e]) rfl)
        · first
          | (exfalso; omega; done)
          | (refine aw_blk oX12_ask_7 (pc' := 8) (ls' := [_, _, _, _, _]) (st' := [_]) (cs := []) rfl trivial ?_
             refine aw_ciS (rest := []) (c_X12_isFilm (by omega)) kX12_isFilm eX12_ask_8 lX12_ask_8 rfl rfl (Nat.le_of_ble_eq_true rfl) ⟨Nat.le_of_ble_eq_true rfl, Nat.le_of_ble_eq_true rfl⟩ ⟨Nat.le_refl _, Nat.le_refl _⟩ ?_
             refine aw_if_ne (tgt := 16) eX12_ask_11 (by decide) bt_r (fun hh => have h61 := bt1 hh; ?_) (fun hh => have h61 := bt0 hh; ?_)
             · first
               | (exfalso; omega; done)
               | (refine aw_blk oX12_ask_16 (pc' := 21) (ls' := [_, _, _, _, _]) (st' := [_, _, _]) (cs := []) rfl trivial ?_
                  refine aw_ciS (rest := []) (c_X12_in (by omega) (by omega) (by omega)) kX12_in eX12_ask_21 lX12_ask_21 rfl rfl (Nat.le_of_ble_eq_true rfl) ⟨Nat.le_of_ble_eq_true rfl, Nat.le_of_ble_eq_true rfl⟩ ⟨Nat.le_refl _, Nat.le_refl _⟩ ?_
                  refine aw_if_ne (tgt := 30) eX12_ask_24 (by decide) bt_r (fun hh => have h62 := bt1 hh; ?_) (fun hh => have h62 := bt0 hh; ?_)
                  · first
                    | (exfalso; omega; done)
                    | (refine aw_blk oX12_ask_30 (pc' := 57) (ls' := [_, _, _, _, _]) (st' := [_]) (cs := [(_, _), (_, _)]) rfl (⟨⟨by omega, by omega⟩, ⟨by omega, by omega⟩, trivial⟩) ?_
                       refine aw_iret eX12_ask_57 rfl (Nat.le_refl _) (Nat.le_refl _) ?_
                       exact pe_i (by rw [e, up_c (by decide)]; exact g1.1) (by rw [e]) rfl)
                  · first
                    | (exfalso; omega; done)
                    | (refine aw_blk oX12_ask_27 (pc' := 29) (ls' := [_, _, _, _, _]) (st' := [_]) (cs := []) rfl trivial ?_
                       refine aw_iret eX12_ask_29 rfl (Nat.le_refl _) (Nat.le_refl _) ?_
                       exact pe_i (by rw [e, up_c (by decide)]; exact g1.1) (by rw [e]) rfl))
             · first
               | (exfalso; omega; done)
               | (refine aw_blk oX12_ask_14 (pc' := 15) (ls' := [_, _, _, _, _]) (st' := [_]) (cs := []) rfl trivial ?_
                  refine aw_iret eX12_ask_15 rfl (Nat.le_refl _) (Nat.le_refl _) ?_
                  exact pe_i (by rw [e, up_c (by decide)]; exact g1.1) (by rw [e]) rfl))
      exact ⟨h1.fr SR.two (by decide) (by decide), h2.fr SR.two (by decide) (by decide), h3.fr SR.two (by decide) (by decide), h4.up2 (by decide) c2.1 c2.2⟩
    · refine ⟨-2, μ, μ, ?_, ?_, by decide, h, SR.rf⟩
      · refine AMet.of kX11_ask.1 (Nat.le_of_ble_eq_true rfl) rfl ?_
        refine aw_blk oX11_ask_0 (pc' := 3) (ls' := [_, _, _, _]) (st' := [_, _, _]) (cs := []) rfl trivial ?_
        refine aw_ciS (rest := []) (c_X11_between (by omega) (by omega) (by omega)) kX11_between eX11_ask_3 lX11_ask_3 rfl rfl (Nat.le_of_ble_eq_true rfl) ⟨Nat.le_of_ble_eq_true rfl, Nat.le_of_ble_eq_true rfl⟩ ⟨Nat.le_refl _, Nat.le_refl _⟩ ?_
        refine aw_if_eq (tgt := 16) eX11_ask_6 (by decide) bt_r (fun hh => have h63 := bt0 hh; ?_) (fun hh => have h63 := bt1 hh; ?_)
        · first
          | (exfalso; omega; done)
          | (refine aw_blk oX11_ask_16 (pc' := 17) (ls' := [_, _, _, _]) (st' := [_]) (cs := []) rfl trivial ?_
             refine aw_iret eX11_ask_17 rfl (Nat.le_refl _) (Nat.le_refl _) ?_
             exact pe_i rfl rfl rfl)
        · first
          | (exfalso; omega; done)
          | (refine aw_blk oX11_ask_9 (pc' := 10) (ls' := [_, _, _, _]) (st' := [_]) (cs := []) rfl trivial ?_
             refine aw_ciS (rest := []) (c_X11_isFilm (by omega)) kX11_isFilm eX11_ask_10 lX11_ask_10 rfl rfl (Nat.le_of_ble_eq_true rfl) ⟨Nat.le_of_ble_eq_true rfl, Nat.le_of_ble_eq_true rfl⟩ ⟨Nat.le_refl _, Nat.le_refl _⟩ ?_
             refine aw_if_ne (tgt := 18) eX11_ask_13 (by decide) bt_r (fun hh => have h64 := bt1 hh; ?_) (fun hh => have h64 := bt0 hh; ?_)
             · first
               | (exfalso; omega; done)
               | (refine aw_blk oX11_ask_18 (pc' := 23) (ls' := [_, _, _, _]) (st' := [_, _, _]) (cs := []) rfl trivial ?_
                  refine aw_ciS (rest := []) (c_X11_between (by omega) (by omega) (by omega)) kX11_between eX11_ask_23 lX11_ask_23 rfl rfl (Nat.le_of_ble_eq_true rfl) ⟨Nat.le_of_ble_eq_true rfl, Nat.le_of_ble_eq_true rfl⟩ ⟨Nat.le_refl _, Nat.le_refl _⟩ ?_
                  refine aw_if_ne (tgt := 32) eX11_ask_26 (by decide) bt_r (fun hh => have h65 := bt1 hh; ?_) (fun hh => have h65 := bt0 hh; ?_)
                  · first
                    | (exfalso; omega; done)
                    | (refine aw_blk oX11_ask_32 (pc' := 39) (ls' := [_, _, _, _]) (st' := [_, _, _, _]) (cs := []) rfl trivial ?_
                       refine aw_ciV (rest := []) (c_changeAsks (by omega) (by omega)) kX10_changeAsks eX11_ask_39 lX11_ask_39 rfl rfl rfl rfl (Nat.le_of_ble_eq_true rfl) ⟨Nat.le_of_ble_eq_true rfl, Nat.le_of_ble_eq_true rfl⟩ ⟨Nat.le_refl _, Nat.le_refl _⟩ ?_
                       refine aw_iret eX11_ask_42 rfl (Nat.le_refl _) (Nat.le_refl _) ?_
                       exact pe_i rfl rfl rfl)
                  · first
                    | (exfalso; omega; done)
                    | (refine aw_blk oX11_ask_29 (pc' := 31) (ls' := [_, _, _, _]) (st' := [_]) (cs := []) rfl trivial ?_
                       refine aw_iret eX11_ask_31 rfl (Nat.le_refl _) (Nat.le_refl _) ?_
                       exact pe_i rfl rfl rfl))
             · first
               | (exfalso; omega; done)
               | (refine aw_blk oX11_ask_16 (pc' := 17) (ls' := [_, _, _, _]) (st' := [_]) (cs := []) rfl trivial ?_
                  refine aw_iret eX11_ask_17 rfl (Nat.le_refl _) (Nat.le_refl _) ?_
                  exact pe_i rfl rfl rfl))
      · refine AMet.of kX12_ask.1 (Nat.le_of_ble_eq_true rfl) rfl ?_
        refine aw_blk oX12_ask_0 (pc' := 1) (ls' := [_, _, _, _, _]) (st' := [_]) (cs := []) rfl trivial ?_
        refine aw_ciS (rest := []) (c_X12_isTown (by omega)) kX12_isTown eX12_ask_1 lX12_ask_1 rfl rfl (Nat.le_of_ble_eq_true rfl) ⟨Nat.le_of_ble_eq_true rfl, Nat.le_of_ble_eq_true rfl⟩ ⟨Nat.le_refl _, Nat.le_refl _⟩ ?_
        refine aw_if_eq (tgt := 14) eX12_ask_4 (by decide) bt_r (fun hh => have h66 := bt0 hh; ?_) (fun hh => have h66 := bt1 hh; ?_)
        · first
          | (exfalso; omega; done)
          | (refine aw_blk oX12_ask_14 (pc' := 15) (ls' := [_, _, _, _, _]) (st' := [_]) (cs := []) rfl trivial ?_
             refine aw_iret eX12_ask_15 rfl (Nat.le_refl _) (Nat.le_refl _) ?_
             exact pe_i rfl rfl rfl)
        · first
          | (exfalso; omega; done)
          | (refine aw_blk oX12_ask_7 (pc' := 8) (ls' := [_, _, _, _, _]) (st' := [_]) (cs := []) rfl trivial ?_
             refine aw_ciS (rest := []) (c_X12_isFilm (by omega)) kX12_isFilm eX12_ask_8 lX12_ask_8 rfl rfl (Nat.le_of_ble_eq_true rfl) ⟨Nat.le_of_ble_eq_true rfl, Nat.le_of_ble_eq_true rfl⟩ ⟨Nat.le_refl _, Nat.le_refl _⟩ ?_
             refine aw_if_ne (tgt := 16) eX12_ask_11 (by decide) bt_r (fun hh => have h67 := bt1 hh; ?_) (fun hh => have h67 := bt0 hh; ?_)
             · first
               | (exfalso; omega; done)
               | (refine aw_blk oX12_ask_16 (pc' := 21) (ls' := [_, _, _, _, _]) (st' := [_, _, _]) (cs := []) rfl trivial ?_
                  refine aw_ciS (rest := []) (c_X12_in (by omega) (by omega) (by omega)) kX12_in eX12_ask_21 lX12_ask_21 rfl rfl (Nat.le_of_ble_eq_true rfl) ⟨Nat.le_of_ble_eq_true rfl, Nat.le_of_ble_eq_true rfl⟩ ⟨Nat.le_refl _, Nat.le_refl _⟩ ?_
                  refine aw_if_ne (tgt := 30) eX12_ask_24 (by decide) bt_r (fun hh => have h68 := bt1 hh; ?_) (fun hh => have h68 := bt0 hh; ?_)
                  · first
                    | (exfalso; omega; done)
                    | (refine aw_blk oX12_ask_30 (pc' := 57) (ls' := [_, _, _, _, _]) (st' := [_]) (cs := [(_, _), (_, _)]) rfl (⟨⟨by omega, by omega⟩, ⟨by omega, by omega⟩, trivial⟩) ?_
                       refine aw_iret eX12_ask_57 rfl (Nat.le_refl _) (Nat.le_refl _) ?_
                       exact pe_i rfl rfl rfl)
                  · first
                    | (exfalso; omega; done)
                    | (refine aw_blk oX12_ask_27 (pc' := 29) (ls' := [_, _, _, _, _]) (st' := [_]) (cs := []) rfl trivial ?_
                       refine aw_iret eX12_ask_29 rfl (Nat.le_refl _) (Nat.le_refl _) ?_
                       exact pe_i rfl rfl rfl))
             · first
               | (exfalso; omega; done)
               | (refine aw_blk oX12_ask_14 (pc' := 15) (ls' := [_, _, _, _, _]) (st' := [_]) (cs := []) rfl trivial ?_
                  refine aw_iret eX12_ask_15 rfl (Nat.le_refl _) (Nat.le_refl _) ?_
                  exact pe_i rfl rfl rfl))
  · refine ⟨-1, μ, μ, ?_, ?_, by decide, h, SR.rf⟩
    · refine AMet.of kX11_ask.1 (Nat.le_of_ble_eq_true rfl) rfl ?_
      refine aw_blk oX11_ask_0 (pc' := 3) (ls' := [_, _, _, _]) (st' := [_, _, _]) (cs := []) rfl trivial ?_
      refine aw_ciS (rest := []) (c_X11_between (by omega) (by omega) (by omega)) kX11_between eX11_ask_3 lX11_ask_3 rfl rfl (Nat.le_of_ble_eq_true rfl) ⟨Nat.le_of_ble_eq_true rfl, Nat.le_of_ble_eq_true rfl⟩ ⟨Nat.le_refl _, Nat.le_refl _⟩ ?_
      refine aw_if_eq (tgt := 16) eX11_ask_6 (by decide) bt_r (fun hh => have h69 := bt0 hh; ?_) (fun hh => have h69 := bt1 hh; ?_)
      · first
        | (exfalso; omega; done)
        | (refine aw_blk oX11_ask_16 (pc' := 17) (ls' := [_, _, _, _]) (st' := [_]) (cs := []) rfl trivial ?_
           refine aw_iret eX11_ask_17 rfl (Nat.le_refl _) (Nat.le_refl _) ?_
           exact pe_i rfl rfl rfl)
      · first
        | (exfalso; omega; done)
        | (refine aw_blk oX11_ask_9 (pc' := 10) (ls' := [_, _, _, _]) (st' := [_]) (cs := []) rfl trivial ?_
           refine aw_ciS (rest := []) (c_X11_isFilm (by omega)) kX11_isFilm eX11_ask_10 lX11_ask_10 rfl rfl (Nat.le_of_ble_eq_true rfl) ⟨Nat.le_of_ble_eq_true rfl, Nat.le_of_ble_eq_true rfl⟩ ⟨Nat.le_refl _, Nat.le_refl _⟩ ?_
           refine aw_if_ne (tgt := 18) eX11_ask_13 (by decide) bt_r (fun hh => have h70 := bt1 hh; ?_) (fun hh => have h70 := bt0 hh; ?_)
           · first
             | (exfalso; omega; done)
             | (refine aw_blk oX11_ask_18 (pc' := 23) (ls' := [_, _, _, _]) (st' := [_, _, _]) (cs := []) rfl trivial ?_
                refine aw_ciS (rest := []) (c_X11_between (by omega) (by omega) (by omega)) kX11_between eX11_ask_23 lX11_ask_23 rfl rfl (Nat.le_of_ble_eq_true rfl) ⟨Nat.le_of_ble_eq_true rfl, Nat.le_of_ble_eq_true rfl⟩ ⟨Nat.le_refl _, Nat.le_refl _⟩ ?_
                refine aw_if_ne (tgt := 32) eX11_ask_26 (by decide) bt_r (fun hh => have h71 := bt1 hh; ?_) (fun hh => have h71 := bt0 hh; ?_)
                · first
                  | (exfalso; omega; done)
                  | (refine aw_blk oX11_ask_32 (pc' := 39) (ls' := [_, _, _, _]) (st' := [_, _, _, _]) (cs := []) rfl trivial ?_
                     refine aw_ciV (rest := []) (c_changeAsks (by omega) (by omega)) kX10_changeAsks eX11_ask_39 lX11_ask_39 rfl rfl rfl rfl (Nat.le_of_ble_eq_true rfl) ⟨Nat.le_of_ble_eq_true rfl, Nat.le_of_ble_eq_true rfl⟩ ⟨Nat.le_refl _, Nat.le_refl _⟩ ?_
                     refine aw_iret eX11_ask_42 rfl (Nat.le_refl _) (Nat.le_refl _) ?_
                     exact pe_i rfl rfl rfl)
                · first
                  | (exfalso; omega; done)
                  | (refine aw_blk oX11_ask_29 (pc' := 31) (ls' := [_, _, _, _]) (st' := [_]) (cs := []) rfl trivial ?_
                     refine aw_iret eX11_ask_31 rfl (Nat.le_refl _) (Nat.le_refl _) ?_
                     exact pe_i rfl rfl rfl))
           · first
             | (exfalso; omega; done)
             | (refine aw_blk oX11_ask_16 (pc' := 17) (ls' := [_, _, _, _]) (st' := [_]) (cs := []) rfl trivial ?_
                refine aw_iret eX11_ask_17 rfl (Nat.le_refl _) (Nat.le_refl _) ?_
                exact pe_i rfl rfl rfl))
    · refine AMet.of kX12_ask.1 (Nat.le_of_ble_eq_true rfl) rfl ?_
      refine aw_blk oX12_ask_0 (pc' := 1) (ls' := [_, _, _, _, _]) (st' := [_]) (cs := []) rfl trivial ?_
      refine aw_ciS (rest := []) (c_X12_isTown (by omega)) kX12_isTown eX12_ask_1 lX12_ask_1 rfl rfl (Nat.le_of_ble_eq_true rfl) ⟨Nat.le_of_ble_eq_true rfl, Nat.le_of_ble_eq_true rfl⟩ ⟨Nat.le_refl _, Nat.le_refl _⟩ ?_
      refine aw_if_eq (tgt := 14) eX12_ask_4 (by decide) bt_r (fun hh => have h72 := bt0 hh; ?_) (fun hh => have h72 := bt1 hh; ?_)
      · first
        | (exfalso; omega; done)
        | (refine aw_blk oX12_ask_14 (pc' := 15) (ls' := [_, _, _, _, _]) (st' := [_]) (cs := []) rfl trivial ?_
           refine aw_iret eX12_ask_15 rfl (Nat.le_refl _) (Nat.le_refl _) ?_
           exact pe_i rfl rfl rfl)
      · first
        | (exfalso; omega; done)
        | (refine aw_blk oX12_ask_7 (pc' := 8) (ls' := [_, _, _, _, _]) (st' := [_]) (cs := []) rfl trivial ?_
           refine aw_ciS (rest := []) (c_X12_isFilm (by omega)) kX12_isFilm eX12_ask_8 lX12_ask_8 rfl rfl (Nat.le_of_ble_eq_true rfl) ⟨Nat.le_of_ble_eq_true rfl, Nat.le_of_ble_eq_true rfl⟩ ⟨Nat.le_refl _, Nat.le_refl _⟩ ?_
           refine aw_if_ne (tgt := 16) eX12_ask_11 (by decide) bt_r (fun hh => have h73 := bt1 hh; ?_) (fun hh => have h73 := bt0 hh; ?_)
           · first
             | (exfalso; omega; done)
             | (refine aw_blk oX12_ask_16 (pc' := 21) (ls' := [_, _, _, _, _]) (st' := [_, _, _]) (cs := []) rfl trivial ?_
                refine aw_ciS (rest := []) (c_X12_in (by omega) (by omega) (by omega)) kX12_in eX12_ask_21 lX12_ask_21 rfl rfl (Nat.le_of_ble_eq_true rfl) ⟨Nat.le_of_ble_eq_true rfl, Nat.le_of_ble_eq_true rfl⟩ ⟨Nat.le_refl _, Nat.le_refl _⟩ ?_
                refine aw_if_ne (tgt := 30) eX12_ask_24 (by decide) bt_r (fun hh => have h74 := bt1 hh; ?_) (fun hh => have h74 := bt0 hh; ?_)
                · first
                  | (exfalso; omega; done)
                  | (refine aw_blk oX12_ask_30 (pc' := 57) (ls' := [_, _, _, _, _]) (st' := [_]) (cs := [(_, _), (_, _)]) rfl (⟨⟨by omega, by omega⟩, ⟨by omega, by omega⟩, trivial⟩) ?_
                     refine aw_iret eX12_ask_57 rfl (Nat.le_refl _) (Nat.le_refl _) ?_
                     exact pe_i rfl rfl rfl)
                · first
                  | (exfalso; omega; done)
                  | (refine aw_blk oX12_ask_27 (pc' := 29) (ls' := [_, _, _, _, _]) (st' := [_]) (cs := []) rfl trivial ?_
                     refine aw_iret eX12_ask_29 rfl (Nat.le_refl _) (Nat.le_refl _) ?_
                     exact pe_i rfl rfl rfl))
           · first
             | (exfalso; omega; done)
             | (refine aw_blk oX12_ask_14 (pc' := 15) (ls' := [_, _, _, _, _]) (st' := [_]) (cs := []) rfl trivial ?_
                refine aw_iret eX12_ask_15 rfl (Nat.le_refl _) (Nat.le_refl _) ?_
                exact pe_i rfl rfl rfl))
/-! KEPT: the best of 64 sets, tried in order -/
def bfS (w c : Int → Int) (room : Int) (s : Int × Int × Int) (x : Int) : Int × Int × Int := if w x ≤ room ∧ (c x < s.2.2 ∨ c x = s.2.2 ∧ w x < s.2.1) then (x, w x, c x) else s
def bf (w c : Int → Int) (room : Int) : Nat → Int × Int × Int
  | 0 => (0, w 0, c 0)
  | n + 1 => bfS w c room (bf w c room n) ((n : Int) + 1)
theorem bf_inv {w c : Int → Int} {room : Int} : ∀ (n : Nat) (b bw bc : Int), bf w c room n = (b, bw, bc) → 0 ≤ b ∧ b ≤ n ∧ bw = w b ∧ bc = c b
  | 0, b, bw, bc, h => by
    simp only [bf, Prod.mk.injEq] at h
    obtain ⟨rfl, rfl, rfl⟩ := h
    simp
  | n + 1, b, bw, bc, h => by
    cases hb : bf w c room n with
    | mk b2 q =>
      obtain ⟨w2, c2⟩ := q
      have ih := bf_inv n b2 w2 c2 hb
      simp only [bf, hb, bfS] at h
      split at h
      · simp only [Prod.mk.injEq] at h
        obtain ⟨rfl, rfl, rfl⟩ := h
        refine ⟨by omega, by omega, rfl, rfl⟩
      · simp only [Prod.mk.injEq] at h
        obtain ⟨rfl, rfl, rfl⟩ := h
        exact ⟨ih.1, by omega, ih.2.2⟩
theorem wgt_bd {w : Int → Int} (h : ∀ k : Int, 0 ≤ k → k < 6 → 1 ≤ w k ∧ w k ≤ 50) (f : Int) : 0 ≤ wgt w f ∧ wgt w f ≤ 300 := by
  have := sm_bd (g := fun k => bitk f k * w k) (B := 50) 6 (fun k hk => by
    have h1 := h k (by omega) (by omega)
    rcases bitk01 f k with e | e <;> simp only [e] <;> omega)
  exact ⟨this.1, by have := this.2; simp at this; exact this⟩
theorem cst_bd {a : Int → Int} {far t : Int} (ht : 0 ≤ t ∧ t < 4) (hf : 0 ≤ far ∧ far ≤ 100) (h : ∀ i : Int, 0 ≤ i → i < 24 → 0 ≤ a i ∧ a i ≤ 1000) (f : Int) : 0 ≤ cst a far t f ∧ cst a far t f ≤ 600000 := by
  have := sm_bd (g := fun k => if bitk f k = 0 then a (t * 6 + k) else 0) (B := 1000) 6 (fun k hk => by
    have h1 := h (t * 6 + k) (by omega) (by omega)
    split <;> omega)
  unfold cst
  generalize sm (fun k => if bitk f k = 0 then a (t * 6 + k) else 0) 6 = q at this
  simp at this
  refine ⟨Int.mul_nonneg this.1 hf.1, ?_⟩
  calc q * far ≤ 6000 * far := Int.mul_le_mul_of_nonneg_right (by omega) hf.1
    _ ≤ 600000 := by omega
theorem wgt0 {w : Int → Int} : wgt w 0 = 0 := by
  have e : ∀ k : Nat, k < 6 → bitk 0 (k : Int) = 0 := by decide
  unfold wgt
  rw [sm_congr (h := fun _ => 0) 6 (fun k hk => by rw [e k hk]; simp)]
  rfl
theorem oth_eq {μ : MM} (h : RT μ) {t : Int} (ht : 0 ≤ t ∧ t < 4) (f : Int) : sm (fun k => (1 - bitk f k) * μ 66 (6 * t + k) * μ 64 t) 6 = cst (μ 37) (μ 35 t) t f := by
  unfold cst
  rw [sm_mul]
  refine sm_congr 6 (fun k hk => ?_)
  have h4 := h.2.2.2 (6 * t + k) (by omega) (by omega)
  have h2 := h.2.1 t (by omega) (by omega)
  rw [h4.1, h2.1, show 6 * t + (k : Int) = t * 6 + k by omega]
  rcases bitk01 f k with e | e <;> rw [e] <;> simp
theorem wgt_eq {μ : MM} (h : RT μ) (f : Int) : wgt (μ 65) f = wgt (μ 36) f := by
  refine sm_congr 6 (fun k hk => ?_)
  rw [(h.2.2.1 k (by omega) (by omega)).1]
theorem l_bestFilms {κ : KX} {μ : MM} {ν : ML} {t : Int} (h : RT μ) (ht : 0 ≤ t ∧ t < 4) (n : Nat) : ∀ (k : Nat) (b bw bc : Int) (u6 u7 : AV), k + n = 63 → bf (wgt (μ 36)) (cst (μ 37) (μ 35 t) t) (μ 34 t) k = (b, bw, bc) → AX κ mX10_bestFilms 1 (PE (some (aI (bf (wgt (μ 36)) (cst (μ 37) (μ 35 t) t) (μ 34 t) 63).1)) μ ν) 15 [aR 33, aI t, aI b, aI bw, aI bc, aI ((k : Int) + 1), u6, u7] [] μ ν := by
  induction n with
  | zero =>
    intro k b bw bc u6 u7 hk hb
    have e : k = 63 := by omega
    subst e
    refine aw_blk oX10_bestFilms_15 (pc' := 19) (ls' := [_, _, _, _, _, _, _, _]) (st' := [_, _]) (cs := []) rfl trivial ?_
    refine aw_icmp_ge (tgt := 86) eX10_bestFilms_19 (by decide) (by omega) (by omega) (fun h1 => ?_) (fun h1 => ?_)
    · refine aw_blk oX10_bestFilms_86 (pc' := 87) (ls' := [_, _, _, _, _, _, _, _]) (st' := [_]) (cs := []) rfl trivial ?_
      refine aw_iret eX10_bestFilms_87 rfl (Nat.le_refl _) (Nat.le_refl _) ?_
      exact pe_i (by rw [hb]) rfl rfl
    · exfalso; omega
  | succ n ih =>
    intro k b bw bc u6 u7 hk hb
    have hi := bf_inv k b bw bc hb
    have hw := wgt_bd (fun k h0 h1 => (h.2.2.1 k h0 h1).2) ((k : Int) + 1)
    have hc := cst_bd ht (h.2.1 t ht.1 ht.2).2 (fun k h0 h1 => (h.2.2.2 k h0 h1).2) ((k : Int) + 1)
    have hwb := wgt_bd (fun k h0 h1 => (h.2.2.1 k h0 h1).2) b
    have hcb := cst_bd ht (h.2.1 t ht.1 ht.2).2 (fun k h0 h1 => (h.2.2.2 k h0 h1).2) b
    rw [← hi.2.2.1] at hwb
    rw [← hi.2.2.2] at hcb
    have hr := (h.1 t ht.1 ht.2).2
    have hst : bf (wgt (μ 36)) (cst (μ 37) (μ 35 t) t) (μ 34 t) (k + 1) = bfS (wgt (μ 36)) (cst (μ 37) (μ 35 t) t) (μ 34 t) (b, bw, bc) ((k : Int) + 1) := by rw [← hb]; rfl
    unfold bfS at hst
    dsimp only at hst
    refine aw_blk oX10_bestFilms_15 (pc' := 19) (ls' := [_, _, _, _, _, _, _, _]) (st' := [_, _]) (cs := []) rfl trivial ?_
    refine aw_icmp_ge (tgt := 86) eX10_bestFilms_19 (by decide) (by omega) (by omega) (fun h1 => ?_) (fun h1 => ?_)
    · exfalso; omega
    · refine aw_blk oX10_bestFilms_22 (pc' := 25) (ls' := [_, _, _, _, _, _, _, _]) (st' := [_, _]) (cs := []) rfl trivial ?_
      refine aw_ciV (rest := []) (c_weightOf (by omega)) kX10_weightOf eX10_bestFilms_25 lX10_bestFilms_25 rfl rfl rfl rfl (Nat.le_of_ble_eq_true rfl) ⟨Nat.le_of_ble_eq_true rfl, Nat.le_of_ble_eq_true rfl⟩ ⟨Nat.le_refl _, Nat.le_refl _⟩ ?_
      refine aw_blk oX10_bestFilms_28 (pc' := 38) (ls' := [_, _, _, _, _, _, _, _]) (st' := [_, _]) (cs := [(_, _)]) rfl (⟨⟨by omega, by omega⟩, trivial⟩) ?_
      refine aw_icmp_gt (tgt := 80) eX10_bestFilms_38 (by decide) (by omega) (by omega) (fun h2 => ?_) (fun h2 => ?_)
      · refine aw_blk oX10_bestFilms_80 (pc' := 15) (ls' := [_, _, _, _, _, _, _, _]) (st' := []) (cs := []) rfl trivial ?_
        rw [if_neg (by omega)] at hst
        exact ih (k + 1) b bw bc _ _ (by omega) hst
      · refine aw_blk oX10_bestFilms_41 (pc' := 45) (ls' := [_, _, _, _, _, _, _, _]) (st' := [_, _, _]) (cs := []) rfl trivial ?_
        refine aw_ciV (rest := []) (c_costOf ht) kX10_costOf eX10_bestFilms_45 lX10_bestFilms_45 rfl rfl rfl rfl (Nat.le_of_ble_eq_true rfl) ⟨Nat.le_of_ble_eq_true rfl, Nat.le_of_ble_eq_true rfl⟩ ⟨Nat.le_refl _, Nat.le_refl _⟩ ?_
        refine aw_blk oX10_bestFilms_48 (pc' := 54) (ls' := [_, _, _, _, _, _, _, _]) (st' := [_, _]) (cs := []) rfl trivial ?_
        refine aw_icmp_lt (tgt := 70) eX10_bestFilms_54 (by decide) (by omega) (by omega) (fun h3 => ?_) (fun h3 => ?_)
        · refine aw_blk oX10_bestFilms_70 (pc' := 80) (ls' := [_, _, _, _, _, _, _, _]) (st' := []) (cs := []) rfl trivial ?_
          refine aw_blk oX10_bestFilms_80 (pc' := 15) (ls' := [_, _, _, _, _, _, _, _]) (st' := []) (cs := []) rfl trivial ?_
          rw [if_pos (by omega)] at hst
          exact ih (k + 1) _ _ _ _ _ (by omega) hst
        · refine aw_blk oX10_bestFilms_57 (pc' := 61) (ls' := [_, _, _, _, _, _, _, _]) (st' := [_, _]) (cs := []) rfl trivial ?_
          refine aw_icmp_ne (tgt := 80) eX10_bestFilms_61 (by decide) (by omega) (by omega) (fun h4 => ?_) (fun h4 => ?_)
          · refine aw_blk oX10_bestFilms_80 (pc' := 15) (ls' := [_, _, _, _, _, _, _, _]) (st' := []) (cs := []) rfl trivial ?_
            rw [if_neg (by omega)] at hst
            exact ih (k + 1) b bw bc _ _ (by omega) hst
          · refine aw_blk oX10_bestFilms_64 (pc' := 67) (ls' := [_, _, _, _, _, _, _, _]) (st' := [_, _]) (cs := []) rfl trivial ?_
            refine aw_icmp_ge (tgt := 80) eX10_bestFilms_67 (by decide) (by omega) (by omega) (fun h5 => ?_) (fun h5 => ?_)
            · refine aw_blk oX10_bestFilms_80 (pc' := 15) (ls' := [_, _, _, _, _, _, _, _]) (st' := []) (cs := []) rfl trivial ?_
              rw [if_neg (by omega)] at hst
              exact ih (k + 1) b bw bc _ _ (by omega) hst
            · refine aw_blk oX10_bestFilms_70 (pc' := 80) (ls' := [_, _, _, _, _, _, _, _]) (st' := []) (cs := []) rfl trivial ?_
              refine aw_blk oX10_bestFilms_80 (pc' := 15) (ls' := [_, _, _, _, _, _, _, _]) (st' := []) (cs := []) rfl trivial ?_
              rw [if_pos (by omega)] at hst
              exact ih (k + 1) _ _ _ _ _ (by omega) hst
theorem c_bestFilms {κ : KX} {μ : MM} {ν : ML} {t : Int} (h : RT μ) (ht : 0 ≤ t ∧ t < 4) : AE κ 1 mX10_bestFilms [aR 33, aI t] μ ν (some (aI (bf (wgt (μ 36)) (cst (μ 37) (μ 35 t) t) (μ 34 t) 63).1)) μ ν := by
  refine AMet.of kX10_bestFilms.1 (Nat.le_of_ble_eq_true rfl) rfl ?_
  refine aw_blk oX10_bestFilms_0 (pc' := 7) (ls' := [_, _, _, _, _, _, _, _]) (st' := [_, _, _]) (cs := []) rfl trivial ?_
  refine aw_ciV (rest := []) (c_costOf ht) kX10_costOf eX10_bestFilms_7 lX10_bestFilms_7 rfl rfl rfl rfl (Nat.le_of_ble_eq_true rfl) ⟨Nat.le_of_ble_eq_true rfl, Nat.le_of_ble_eq_true rfl⟩ ⟨Nat.le_refl _, Nat.le_refl _⟩ ?_
  refine aw_blk oX10_bestFilms_10 (pc' := 15) (ls' := [_, _, _, _, _, _, _, _]) (st' := []) (cs := []) rfl trivial ?_
  exact l_bestFilms h ht 63 0 _ _ _ _ _ rfl (by simp only [bf, wgt0])
theorem l_keptIn {κ : KX} {μ : MM} {ν : ML} {P : Option AV → List SH → MM → ML → Prop} {t what best least light set : Int} (ht : 0 ≤ t ∧ t < 4) (n : Nat) : ∀ k : Nat, k + n = 6 → AX κ mX12_kept 60 P 116 [aR 55, aI t, aI what, aI best, aI least, aI light, aI set, aI (wgt (μ 65) set), aI (sm (fun k => (1 - bitk set k) * μ 66 (6 * t + k) * μ 64 t) 6), aI 6] [] μ ν → AX κ mX12_kept 60 P 49 [aR 55, aI t, aI what, aI best, aI least, aI light, aI set, aI (sm (fun k => bitk set k * μ 65 k) k), aI (sm (fun k => (1 - bitk set k) * μ 66 (6 * t + k) * μ 64 t) k), aI k] [] μ ν := by
  induction n with
  | zero =>
    intro k hk K
    have e : k = 6 := by omega
    subst e
    refine aw_blk oX12_kept_49 (pc' := 53) (ls' := [_, _, _, _, _, _, _, _, _, _]) (st' := [_, _]) (cs := []) rfl trivial ?_
    refine aw_icmp_ge (tgt := 116) eX12_kept_53 (by decide) (by omega) (by omega) (fun h => ?_) (fun h => ?_)
    · exact K
    · exfalso; omega
  | succ n ih =>
    intro k hk K
    refine aw_blk oX12_kept_49 (pc' := 53) (ls' := [_, _, _, _, _, _, _, _, _, _]) (st' := [_, _]) (cs := []) rfl trivial ?_
    refine aw_icmp_ge (tgt := 116) eX12_kept_53 (by decide) (by omega) (by omega) (fun h => ?_) (fun h => ?_)
    · exfalso; omega
    · refine aw_blk oX12_kept_56 (pc' := 49) (ls' := [_, _, _, _, _, _, _, _, _, _]) (st' := []) (cs := [(_, _), (_, _), (_, _)]) rfl (⟨⟨by omega, by omega⟩, ⟨by omega, by omega⟩, ⟨by omega, by omega⟩, trivial⟩) ?_
      exact ih (k + 1) (by omega) K
theorem l_kept {κ : KX} {μ : MM} {ν : ML} {t what : Int} (h : RT μ) (ht : 0 ≤ t ∧ t < 4) (hw : what = 0 ∨ what = 1) (n : Nat) : ∀ (k : Nat) (best least light : Int) (u7 u8 u9 : AV), k + n = 64 → ((k = 0 ∧ best = -6 ∧ least = 0 ∧ light = 0) ∨ ∃ j, k = j + 1 ∧ bf (wgt (μ 36)) (cst (μ 37) (μ 35 t) t) (μ 34 t) j = (best, light, least)) → AX κ mX12_kept 60 (PE (some (aI (if what = 0 then (bf (wgt (μ 36)) (cst (μ 37) (μ 35 t) t) (μ 34 t) 63).1 else (bf (wgt (μ 36)) (cst (μ 37) (μ 35 t) t) (μ 34 t) 63).2.2))) μ ν) 33 [aR 55, aI t, aI what, aI best, aI least, aI light, aI k, u7, u8, u9] [] μ ν := by
  induction n with
  | zero =>
    intro k best least light u7 u8 u9 hk hb
    have e : k = 64 := by omega
    subst e
    rcases hb with hb | ⟨j, hj, hb⟩
    · exfalso; omega
    have e : j = 63 := by omega
    subst e
    refine aw_blk oX12_kept_33 (pc' := 37) (ls' := [_, _, _, _, _, _, _, _, _, _]) (st' := [_, _]) (cs := []) rfl trivial ?_
    refine aw_icmp_ge (tgt := 169) eX12_kept_37 (by decide) (by omega) (by omega) (fun h1 => ?_) (fun h1 => ?_)
    · refine aw_blk oX12_kept_169 (pc' := 170) (ls' := [_, _, _, _, _, _, _, _, _, _]) (st' := [_]) (cs := []) rfl trivial ?_
      refine aw_if_ne (tgt := 177) eX12_kept_170 (by decide) (by omega) (fun h2 => ?_) (fun h2 => ?_)
      · refine aw_blk oX12_kept_177 (pc' := 179) (ls' := [_, _, _, _, _, _, _, _, _, _]) (st' := [_]) (cs := []) rfl trivial ?_
        refine aw_iret eX12_kept_179 rfl (Nat.le_refl _) (Nat.le_refl _) ?_
        exact pe_i (by rw [if_neg h2, hb]) rfl rfl
      · refine aw_blk oX12_kept_173 (pc' := 179) (ls' := [_, _, _, _, _, _, _, _, _, _]) (st' := [_]) (cs := []) rfl trivial ?_
        refine aw_iret eX12_kept_179 rfl (Nat.le_refl _) (Nat.le_refl _) ?_
        exact pe_i (by rw [if_pos h2, hb]) rfl rfl
    · exfalso; omega
  | succ n ih =>
    intro k best least light u7 u8 u9 hk hb
    have hwk := wgt_bd (fun k h0 h1 => (h.2.2.1 k h0 h1).2) (k : Int)
    have hck := cst_bd ht (h.2.1 t ht.1 ht.2).2 (fun k h0 h1 => (h.2.2.2 k h0 h1).2) (k : Int)
    have hr := h.1 t ht.1 ht.2
    have hbd : R32 best ∧ R32 least ∧ R32 light ∧ (k = 0 → best < 0) ∧ (0 < k → 0 ≤ best) := by
      rcases hb with ⟨rfl, rfl, rfl, rfl⟩ | ⟨j, rfl, hb⟩
      · decide
      · have hi := bf_inv j _ _ _ hb
        have hwb := wgt_bd (fun k h0 h1 => (h.2.2.1 k h0 h1).2) best
        have hcb := cst_bd ht (h.2.1 t ht.1 ht.2).2 (fun k h0 h1 => (h.2.2.2 k h0 h1).2) best
        rw [← hi.2.2.1] at hwb
        rw [← hi.2.2.2] at hcb
        omega
    have hst : ∀ b2 l2 g2 : Int, (b2, g2, l2) = (if wgt (μ 36) k ≤ μ 34 t ∧ (best < 0 ∨ cst (μ 37) (μ 35 t) t k < least ∨ cst (μ 37) (μ 35 t) t k = least ∧ wgt (μ 36) k < light) then ((k : Int), wgt (μ 36) k, cst (μ 37) (μ 35 t) t k) else (best, light, least)) → bf (wgt (μ 36)) (cst (μ 37) (μ 35 t) t) (μ 34 t) k = (b2, g2, l2) := by
      intro b2 l2 g2 he
      rw [he]
      rcases hb with ⟨rfl, rfl, rfl, rfl⟩ | ⟨j, rfl, hb⟩
      · rw [if_pos]
        · rfl
        · have : wgt (μ 36) 0 = 0 := wgt0
          refine ⟨?_, Or.inl (by decide)⟩
          show wgt (μ 36) 0 ≤ _
          omega
      · have h0 : ¬ best < 0 := by omega
        show bfS _ _ _ (bf _ _ _ j) _ = _
        rw [hb]
        simp only [bfS, h0, false_or]
        rfl
    refine aw_blk oX12_kept_33 (pc' := 37) (ls' := [_, _, _, _, _, _, _, _, _, _]) (st' := [_, _]) (cs := []) rfl trivial ?_
    refine aw_icmp_ge (tgt := 169) eX12_kept_37 (by decide) (by omega) (by omega) (fun h1 => ?_) (fun h1 => ?_)
    · exfalso; omega
    · refine aw_blk oX12_kept_40 (pc' := 49) (ls' := [_, _, _, _, _, _, _, _, _, _]) (st' := []) (cs := []) rfl trivial ?_
      refine l_keptIn ht 6 0 rfl ?_
      rw [oth_eq h ht, wgt_eq h]
      refine aw_blk oX12_kept_116 (pc' := 124) (ls' := [_, _, _, _, _, _, _, _, _, _]) (st' := [_, _]) (cs := [(_, _)]) rfl (⟨⟨by omega, by omega⟩, trivial⟩) ?_
      refine aw_icmp_gt (tgt := 163) eX12_kept_124 (by decide) (by omega) (by omega) (fun h2 => ?_) (fun h2 => ?_)
      · refine aw_blk oX12_kept_163 (pc' := 33) (ls' := [_, _, _, _, _, _, _, _, _, _]) (st' := []) (cs := []) rfl trivial ?_
        refine ih (k + 1) best least light _ _ _ (by omega) (Or.inr ⟨k, rfl, hst _ _ _ ?_⟩)
        rw [if_neg (by omega)]
      · refine aw_blk oX12_kept_127 (pc' := 128) (ls' := [_, _, _, _, _, _, _, _, _, _]) (st' := [_]) (cs := []) rfl trivial ?_
        refine aw_if_lt (tgt := 152) eX12_kept_128 (by decide) (by omega) (fun h3 => ?_) (fun h3 => ?_)
        · refine aw_blk oX12_kept_152 (pc' := 163) (ls' := [_, _, _, _, _, _, _, _, _, _]) (st' := []) (cs := []) rfl trivial ?_
          refine aw_blk oX12_kept_163 (pc' := 33) (ls' := [_, _, _, _, _, _, _, _, _, _]) (st' := []) (cs := []) rfl trivial ?_
          refine ih (k + 1) _ _ _ _ _ _ (by omega) (Or.inr ⟨k, rfl, hst _ _ _ ?_⟩)
          rw [if_pos (by omega)]
        · refine aw_blk oX12_kept_131 (pc' := 135) (ls' := [_, _, _, _, _, _, _, _, _, _]) (st' := [_, _]) (cs := []) rfl trivial ?_
          refine aw_icmp_lt (tgt := 152) eX12_kept_135 (by decide) (by omega) (by omega) (fun h4 => ?_) (fun h4 => ?_)
          · refine aw_blk oX12_kept_152 (pc' := 163) (ls' := [_, _, _, _, _, _, _, _, _, _]) (st' := []) (cs := []) rfl trivial ?_
            refine aw_blk oX12_kept_163 (pc' := 33) (ls' := [_, _, _, _, _, _, _, _, _, _]) (st' := []) (cs := []) rfl trivial ?_
            refine ih (k + 1) _ _ _ _ _ _ (by omega) (Or.inr ⟨k, rfl, hst _ _ _ ?_⟩)
            rw [if_pos (by omega)]
          · refine aw_blk oX12_kept_138 (pc' := 142) (ls' := [_, _, _, _, _, _, _, _, _, _]) (st' := [_, _]) (cs := []) rfl trivial ?_
            refine aw_icmp_ne (tgt := 163) eX12_kept_142 (by decide) (by omega) (by omega) (fun h5 => ?_) (fun h5 => ?_)
            · refine aw_blk oX12_kept_163 (pc' := 33) (ls' := [_, _, _, _, _, _, _, _, _, _]) (st' := []) (cs := []) rfl trivial ?_
              refine ih (k + 1) best least light _ _ _ (by omega) (Or.inr ⟨k, rfl, hst _ _ _ ?_⟩)
              rw [if_neg (by omega)]
            · refine aw_blk oX12_kept_145 (pc' := 149) (ls' := [_, _, _, _, _, _, _, _, _, _]) (st' := [_, _]) (cs := []) rfl trivial ?_
              refine aw_icmp_ge (tgt := 163) eX12_kept_149 (by decide) (by omega) (by omega) (fun h6 => ?_) (fun h6 => ?_)
              · refine aw_blk oX12_kept_163 (pc' := 33) (ls' := [_, _, _, _, _, _, _, _, _, _]) (st' := []) (cs := []) rfl trivial ?_
                refine ih (k + 1) best least light _ _ _ (by omega) (Or.inr ⟨k, rfl, hst _ _ _ ?_⟩)
                rw [if_neg (by omega)]
              · refine aw_blk oX12_kept_152 (pc' := 163) (ls' := [_, _, _, _, _, _, _, _, _, _]) (st' := []) (cs := []) rfl trivial ?_
                refine aw_blk oX12_kept_163 (pc' := 33) (ls' := [_, _, _, _, _, _, _, _, _, _]) (st' := []) (cs := []) rfl trivial ?_
                refine ih (k + 1) _ _ _ _ _ _ (by omega) (Or.inr ⟨k, rfl, hst _ _ _ ?_⟩)
                rw [if_pos (by omega)]
theorem law_kept {κ : KX} {μ : MM} {ν : ML} {t w : Int} (h : RT μ) (ht : R32 t) (hw : R32 w) : LawM RT csT κ mX11_kept mX12_kept [aI t, aI w] μ ν := by
  by_cases c1 : 0 ≤ t ∧ t ≤ 3
  · by_cases c2 : 0 ≤ w ∧ w ≤ 1
    · rcases hb : bf (wgt (μ 36)) (cst (μ 37) (μ 35 t) t) (μ 34 t) 63 with ⟨b, bw, bc⟩
      have hi := bf_inv 63 b bw bc hb
      have hcb := cst_bd (t := t) (by omega) (h.2.1 t (by omega) (by omega)).2 (fun k h0 h1 => (h.2.2.2 k h0 h1).2) b
      rw [← hi.2.2.2] at hcb
      have e1 : (bf (wgt (μ 36)) (cst (μ 37) (μ 35 t) t) (μ 34 t) 63).1 = b := by rw [hb]
      refine ⟨if w = 0 then b else bc, μ, μ, ?_, ?_, by split <;> omega, h, SR.rf⟩
      · skip
        refine AMet.of kX11_kept.1 (Nat.le_of_ble_eq_true rfl) rfl ?_
        refine aw_blk oX11_kept_0 (pc' := 3) (ls' := [_, _, _, _]) (st' := [_, _, _]) (cs := []) rfl trivial ?_
        refine aw_ciS (rest := []) (c_X11_between (by omega) (by omega) (by omega)) kX11_between eX11_kept_3 lX11_kept_3 rfl rfl (Nat.le_of_ble_eq_true rfl) ⟨Nat.le_of_ble_eq_true rfl, Nat.le_of_ble_eq_true rfl⟩ ⟨Nat.le_refl _, Nat.le_refl _⟩ ?_
        refine aw_if_ne (tgt := 11) eX11_kept_6 (by decide) bt_r (fun hh => have h75 := bt1 hh; ?_) (fun hh => have h75 := bt0 hh; ?_)
        · first
          | (exfalso; omega; done)
          | (refine aw_blk oX11_kept_11 (pc' := 14) (ls' := [_, _, _, _]) (st' := [_, _, _]) (cs := []) rfl trivial ?_
             refine aw_ciS (rest := []) (c_X11_between (by omega) (by omega) (by omega)) kX11_between eX11_kept_14 lX11_kept_14 rfl rfl (Nat.le_of_ble_eq_true rfl) ⟨Nat.le_of_ble_eq_true rfl, Nat.le_of_ble_eq_true rfl⟩ ⟨Nat.le_refl _, Nat.le_refl _⟩ ?_
             refine aw_if_ne (tgt := 23) eX11_kept_17 (by decide) bt_r (fun hh => have h76 := bt1 hh; ?_) (fun hh => have h76 := bt0 hh; ?_)
             · first
               | (exfalso; omega; done)
               | (refine aw_blk oX11_kept_23 (pc' := 28) (ls' := [_, _, _, _]) (st' := [_, _]) (cs := []) rfl trivial ?_
                  refine aw_ciV (rest := []) (c_bestFilms h (by omega)) kX10_bestFilms eX11_kept_28 lX11_kept_28 rfl rfl rfl rfl (Nat.le_of_ble_eq_true rfl) ⟨Nat.le_of_ble_eq_true rfl, Nat.le_of_ble_eq_true rfl⟩ ⟨Nat.le_refl _, Nat.le_refl _⟩ ?_
                  refine aw_blk oX11_kept_31 (pc' := 33) (ls' := [_, _, _, _]) (st' := [_]) (cs := []) rfl trivial ?_
                  refine aw_if_ne (tgt := 40) eX11_kept_33 (by decide) (by omega) (fun h77 => ?_) (fun h77 => ?_)
                  · first
                    | (exfalso; omega; done)
                    | (refine aw_blk oX11_kept_40 (pc' := 46) (ls' := [_, _, _, _]) (st' := [_, _, _]) (cs := []) rfl trivial ?_
                       refine aw_ciV (rest := []) (c_costOf (by omega)) kX10_costOf eX11_kept_46 lX11_kept_46 rfl rfl rfl rfl (Nat.le_of_ble_eq_true rfl) ⟨Nat.le_of_ble_eq_true rfl, Nat.le_of_ble_eq_true rfl⟩ ⟨Nat.le_refl _, Nat.le_refl _⟩ ?_
                       refine aw_iret eX11_kept_49 rfl (Nat.le_refl _) (Nat.le_refl _) ?_
                       exact pe_i (by first | (rw [if_pos (by omega)]; exact e1) | (rw [if_neg (by omega), hi.2.2.2, e1])) rfl rfl)
                  · first
                    | (exfalso; omega; done)
                    | (refine aw_blk oX11_kept_36 (pc' := 49) (ls' := [_, _, _, _]) (st' := [_]) (cs := []) rfl trivial ?_
                       refine aw_iret eX11_kept_49 rfl (Nat.le_refl _) (Nat.le_refl _) ?_
                       exact pe_i (by first | (rw [if_pos (by omega)]; exact e1) | (rw [if_neg (by omega), hi.2.2.2, e1])) rfl rfl))
             · first
               | (exfalso; omega; done)
               | (refine aw_blk oX11_kept_20 (pc' := 22) (ls' := [_, _, _, _]) (st' := [_]) (cs := []) rfl trivial ?_
                  refine aw_iret eX11_kept_22 rfl (Nat.le_refl _) (Nat.le_refl _) ?_
                  exact pe_i (by first | (rw [if_pos (by omega)]; exact e1) | (rw [if_neg (by omega), hi.2.2.2, e1])) rfl rfl))
        · first
          | (exfalso; omega; done)
          | (refine aw_blk oX11_kept_9 (pc' := 10) (ls' := [_, _, _, _]) (st' := [_]) (cs := []) rfl trivial ?_
             refine aw_iret eX11_kept_10 rfl (Nat.le_refl _) (Nat.le_refl _) ?_
             exact pe_i (by first | (rw [if_pos (by omega)]; exact e1) | (rw [if_neg (by omega), hi.2.2.2, e1])) rfl rfl)
      · have := l_kept (κ := κ) (ν := ν) h (t := t) (what := w) (by omega) (by omega) 64 0 (-6) 0 0 aU aU aU rfl (Or.inl ⟨rfl, rfl, rfl, rfl⟩)
        rw [hb] at this
        refine AMet.of kX12_kept.1 (Nat.le_of_ble_eq_true rfl) rfl ?_
        refine aw_blk oX12_kept_0 (pc' := 1) (ls' := [_, _, _, _, _, _, _, _, _, _]) (st' := [_]) (cs := []) rfl trivial ?_
        refine aw_ciS (rest := []) (c_X12_isTown (by omega)) kX12_isTown eX12_kept_1 lX12_kept_1 rfl rfl (Nat.le_of_ble_eq_true rfl) ⟨Nat.le_of_ble_eq_true rfl, Nat.le_of_ble_eq_true rfl⟩ ⟨Nat.le_refl _, Nat.le_refl _⟩ ?_
        refine aw_if_ne (tgt := 9) eX12_kept_4 (by decide) bt_r (fun hh => have h78 := bt1 hh; ?_) (fun hh => have h78 := bt0 hh; ?_)
        · first
          | (exfalso; omega; done)
          | (refine aw_blk oX12_kept_9 (pc' := 12) (ls' := [_, _, _, _, _, _, _, _, _, _]) (st' := [_, _, _]) (cs := []) rfl trivial ?_
             refine aw_ciS (rest := []) (c_X12_in (by omega) (by omega) (by omega)) kX12_in eX12_kept_12 lX12_kept_12 rfl rfl (Nat.le_of_ble_eq_true rfl) ⟨Nat.le_of_ble_eq_true rfl, Nat.le_of_ble_eq_true rfl⟩ ⟨Nat.le_refl _, Nat.le_refl _⟩ ?_
             refine aw_if_ne (tgt := 21) eX12_kept_15 (by decide) bt_r (fun hh => have h79 := bt1 hh; ?_) (fun hh => have h79 := bt0 hh; ?_)
             · first
               | (exfalso; omega; done)
               | (refine aw_blk oX12_kept_21 (pc' := 33) (ls' := [_, _, _, _, _, _, _, _, _, _]) (st' := []) (cs := []) rfl trivial ?_
                  exact this)
             · first
               | (exfalso; omega; done)
               | (refine aw_blk oX12_kept_18 (pc' := 20) (ls' := [_, _, _, _, _, _, _, _, _, _]) (st' := [_]) (cs := []) rfl trivial ?_
                  refine aw_iret eX12_kept_20 rfl (Nat.le_refl _) (Nat.le_refl _) ?_
                  skip))
        · first
          | (exfalso; omega; done)
          | (refine aw_blk oX12_kept_7 (pc' := 8) (ls' := [_, _, _, _, _, _, _, _, _, _]) (st' := [_]) (cs := []) rfl trivial ?_
             refine aw_iret eX12_kept_8 rfl (Nat.le_refl _) (Nat.le_refl _) ?_
             skip)
    · refine ⟨-2, μ, μ, ?_, ?_, by decide, h, SR.rf⟩
      · refine AMet.of kX11_kept.1 (Nat.le_of_ble_eq_true rfl) rfl ?_
        refine aw_blk oX11_kept_0 (pc' := 3) (ls' := [_, _, _, _]) (st' := [_, _, _]) (cs := []) rfl trivial ?_
        refine aw_ciS (rest := []) (c_X11_between (by omega) (by omega) (by omega)) kX11_between eX11_kept_3 lX11_kept_3 rfl rfl (Nat.le_of_ble_eq_true rfl) ⟨Nat.le_of_ble_eq_true rfl, Nat.le_of_ble_eq_true rfl⟩ ⟨Nat.le_refl _, Nat.le_refl _⟩ ?_
        refine aw_if_ne (tgt := 11) eX11_kept_6 (by decide) bt_r (fun hh => have h80 := bt1 hh; ?_) (fun hh => have h80 := bt0 hh; ?_)
        · first
          | (exfalso; omega; done)
          | (refine aw_blk oX11_kept_11 (pc' := 14) (ls' := [_, _, _, _]) (st' := [_, _, _]) (cs := []) rfl trivial ?_
             refine aw_ciS (rest := []) (c_X11_between (by omega) (by omega) (by omega)) kX11_between eX11_kept_14 lX11_kept_14 rfl rfl (Nat.le_of_ble_eq_true rfl) ⟨Nat.le_of_ble_eq_true rfl, Nat.le_of_ble_eq_true rfl⟩ ⟨Nat.le_refl _, Nat.le_refl _⟩ ?_
             refine aw_if_ne (tgt := 23) eX11_kept_17 (by decide) bt_r (fun hh => have h81 := bt1 hh; ?_) (fun hh => have h81 := bt0 hh; ?_)
             · first
               | (exfalso; omega; done)
               | (refine aw_blk oX11_kept_23 (pc' := 28) (ls' := [_, _, _, _]) (st' := [_, _]) (cs := []) rfl trivial ?_
                  refine aw_ciV (rest := []) (c_bestFilms h (by omega)) kX10_bestFilms eX11_kept_28 lX11_kept_28 rfl rfl rfl rfl (Nat.le_of_ble_eq_true rfl) ⟨Nat.le_of_ble_eq_true rfl, Nat.le_of_ble_eq_true rfl⟩ ⟨Nat.le_refl _, Nat.le_refl _⟩ ?_
                  refine aw_blk oX11_kept_31 (pc' := 33) (ls' := [_, _, _, _]) (st' := [_]) (cs := []) rfl trivial ?_
                  skip)
             · first
               | (exfalso; omega; done)
               | (refine aw_blk oX11_kept_20 (pc' := 22) (ls' := [_, _, _, _]) (st' := [_]) (cs := []) rfl trivial ?_
                  refine aw_iret eX11_kept_22 rfl (Nat.le_refl _) (Nat.le_refl _) ?_
                  exact pe_i rfl rfl rfl))
        · first
          | (exfalso; omega; done)
          | (refine aw_blk oX11_kept_9 (pc' := 10) (ls' := [_, _, _, _]) (st' := [_]) (cs := []) rfl trivial ?_
             refine aw_iret eX11_kept_10 rfl (Nat.le_refl _) (Nat.le_refl _) ?_
             exact pe_i rfl rfl rfl)
      · refine AMet.of kX12_kept.1 (Nat.le_of_ble_eq_true rfl) rfl ?_
        refine aw_blk oX12_kept_0 (pc' := 1) (ls' := [_, _, _, _, _, _, _, _, _, _]) (st' := [_]) (cs := []) rfl trivial ?_
        refine aw_ciS (rest := []) (c_X12_isTown (by omega)) kX12_isTown eX12_kept_1 lX12_kept_1 rfl rfl (Nat.le_of_ble_eq_true rfl) ⟨Nat.le_of_ble_eq_true rfl, Nat.le_of_ble_eq_true rfl⟩ ⟨Nat.le_refl _, Nat.le_refl _⟩ ?_
        refine aw_if_ne (tgt := 9) eX12_kept_4 (by decide) bt_r (fun hh => have h82 := bt1 hh; ?_) (fun hh => have h82 := bt0 hh; ?_)
        · first
          | (exfalso; omega; done)
          | (refine aw_blk oX12_kept_9 (pc' := 12) (ls' := [_, _, _, _, _, _, _, _, _, _]) (st' := [_, _, _]) (cs := []) rfl trivial ?_
             refine aw_ciS (rest := []) (c_X12_in (by omega) (by omega) (by omega)) kX12_in eX12_kept_12 lX12_kept_12 rfl rfl (Nat.le_of_ble_eq_true rfl) ⟨Nat.le_of_ble_eq_true rfl, Nat.le_of_ble_eq_true rfl⟩ ⟨Nat.le_refl _, Nat.le_refl _⟩ ?_
             refine aw_if_ne (tgt := 21) eX12_kept_15 (by decide) bt_r (fun hh => have h83 := bt1 hh; ?_) (fun hh => have h83 := bt0 hh; ?_)
             · first
               | (exfalso; omega; done)
               | (refine aw_blk oX12_kept_21 (pc' := 33) (ls' := [_, _, _, _, _, _, _, _, _, _]) (st' := []) (cs := []) rfl trivial ?_
                  skip)
             · first
               | (exfalso; omega; done)
               | (refine aw_blk oX12_kept_18 (pc' := 20) (ls' := [_, _, _, _, _, _, _, _, _, _]) (st' := [_]) (cs := []) rfl trivial ?_
                  refine aw_iret eX12_kept_20 rfl (Nat.le_refl _) (Nat.le_refl _) ?_
                  exact pe_i rfl rfl rfl))
        · first
          | (exfalso; omega; done)
          | (refine aw_blk oX12_kept_7 (pc' := 8) (ls' := [_, _, _, _, _, _, _, _, _, _]) (st' := [_]) (cs := []) rfl trivial ?_
             refine aw_iret eX12_kept_8 rfl (Nat.le_refl _) (Nat.le_refl _) ?_
             exact pe_i rfl rfl rfl)
  · refine ⟨-1, μ, μ, ?_, ?_, by decide, h, SR.rf⟩
    · refine AMet.of kX11_kept.1 (Nat.le_of_ble_eq_true rfl) rfl ?_
      refine aw_blk oX11_kept_0 (pc' := 3) (ls' := [_, _, _, _]) (st' := [_, _, _]) (cs := []) rfl trivial ?_
      refine aw_ciS (rest := []) (c_X11_between (by omega) (by omega) (by omega)) kX11_between eX11_kept_3 lX11_kept_3 rfl rfl (Nat.le_of_ble_eq_true rfl) ⟨Nat.le_of_ble_eq_true rfl, Nat.le_of_ble_eq_true rfl⟩ ⟨Nat.le_refl _, Nat.le_refl _⟩ ?_
      refine aw_if_ne (tgt := 11) eX11_kept_6 (by decide) bt_r (fun hh => have h84 := bt1 hh; ?_) (fun hh => have h84 := bt0 hh; ?_)
      · first
        | (exfalso; omega; done)
        | (refine aw_blk oX11_kept_11 (pc' := 14) (ls' := [_, _, _, _]) (st' := [_, _, _]) (cs := []) rfl trivial ?_
           refine aw_ciS (rest := []) (c_X11_between (by omega) (by omega) (by omega)) kX11_between eX11_kept_14 lX11_kept_14 rfl rfl (Nat.le_of_ble_eq_true rfl) ⟨Nat.le_of_ble_eq_true rfl, Nat.le_of_ble_eq_true rfl⟩ ⟨Nat.le_refl _, Nat.le_refl _⟩ ?_
           refine aw_if_ne (tgt := 23) eX11_kept_17 (by decide) bt_r (fun hh => have h85 := bt1 hh; ?_) (fun hh => have h85 := bt0 hh; ?_)
           · first
             | (exfalso; omega; done)
             | (refine aw_blk oX11_kept_23 (pc' := 28) (ls' := [_, _, _, _]) (st' := [_, _]) (cs := []) rfl trivial ?_
                refine aw_ciV (rest := []) (c_bestFilms h (by omega)) kX10_bestFilms eX11_kept_28 lX11_kept_28 rfl rfl rfl rfl (Nat.le_of_ble_eq_true rfl) ⟨Nat.le_of_ble_eq_true rfl, Nat.le_of_ble_eq_true rfl⟩ ⟨Nat.le_refl _, Nat.le_refl _⟩ ?_
                refine aw_blk oX11_kept_31 (pc' := 33) (ls' := [_, _, _, _]) (st' := [_]) (cs := []) rfl trivial ?_
                skip)
           · first
             | (exfalso; omega; done)
             | (refine aw_blk oX11_kept_20 (pc' := 22) (ls' := [_, _, _, _]) (st' := [_]) (cs := []) rfl trivial ?_
                refine aw_iret eX11_kept_22 rfl (Nat.le_refl _) (Nat.le_refl _) ?_
                exact pe_i rfl rfl rfl))
      · first
        | (exfalso; omega; done)
        | (refine aw_blk oX11_kept_9 (pc' := 10) (ls' := [_, _, _, _]) (st' := [_]) (cs := []) rfl trivial ?_
           refine aw_iret eX11_kept_10 rfl (Nat.le_refl _) (Nat.le_refl _) ?_
           exact pe_i rfl rfl rfl)
    · refine AMet.of kX12_kept.1 (Nat.le_of_ble_eq_true rfl) rfl ?_
      refine aw_blk oX12_kept_0 (pc' := 1) (ls' := [_, _, _, _, _, _, _, _, _, _]) (st' := [_]) (cs := []) rfl trivial ?_
      refine aw_ciS (rest := []) (c_X12_isTown (by omega)) kX12_isTown eX12_kept_1 lX12_kept_1 rfl rfl (Nat.le_of_ble_eq_true rfl) ⟨Nat.le_of_ble_eq_true rfl, Nat.le_of_ble_eq_true rfl⟩ ⟨Nat.le_refl _, Nat.le_refl _⟩ ?_
      refine aw_if_ne (tgt := 9) eX12_kept_4 (by decide) bt_r (fun hh => have h86 := bt1 hh; ?_) (fun hh => have h86 := bt0 hh; ?_)
      · first
        | (exfalso; omega; done)
        | (refine aw_blk oX12_kept_9 (pc' := 12) (ls' := [_, _, _, _, _, _, _, _, _, _]) (st' := [_, _, _]) (cs := []) rfl trivial ?_
           refine aw_ciS (rest := []) (c_X12_in (by omega) (by omega) (by omega)) kX12_in eX12_kept_12 lX12_kept_12 rfl rfl (Nat.le_of_ble_eq_true rfl) ⟨Nat.le_of_ble_eq_true rfl, Nat.le_of_ble_eq_true rfl⟩ ⟨Nat.le_refl _, Nat.le_refl _⟩ ?_
           refine aw_if_ne (tgt := 21) eX12_kept_15 (by decide) bt_r (fun hh => have h87 := bt1 hh; ?_) (fun hh => have h87 := bt0 hh; ?_)
           · first
             | (exfalso; omega; done)
             | (refine aw_blk oX12_kept_21 (pc' := 33) (ls' := [_, _, _, _, _, _, _, _, _, _]) (st' := []) (cs := []) rfl trivial ?_
                skip)
           · first
             | (exfalso; omega; done)
             | (refine aw_blk oX12_kept_18 (pc' := 20) (ls' := [_, _, _, _, _, _, _, _, _, _]) (st' := [_]) (cs := []) rfl trivial ?_
                refine aw_iret eX12_kept_20 rfl (Nat.le_refl _) (Nat.le_refl _) ?_
                exact pe_i rfl rfl rfl))
      · first
        | (exfalso; omega; done)
        | (refine aw_blk oX12_kept_7 (pc' := 8) (ls' := [_, _, _, _, _, _, _, _, _, _]) (st' := [_]) (cs := []) rfl trivial ?_
           refine aw_iret eX12_kept_8 rfl (Nat.le_refl _) (Nat.le_refl _) ?_
           exact pe_i rfl rfl rfl)
end
section
/-! ===== bits, GROUPS, MARKS ===== -/
theorem i32R (x : Int32) : R32 x.toInt := ⟨by have := Int32.le_toInt x; omega, by have := Int32.toInt_lt x; omega⟩
theorem bAnd_R {a b : Int} : R32 (bAnd a b) := i32R _
theorem bOr_R {a b : Int} : R32 (bOr a b) := i32R _
theorem bXor_R {a b : Int} : R32 (bXor a b) := i32R _
theorem bShl_R {a b : Int} : R32 (bShl a b) := i32R _
theorem bShr_R {a b : Int} : R32 (bShr a b) := i32R _
theorem bOr_zero {a : Int} (h : R32 a) : bOr a 0 = a := by
  unfold bOr
  rw [show Int32.ofInt 0 = 0 from rfl, Int32.or_zero, ti32 h]
theorem bAnd3 (x y k : Int) : bAnd (bAnd x k) (bAnd y k) = bAnd (bAnd x y) k := by
  unfold bAnd
  simp only [Int32.ofInt_toInt]
  congr 1
  rw [Int32.and_assoc, Int32.and_assoc]
  congr 1
  rw [Int32.and_comm (Int32.ofInt y) (Int32.ofInt k), ← Int32.and_assoc, Int32.and_self, Int32.and_comm]
def bcA (x : Int) : Int := x - bAnd (bUshr x 1) 1431655765
def bcB (x : Int) : Int := bAnd x 858993459 + bAnd (bUshr x 2) 858993459
def bcC (x : Int) : Int := bAnd (x + bUshr x 4) 252645135
def bcD (x : Int) : Int := x + bUshr x 8
def bcE (x : Int) : Int := x + bUshr x 16
def bitC (x : Int) : Int := bAnd (bcE (bcD (bcC (bcB (bcA x))))) 63
theorem c_bitCount {κ : KX} {μ : MM} {ν : ML} {x : Int} : AE κ 0 mJ6_bitCount [aI x] μ ν (some (aI (bitC x))) μ ν := by
  refine AMet.of kJ6_bitCount.1 (Nat.le_of_ble_eq_true rfl) rfl ?_
  refine aw_blk oJ6_bitCount_0 (pc' := 52) (ls' := [_]) (st' := [_]) (cs := []) rfl trivial ?_
  refine aw_iret eJ6_bitCount_52 rfl (Nat.le_refl _) (Nat.le_refl _) ?_
  exact pe_i rfl rfl rfl
theorem bitC_R {x : Int} : R32 (bitC x) := bAnd_R
/-! groups -/
def RG (μ : MM) : Prop := PR 50 72 24 0 65535 μ
abbrev csG : List Nat := [50, 72]
def rst (l : Int) : Int := if bitC (bAnd l 63) ≤ 2 - bitC (bAnd (bShr l 6) 3) then 1 else 0
theorem rst_R {l : Int} : R32 (rst l) := by unfold rst; split <;> decide
theorem rst_all : ∀ l : Nat, l < 256 → (bitC (bAnd l 63) ≤ 2 - bitC (bAnd (bShr l 6) 3) ↔ sm (fun k => bitk l k) 6 ≤ 2 - bitk l 6 - bitk l 7) ∧ R32 (2 - bitC (bAnd (bShr l 6) 3)) := by decide +kernel
theorem c_X4_change {κ : KX} {μ : MM} {ν : ML} {t f v : Int} (ht : 0 ≤ t ∧ t < 4) (hf : 0 ≤ f ∧ f < 6) : AE κ 0 mX4_change [aR 49, aI t, aI f, aI v] μ ν (some (aI (μ 50 (t * 6 + f)))) (up μ 50 (t * 6 + f) v) ν := by
  refine AMet.of kX4_change.1 (Nat.le_of_ble_eq_true rfl) rfl ?_
  refine aw_blk oX4_change_0 (pc' := 27) (ls' := [_, _, _, _, _]) (st' := [_]) (cs := [(_, _), (_, _)]) rfl (⟨⟨by omega, by omega⟩, ⟨by omega, by omega⟩, trivial⟩) ?_
  refine aw_iret eX4_change_27 rfl (Nat.le_refl _) (Nat.le_refl _) ?_
  exact pe_i rfl rfl rfl
theorem c_numberAt {κ : KX} {μ : MM} {ν : ML} {t f : Int} (ht : 0 ≤ t ∧ t < 4) (hf : 0 ≤ f ∧ f < 6) : AE κ 0 mX4_numberAt [aR 49, aI t, aI f] μ ν (some (aI (μ 50 (t * 6 + f)))) μ ν := by
  refine AMet.of kX4_numberAt.1 (Nat.le_of_ble_eq_true rfl) rfl ?_
  refine aw_blk oX4_numberAt_0 (pc' := 11) (ls' := [_, _, _]) (st' := [_]) (cs := [(_, _)]) rfl (⟨⟨by omega, by omega⟩, trivial⟩) ?_
  refine aw_iret eX4_numberAt_11 rfl (Nat.le_refl _) (Nat.le_refl _) ?_
  exact pe_i rfl rfl rfl
theorem l_plainSum {κ : KX} {μ : MM} {ν : ML} {t : Int} (ht : 0 ≤ t ∧ t < 4) (n : Nat) : ∀ k : Nat, k + n = 6 → AX κ mX4_plainSum 1 (PE (some (aI (sm (fun k => μ 50 (t * 6 + k)) 6))) μ ν) 4 [aR 49, aI t, aI (sm (fun k => μ 50 (t * 6 + k)) k), aI k] [] μ ν := by
  induction n with
  | zero =>
    intro k hk
    refine aw_blk oX4_plainSum_4 (pc' := 7) (ls' := [_, _, _, _]) (st' := [_, _]) (cs := []) rfl trivial ?_
    refine aw_icmp_ge (tgt := 25) eX4_plainSum_7 (by decide) (by omega) (by omega) (fun h1 => ?_) (fun h1 => ?_)
    · first
      | (exfalso; omega; done)
      | (refine aw_blk oX4_plainSum_25 (pc' := 26) (ls' := [_, _, _, _]) (st' := [_]) (cs := []) rfl trivial ?_
         refine aw_iret eX4_plainSum_26 rfl (Nat.le_refl _) (Nat.le_refl _) ?_
         (have e : k = 6 := by omega)
         subst e
         exact pe_i rfl rfl rfl)
    · first
      | (exfalso; omega; done)
      | (refine aw_blk oX4_plainSum_10 (pc' := 14) (ls' := [_, _, _, _]) (st' := [_, _, _, _]) (cs := []) rfl trivial ?_
         refine aw_ciV (rest := [_]) (c_numberAt (by omega) (by omega)) kX4_numberAt eX4_plainSum_14 lX4_plainSum_14 rfl rfl rfl rfl (Nat.le_of_ble_eq_true rfl) ⟨Nat.le_of_ble_eq_true rfl, Nat.le_of_ble_eq_true rfl⟩ ⟨Nat.le_refl _, Nat.le_refl _⟩ ?_
         refine aw_blk oX4_plainSum_17 (pc' := 4) (ls' := [_, _, _, _]) (st' := []) (cs := []) rfl trivial ?_
         skip)
  | succ n ih =>
    intro k hk
    refine aw_blk oX4_plainSum_4 (pc' := 7) (ls' := [_, _, _, _]) (st' := [_, _]) (cs := []) rfl trivial ?_
    refine aw_icmp_ge (tgt := 25) eX4_plainSum_7 (by decide) (by omega) (by omega) (fun h2 => ?_) (fun h2 => ?_)
    · first
      | (exfalso; omega; done)
      | (refine aw_blk oX4_plainSum_25 (pc' := 26) (ls' := [_, _, _, _]) (st' := [_]) (cs := []) rfl trivial ?_
         refine aw_iret eX4_plainSum_26 rfl (Nat.le_refl _) (Nat.le_refl _) ?_
         skip)
    · first
      | (exfalso; omega; done)
      | (refine aw_blk oX4_plainSum_10 (pc' := 14) (ls' := [_, _, _, _]) (st' := [_, _, _, _]) (cs := []) rfl trivial ?_
         refine aw_ciV (rest := [_]) (c_numberAt (by omega) (by omega)) kX4_numberAt eX4_plainSum_14 lX4_plainSum_14 rfl rfl rfl rfl (Nat.le_of_ble_eq_true rfl) ⟨Nat.le_of_ble_eq_true rfl, Nat.le_of_ble_eq_true rfl⟩ ⟨Nat.le_refl _, Nat.le_refl _⟩ ?_
         refine aw_blk oX4_plainSum_17 (pc' := 4) (ls' := [_, _, _, _]) (st' := []) (cs := []) rfl trivial ?_
         exact ih (k + 1) (by omega))
theorem c_plainSum {κ : KX} {μ : MM} {ν : ML} {t : Int} (ht : 0 ≤ t ∧ t < 4) : AE κ 1 mX4_plainSum [aR 49, aI t] μ ν (some (aI (sm (fun k => μ 50 (t * 6 + k)) 6))) μ ν := by
  refine AMet.of kX4_plainSum.1 (Nat.le_of_ble_eq_true rfl) rfl ?_
  refine aw_blk oX4_plainSum_0 (pc' := 4) (ls' := [_, _, _, _]) (st' := []) (cs := []) rfl trivial ?_
  exact l_plainSum ht 6 0 rfl
theorem l_placeSum {κ : KX} {μ : MM} {ν : ML} {t : Int} (ht : 0 ≤ t ∧ t < 4) (n : Nat) : ∀ k : Nat, k + n = 6 → AX κ mX4_placeSum 1 (PE (some (aI (sm (fun k => μ 50 (t * 6 + k) * (k + 1)) 6))) μ ν) 4 [aR 49, aI t, aI (sm (fun k => μ 50 (t * 6 + k) * (k + 1)) k), aI k] [] μ ν := by
  induction n with
  | zero =>
    intro k hk
    refine aw_blk oX4_placeSum_4 (pc' := 7) (ls' := [_, _, _, _]) (st' := [_, _]) (cs := []) rfl trivial ?_
    refine aw_icmp_ge (tgt := 29) eX4_placeSum_7 (by decide) (by omega) (by omega) (fun h3 => ?_) (fun h3 => ?_)
    · first
      | (exfalso; omega; done)
      | (refine aw_blk oX4_placeSum_29 (pc' := 30) (ls' := [_, _, _, _]) (st' := [_]) (cs := []) rfl trivial ?_
         refine aw_iret eX4_placeSum_30 rfl (Nat.le_refl _) (Nat.le_refl _) ?_
         (have e : k = 6 := by omega)
         subst e
         exact pe_i rfl rfl rfl)
    · first
      | (exfalso; omega; done)
      | (refine aw_blk oX4_placeSum_10 (pc' := 14) (ls' := [_, _, _, _]) (st' := [_, _, _, _]) (cs := []) rfl trivial ?_
         refine aw_ciV (rest := [_]) (c_numberAt (by omega) (by omega)) kX4_numberAt eX4_placeSum_14 lX4_placeSum_14 rfl rfl rfl rfl (Nat.le_of_ble_eq_true rfl) ⟨Nat.le_of_ble_eq_true rfl, Nat.le_of_ble_eq_true rfl⟩ ⟨Nat.le_refl _, Nat.le_refl _⟩ ?_
         refine aw_blk oX4_placeSum_17 (pc' := 4) (ls' := [_, _, _, _]) (st' := []) (cs := []) rfl trivial ?_
         skip)
  | succ n ih =>
    intro k hk
    refine aw_blk oX4_placeSum_4 (pc' := 7) (ls' := [_, _, _, _]) (st' := [_, _]) (cs := []) rfl trivial ?_
    refine aw_icmp_ge (tgt := 29) eX4_placeSum_7 (by decide) (by omega) (by omega) (fun h4 => ?_) (fun h4 => ?_)
    · first
      | (exfalso; omega; done)
      | (refine aw_blk oX4_placeSum_29 (pc' := 30) (ls' := [_, _, _, _]) (st' := [_]) (cs := []) rfl trivial ?_
         refine aw_iret eX4_placeSum_30 rfl (Nat.le_refl _) (Nat.le_refl _) ?_
         skip)
    · first
      | (exfalso; omega; done)
      | (refine aw_blk oX4_placeSum_10 (pc' := 14) (ls' := [_, _, _, _]) (st' := [_, _, _, _]) (cs := []) rfl trivial ?_
         refine aw_ciV (rest := [_]) (c_numberAt (by omega) (by omega)) kX4_numberAt eX4_placeSum_14 lX4_placeSum_14 rfl rfl rfl rfl (Nat.le_of_ble_eq_true rfl) ⟨Nat.le_of_ble_eq_true rfl, Nat.le_of_ble_eq_true rfl⟩ ⟨Nat.le_refl _, Nat.le_refl _⟩ ?_
         refine aw_blk oX4_placeSum_17 (pc' := 4) (ls' := [_, _, _, _]) (st' := []) (cs := []) rfl trivial ?_
         exact ih (k + 1) (by omega))
theorem c_placeSum {κ : KX} {μ : MM} {ν : ML} {t : Int} (ht : 0 ≤ t ∧ t < 4) : AE κ 1 mX4_placeSum [aR 49, aI t] μ ν (some (aI (sm (fun k => μ 50 (t * 6 + k) * (k + 1)) 6))) μ ν := by
  refine AMet.of kX4_placeSum.1 (Nat.le_of_ble_eq_true rfl) rfl ?_
  refine aw_blk oX4_placeSum_0 (pc' := 4) (ls' := [_, _, _, _]) (st' := []) (cs := []) rfl trivial ?_
  exact l_placeSum ht 6 0 rfl
theorem c_restorable {κ : KX} {μ : MM} {ν : ML} {l : Int} (h : 0 ≤ l ∧ l < 256) : AE κ 1 mX4_restorable [aI l] μ ν (some (aI (rst l))) μ ν := by
  obtain ⟨j, rfl⟩ : ∃ j : Nat, l = j := ⟨l.toNat, by omega⟩
  have hj := rst_all j (by omega)
  refine AMet.of kX4_restorable.1 (Nat.le_of_ble_eq_true rfl) rfl ?_
  refine aw_blk oX4_restorable_0 (pc' := 4) (ls' := [_, _, _]) (st' := [_]) (cs := []) rfl trivial ?_
  refine aw_ciS (rest := []) (c_bitCount) kJ6_bitCount eX4_restorable_4 lX4_restorable_4 rfl rfl (Nat.le_of_ble_eq_true rfl) ⟨Nat.le_of_ble_eq_true rfl, Nat.le_of_ble_eq_true rfl⟩ ⟨Nat.le_refl _, Nat.le_refl _⟩ ?_
  refine aw_blk oX4_restorable_7 (pc' := 15) (ls' := [_, _, _]) (st' := [_, _]) (cs := []) rfl trivial ?_
  refine aw_ciS (rest := [_]) (c_bitCount) kJ6_bitCount eX4_restorable_15 lX4_restorable_15 rfl rfl (Nat.le_of_ble_eq_true rfl) ⟨Nat.le_of_ble_eq_true rfl, Nat.le_of_ble_eq_true rfl⟩ ⟨Nat.le_refl _, Nat.le_refl _⟩ ?_
  refine aw_blk oX4_restorable_18 (pc' := 22) (ls' := [_, _, _]) (st' := [_, _]) (cs := []) rfl trivial ?_
  refine aw_icmp_gt (tgt := 29) eX4_restorable_22 (by decide) (by first | omega | exact bitC_R | exact hj.2) (by first | omega | exact bitC_R | exact hj.2) (fun h5 => ?_) (fun h5 => ?_)
  · first
    | (exfalso; omega; done)
    | (refine aw_blk oX4_restorable_29 (pc' := 30) (ls' := [_, _, _]) (st' := [_]) (cs := []) rfl trivial ?_
       refine aw_zret eX4_restorable_30 rfl (by first | omega | exact bitC_R | exact hj.2) (Nat.le_refl _) (Nat.le_refl _) ?_
       exact pe_i (by unfold rst; first | rw [if_pos (by omega)] | rw [if_neg (by omega)]) rfl rfl)
  · first
    | (exfalso; omega; done)
    | (refine aw_blk oX4_restorable_25 (pc' := 30) (ls' := [_, _, _]) (st' := [_]) (cs := []) rfl trivial ?_
       refine aw_zret eX4_restorable_30 rfl (by first | omega | exact bitC_R | exact hj.2) (Nat.le_refl _) (Nat.le_refl _) ?_
       exact pe_i (by unfold rst; first | rw [if_pos (by omega)] | rw [if_neg (by omega)]) rfl rfl)
theorem law_put {κ : KX} {μ : MM} {ν : ML} {t f v : Int} (h : RG μ) (ht : R32 t) (hf : R32 f) (hv : R32 v) : LawM RG csG κ mX11_put mX12_put [aI t, aI f, aI v] μ ν := by
  by_cases c1 : 0 ≤ t ∧ t ≤ 3
  · by_cases c2 : (0 ≤ f ∧ f ≤ 5) ∧ (0 ≤ v ∧ v ≤ 65535)
    · have g1 := h (t * 6 + f) (by omega) (by omega)
      have e : 6 * t + f = t * 6 + f := by omega
      refine ⟨μ 50 (t * 6 + f), up μ 50 (t * 6 + f) v, up (up μ 50 (t * 6 + f) v) 72 (t * 6 + f) v, ?_, ?_, by omega, ?_, SR.two.sub (by decide)⟩
      · refine AMet.of kX11_put.1 (Nat.le_of_ble_eq_true rfl) rfl ?_
        refine aw_blk oX11_put_0 (pc' := 3) (ls' := [_, _, _, _]) (st' := [_, _, _]) (cs := []) rfl trivial ?_
        refine aw_ciS (rest := []) (c_X11_between (by omega) (by omega) (by omega)) kX11_between eX11_put_3 lX11_put_3 rfl rfl (Nat.le_of_ble_eq_true rfl) ⟨Nat.le_of_ble_eq_true rfl, Nat.le_of_ble_eq_true rfl⟩ ⟨Nat.le_refl _, Nat.le_refl _⟩ ?_
        refine aw_if_ne (tgt := 11) eX11_put_6 (by decide) bt_r (fun hh => have h6 := bt1 hh; ?_) (fun hh => have h6 := bt0 hh; ?_)
        · first
          | (exfalso; omega; done)
          | (refine aw_blk oX11_put_11 (pc' := 14) (ls' := [_, _, _, _]) (st' := [_, _, _]) (cs := []) rfl trivial ?_
             refine aw_ciS (rest := []) (c_X11_between (by omega) (by omega) (by omega)) kX11_between eX11_put_14 lX11_put_14 rfl rfl (Nat.le_of_ble_eq_true rfl) ⟨Nat.le_of_ble_eq_true rfl, Nat.le_of_ble_eq_true rfl⟩ ⟨Nat.le_refl _, Nat.le_refl _⟩ ?_
             refine aw_if_eq (tgt := 31) eX11_put_17 (by decide) bt_r (fun hh => have h7 := bt0 hh; ?_) (fun hh => have h7 := bt1 hh; ?_)
             · first
               | (exfalso; omega; done)
               | (refine aw_blk oX11_put_31 (pc' := 33) (ls' := [_, _, _, _]) (st' := [_]) (cs := []) rfl trivial ?_
                  refine aw_iret eX11_put_33 rfl (Nat.le_refl _) (Nat.le_refl _) ?_
                  exact pe_i rfl rfl rfl)
             · first
               | (exfalso; omega; done)
               | (refine aw_blk oX11_put_20 (pc' := 25) (ls' := [_, _, _, _]) (st' := [_, _, _]) (cs := []) rfl trivial ?_
                  refine aw_ciS (rest := []) (c_X11_between (by omega) (by omega) (by omega)) kX11_between eX11_put_25 lX11_put_25 rfl rfl (Nat.le_of_ble_eq_true rfl) ⟨Nat.le_of_ble_eq_true rfl, Nat.le_of_ble_eq_true rfl⟩ ⟨Nat.le_refl _, Nat.le_refl _⟩ ?_
                  refine aw_if_ne (tgt := 34) eX11_put_28 (by decide) bt_r (fun hh => have h8 := bt1 hh; ?_) (fun hh => have h8 := bt0 hh; ?_)
                  · first
                    | (exfalso; omega; done)
                    | (refine aw_blk oX11_put_34 (pc' := 41) (ls' := [_, _, _, _]) (st' := [_, _, _, _]) (cs := []) rfl trivial ?_
                       refine aw_ciV (rest := []) (c_X4_change (by omega) (by omega)) kX4_change eX11_put_41 lX11_put_41 rfl rfl rfl rfl (Nat.le_of_ble_eq_true rfl) ⟨Nat.le_of_ble_eq_true rfl, Nat.le_of_ble_eq_true rfl⟩ ⟨Nat.le_refl _, Nat.le_refl _⟩ ?_
                       refine aw_iret eX11_put_44 rfl (Nat.le_refl _) (Nat.le_refl _) ?_
                       exact pe_i rfl rfl rfl)
                  · first
                    | (exfalso; omega; done)
                    | (refine aw_blk oX11_put_31 (pc' := 33) (ls' := [_, _, _, _]) (st' := [_]) (cs := []) rfl trivial ?_
                       refine aw_iret eX11_put_33 rfl (Nat.le_refl _) (Nat.le_refl _) ?_
                       exact pe_i rfl rfl rfl)))
        · first
          | (exfalso; omega; done)
          | (refine aw_blk oX11_put_9 (pc' := 10) (ls' := [_, _, _, _]) (st' := [_]) (cs := []) rfl trivial ?_
             refine aw_iret eX11_put_10 rfl (Nat.le_refl _) (Nat.le_refl _) ?_
             exact pe_i rfl rfl rfl)
      · refine AMet.of kX12_put.1 (Nat.le_of_ble_eq_true rfl) rfl ?_
        refine aw_blk oX12_put_0 (pc' := 1) (ls' := [_, _, _, _, _]) (st' := [_]) (cs := []) rfl trivial ?_
        refine aw_ciS (rest := []) (c_X12_isGroup (by omega)) kX12_isGroup eX12_put_1 lX12_put_1 rfl rfl (Nat.le_of_ble_eq_true rfl) ⟨Nat.le_of_ble_eq_true rfl, Nat.le_of_ble_eq_true rfl⟩ ⟨Nat.le_refl _, Nat.le_refl _⟩ ?_
        refine aw_if_ne (tgt := 9) eX12_put_4 (by decide) bt_r (fun hh => have h9 := bt1 hh; ?_) (fun hh => have h9 := bt0 hh; ?_)
        · first
          | (exfalso; omega; done)
          | (refine aw_blk oX12_put_9 (pc' := 12) (ls' := [_, _, _, _, _]) (st' := [_, _, _]) (cs := []) rfl trivial ?_
             refine aw_ciS (rest := []) (c_X12_in (by omega) (by omega) (by omega)) kX12_in eX12_put_12 lX12_put_12 rfl rfl (Nat.le_of_ble_eq_true rfl) ⟨Nat.le_of_ble_eq_true rfl, Nat.le_of_ble_eq_true rfl⟩ ⟨Nat.le_refl _, Nat.le_refl _⟩ ?_
             refine aw_if_eq (tgt := 28) eX12_put_15 (by decide) bt_r (fun hh => have h10 := bt0 hh; ?_) (fun hh => have h10 := bt1 hh; ?_)
             · first
               | (exfalso; omega; done)
               | (refine aw_blk oX12_put_28 (pc' := 30) (ls' := [_, _, _, _, _]) (st' := [_]) (cs := []) rfl trivial ?_
                  refine aw_iret eX12_put_30 rfl (Nat.le_refl _) (Nat.le_refl _) ?_
                  exact pe_i (by rw [e, up_c (by decide)]; exact g1.1) (by rw [e]) rfl)
             · first
               | (exfalso; omega; done)
               | (refine aw_blk oX12_put_18 (pc' := 22) (ls' := [_, _, _, _, _]) (st' := [_, _, _]) (cs := []) rfl trivial ?_
                  refine aw_ciS (rest := []) (c_X12_in (by omega) (by omega) (by omega)) kX12_in eX12_put_22 lX12_put_22 rfl rfl (Nat.le_of_ble_eq_true rfl) ⟨Nat.le_of_ble_eq_true rfl, Nat.le_of_ble_eq_true rfl⟩ ⟨Nat.le_refl _, Nat.le_refl _⟩ ?_
                  refine aw_if_ne (tgt := 31) eX12_put_25 (by decide) bt_r (fun hh => have h11 := bt1 hh; ?_) (fun hh => have h11 := bt0 hh; ?_)
                  · first
                    | (exfalso; omega; done)
                    | (refine aw_blk oX12_put_31 (pc' := 58) (ls' := [_, _, _, _, _]) (st' := [_]) (cs := [(_, _), (_, _)]) rfl (⟨⟨by omega, by omega⟩, ⟨by omega, by omega⟩, trivial⟩) ?_
                       refine aw_iret eX12_put_58 rfl (Nat.le_refl _) (Nat.le_refl _) ?_
                       exact pe_i (by rw [e, up_c (by decide)]; exact g1.1) (by rw [e]) rfl)
                  · first
                    | (exfalso; omega; done)
                    | (refine aw_blk oX12_put_28 (pc' := 30) (ls' := [_, _, _, _, _]) (st' := [_]) (cs := []) rfl trivial ?_
                       refine aw_iret eX12_put_30 rfl (Nat.le_refl _) (Nat.le_refl _) ?_
                       exact pe_i (by rw [e, up_c (by decide)]; exact g1.1) (by rw [e]) rfl)))
        · first
          | (exfalso; omega; done)
          | (refine aw_blk oX12_put_7 (pc' := 8) (ls' := [_, _, _, _, _]) (st' := [_]) (cs := []) rfl trivial ?_
             refine aw_iret eX12_put_8 rfl (Nat.le_refl _) (Nat.le_refl _) ?_
             exact pe_i (by rw [e, up_c (by decide)]; exact g1.1) (by rw [e]) rfl)
      exact PR.up2 h (by decide) c2.2.1 c2.2.2
    · refine ⟨-2, μ, μ, ?_, ?_, by decide, h, SR.rf⟩
      · refine AMet.of kX11_put.1 (Nat.le_of_ble_eq_true rfl) rfl ?_
        refine aw_blk oX11_put_0 (pc' := 3) (ls' := [_, _, _, _]) (st' := [_, _, _]) (cs := []) rfl trivial ?_
        refine aw_ciS (rest := []) (c_X11_between (by omega) (by omega) (by omega)) kX11_between eX11_put_3 lX11_put_3 rfl rfl (Nat.le_of_ble_eq_true rfl) ⟨Nat.le_of_ble_eq_true rfl, Nat.le_of_ble_eq_true rfl⟩ ⟨Nat.le_refl _, Nat.le_refl _⟩ ?_
        refine aw_if_ne (tgt := 11) eX11_put_6 (by decide) bt_r (fun hh => have h12 := bt1 hh; ?_) (fun hh => have h12 := bt0 hh; ?_)
        · first
          | (exfalso; omega; done)
          | (refine aw_blk oX11_put_11 (pc' := 14) (ls' := [_, _, _, _]) (st' := [_, _, _]) (cs := []) rfl trivial ?_
             refine aw_ciS (rest := []) (c_X11_between (by omega) (by omega) (by omega)) kX11_between eX11_put_14 lX11_put_14 rfl rfl (Nat.le_of_ble_eq_true rfl) ⟨Nat.le_of_ble_eq_true rfl, Nat.le_of_ble_eq_true rfl⟩ ⟨Nat.le_refl _, Nat.le_refl _⟩ ?_
             refine aw_if_eq (tgt := 31) eX11_put_17 (by decide) bt_r (fun hh => have h13 := bt0 hh; ?_) (fun hh => have h13 := bt1 hh; ?_)
             · first
               | (exfalso; omega; done)
               | (refine aw_blk oX11_put_31 (pc' := 33) (ls' := [_, _, _, _]) (st' := [_]) (cs := []) rfl trivial ?_
                  refine aw_iret eX11_put_33 rfl (Nat.le_refl _) (Nat.le_refl _) ?_
                  exact pe_i rfl rfl rfl)
             · first
               | (exfalso; omega; done)
               | (refine aw_blk oX11_put_20 (pc' := 25) (ls' := [_, _, _, _]) (st' := [_, _, _]) (cs := []) rfl trivial ?_
                  refine aw_ciS (rest := []) (c_X11_between (by omega) (by omega) (by omega)) kX11_between eX11_put_25 lX11_put_25 rfl rfl (Nat.le_of_ble_eq_true rfl) ⟨Nat.le_of_ble_eq_true rfl, Nat.le_of_ble_eq_true rfl⟩ ⟨Nat.le_refl _, Nat.le_refl _⟩ ?_
                  refine aw_if_ne (tgt := 34) eX11_put_28 (by decide) bt_r (fun hh => have h14 := bt1 hh; ?_) (fun hh => have h14 := bt0 hh; ?_)
                  · first
                    | (exfalso; omega; done)
                    | (refine aw_blk oX11_put_34 (pc' := 41) (ls' := [_, _, _, _]) (st' := [_, _, _, _]) (cs := []) rfl trivial ?_
                       refine aw_ciV (rest := []) (c_X4_change (by omega) (by omega)) kX4_change eX11_put_41 lX11_put_41 rfl rfl rfl rfl (Nat.le_of_ble_eq_true rfl) ⟨Nat.le_of_ble_eq_true rfl, Nat.le_of_ble_eq_true rfl⟩ ⟨Nat.le_refl _, Nat.le_refl _⟩ ?_
                       refine aw_iret eX11_put_44 rfl (Nat.le_refl _) (Nat.le_refl _) ?_
                       exact pe_i rfl rfl rfl)
                  · first
                    | (exfalso; omega; done)
                    | (refine aw_blk oX11_put_31 (pc' := 33) (ls' := [_, _, _, _]) (st' := [_]) (cs := []) rfl trivial ?_
                       refine aw_iret eX11_put_33 rfl (Nat.le_refl _) (Nat.le_refl _) ?_
                       exact pe_i rfl rfl rfl)))
        · first
          | (exfalso; omega; done)
          | (refine aw_blk oX11_put_9 (pc' := 10) (ls' := [_, _, _, _]) (st' := [_]) (cs := []) rfl trivial ?_
             refine aw_iret eX11_put_10 rfl (Nat.le_refl _) (Nat.le_refl _) ?_
             exact pe_i rfl rfl rfl)
      · refine AMet.of kX12_put.1 (Nat.le_of_ble_eq_true rfl) rfl ?_
        refine aw_blk oX12_put_0 (pc' := 1) (ls' := [_, _, _, _, _]) (st' := [_]) (cs := []) rfl trivial ?_
        refine aw_ciS (rest := []) (c_X12_isGroup (by omega)) kX12_isGroup eX12_put_1 lX12_put_1 rfl rfl (Nat.le_of_ble_eq_true rfl) ⟨Nat.le_of_ble_eq_true rfl, Nat.le_of_ble_eq_true rfl⟩ ⟨Nat.le_refl _, Nat.le_refl _⟩ ?_
        refine aw_if_ne (tgt := 9) eX12_put_4 (by decide) bt_r (fun hh => have h15 := bt1 hh; ?_) (fun hh => have h15 := bt0 hh; ?_)
        · first
          | (exfalso; omega; done)
          | (refine aw_blk oX12_put_9 (pc' := 12) (ls' := [_, _, _, _, _]) (st' := [_, _, _]) (cs := []) rfl trivial ?_
             refine aw_ciS (rest := []) (c_X12_in (by omega) (by omega) (by omega)) kX12_in eX12_put_12 lX12_put_12 rfl rfl (Nat.le_of_ble_eq_true rfl) ⟨Nat.le_of_ble_eq_true rfl, Nat.le_of_ble_eq_true rfl⟩ ⟨Nat.le_refl _, Nat.le_refl _⟩ ?_
             refine aw_if_eq (tgt := 28) eX12_put_15 (by decide) bt_r (fun hh => have h16 := bt0 hh; ?_) (fun hh => have h16 := bt1 hh; ?_)
             · first
               | (exfalso; omega; done)
               | (refine aw_blk oX12_put_28 (pc' := 30) (ls' := [_, _, _, _, _]) (st' := [_]) (cs := []) rfl trivial ?_
                  refine aw_iret eX12_put_30 rfl (Nat.le_refl _) (Nat.le_refl _) ?_
                  exact pe_i rfl rfl rfl)
             · first
               | (exfalso; omega; done)
               | (refine aw_blk oX12_put_18 (pc' := 22) (ls' := [_, _, _, _, _]) (st' := [_, _, _]) (cs := []) rfl trivial ?_
                  refine aw_ciS (rest := []) (c_X12_in (by omega) (by omega) (by omega)) kX12_in eX12_put_22 lX12_put_22 rfl rfl (Nat.le_of_ble_eq_true rfl) ⟨Nat.le_of_ble_eq_true rfl, Nat.le_of_ble_eq_true rfl⟩ ⟨Nat.le_refl _, Nat.le_refl _⟩ ?_
                  refine aw_if_ne (tgt := 31) eX12_put_25 (by decide) bt_r (fun hh => have h17 := bt1 hh; ?_) (fun hh => have h17 := bt0 hh; ?_)
                  · first
                    | (exfalso; omega; done)
                    | (refine aw_blk oX12_put_31 (pc' := 58) (ls' := [_, _, _, _, _]) (st' := [_]) (cs := [(_, _), (_, _)]) rfl (⟨⟨by omega, by omega⟩, ⟨by omega, by omega⟩, trivial⟩) ?_
                       refine aw_iret eX12_put_58 rfl (Nat.le_refl _) (Nat.le_refl _) ?_
                       exact pe_i rfl rfl rfl)
                  · first
                    | (exfalso; omega; done)
                    | (refine aw_blk oX12_put_28 (pc' := 30) (ls' := [_, _, _, _, _]) (st' := [_]) (cs := []) rfl trivial ?_
                       refine aw_iret eX12_put_30 rfl (Nat.le_refl _) (Nat.le_refl _) ?_
                       exact pe_i rfl rfl rfl)))
        · first
          | (exfalso; omega; done)
          | (refine aw_blk oX12_put_7 (pc' := 8) (ls' := [_, _, _, _, _]) (st' := [_]) (cs := []) rfl trivial ?_
             refine aw_iret eX12_put_8 rfl (Nat.le_refl _) (Nat.le_refl _) ?_
             exact pe_i rfl rfl rfl)
  · refine ⟨-1, μ, μ, ?_, ?_, by decide, h, SR.rf⟩
    · refine AMet.of kX11_put.1 (Nat.le_of_ble_eq_true rfl) rfl ?_
      refine aw_blk oX11_put_0 (pc' := 3) (ls' := [_, _, _, _]) (st' := [_, _, _]) (cs := []) rfl trivial ?_
      refine aw_ciS (rest := []) (c_X11_between (by omega) (by omega) (by omega)) kX11_between eX11_put_3 lX11_put_3 rfl rfl (Nat.le_of_ble_eq_true rfl) ⟨Nat.le_of_ble_eq_true rfl, Nat.le_of_ble_eq_true rfl⟩ ⟨Nat.le_refl _, Nat.le_refl _⟩ ?_
      refine aw_if_ne (tgt := 11) eX11_put_6 (by decide) bt_r (fun hh => have h18 := bt1 hh; ?_) (fun hh => have h18 := bt0 hh; ?_)
      · first
        | (exfalso; omega; done)
        | (refine aw_blk oX11_put_11 (pc' := 14) (ls' := [_, _, _, _]) (st' := [_, _, _]) (cs := []) rfl trivial ?_
           refine aw_ciS (rest := []) (c_X11_between (by omega) (by omega) (by omega)) kX11_between eX11_put_14 lX11_put_14 rfl rfl (Nat.le_of_ble_eq_true rfl) ⟨Nat.le_of_ble_eq_true rfl, Nat.le_of_ble_eq_true rfl⟩ ⟨Nat.le_refl _, Nat.le_refl _⟩ ?_
           refine aw_if_eq (tgt := 31) eX11_put_17 (by decide) bt_r (fun hh => have h19 := bt0 hh; ?_) (fun hh => have h19 := bt1 hh; ?_)
           · first
             | (exfalso; omega; done)
             | (refine aw_blk oX11_put_31 (pc' := 33) (ls' := [_, _, _, _]) (st' := [_]) (cs := []) rfl trivial ?_
                refine aw_iret eX11_put_33 rfl (Nat.le_refl _) (Nat.le_refl _) ?_
                exact pe_i rfl rfl rfl)
           · first
             | (exfalso; omega; done)
             | (refine aw_blk oX11_put_20 (pc' := 25) (ls' := [_, _, _, _]) (st' := [_, _, _]) (cs := []) rfl trivial ?_
                refine aw_ciS (rest := []) (c_X11_between (by omega) (by omega) (by omega)) kX11_between eX11_put_25 lX11_put_25 rfl rfl (Nat.le_of_ble_eq_true rfl) ⟨Nat.le_of_ble_eq_true rfl, Nat.le_of_ble_eq_true rfl⟩ ⟨Nat.le_refl _, Nat.le_refl _⟩ ?_
                refine aw_if_ne (tgt := 34) eX11_put_28 (by decide) bt_r (fun hh => have h20 := bt1 hh; ?_) (fun hh => have h20 := bt0 hh; ?_)
                · first
                  | (exfalso; omega; done)
                  | (refine aw_blk oX11_put_34 (pc' := 41) (ls' := [_, _, _, _]) (st' := [_, _, _, _]) (cs := []) rfl trivial ?_
                     refine aw_ciV (rest := []) (c_X4_change (by omega) (by omega)) kX4_change eX11_put_41 lX11_put_41 rfl rfl rfl rfl (Nat.le_of_ble_eq_true rfl) ⟨Nat.le_of_ble_eq_true rfl, Nat.le_of_ble_eq_true rfl⟩ ⟨Nat.le_refl _, Nat.le_refl _⟩ ?_
                     refine aw_iret eX11_put_44 rfl (Nat.le_refl _) (Nat.le_refl _) ?_
                     exact pe_i rfl rfl rfl)
                · first
                  | (exfalso; omega; done)
                  | (refine aw_blk oX11_put_31 (pc' := 33) (ls' := [_, _, _, _]) (st' := [_]) (cs := []) rfl trivial ?_
                     refine aw_iret eX11_put_33 rfl (Nat.le_refl _) (Nat.le_refl _) ?_
                     exact pe_i rfl rfl rfl)))
      · first
        | (exfalso; omega; done)
        | (refine aw_blk oX11_put_9 (pc' := 10) (ls' := [_, _, _, _]) (st' := [_]) (cs := []) rfl trivial ?_
           refine aw_iret eX11_put_10 rfl (Nat.le_refl _) (Nat.le_refl _) ?_
           exact pe_i rfl rfl rfl)
    · refine AMet.of kX12_put.1 (Nat.le_of_ble_eq_true rfl) rfl ?_
      refine aw_blk oX12_put_0 (pc' := 1) (ls' := [_, _, _, _, _]) (st' := [_]) (cs := []) rfl trivial ?_
      refine aw_ciS (rest := []) (c_X12_isGroup (by omega)) kX12_isGroup eX12_put_1 lX12_put_1 rfl rfl (Nat.le_of_ble_eq_true rfl) ⟨Nat.le_of_ble_eq_true rfl, Nat.le_of_ble_eq_true rfl⟩ ⟨Nat.le_refl _, Nat.le_refl _⟩ ?_
      refine aw_if_ne (tgt := 9) eX12_put_4 (by decide) bt_r (fun hh => have h21 := bt1 hh; ?_) (fun hh => have h21 := bt0 hh; ?_)
      · first
        | (exfalso; omega; done)
        | (refine aw_blk oX12_put_9 (pc' := 12) (ls' := [_, _, _, _, _]) (st' := [_, _, _]) (cs := []) rfl trivial ?_
           refine aw_ciS (rest := []) (c_X12_in (by omega) (by omega) (by omega)) kX12_in eX12_put_12 lX12_put_12 rfl rfl (Nat.le_of_ble_eq_true rfl) ⟨Nat.le_of_ble_eq_true rfl, Nat.le_of_ble_eq_true rfl⟩ ⟨Nat.le_refl _, Nat.le_refl _⟩ ?_
           refine aw_if_eq (tgt := 28) eX12_put_15 (by decide) bt_r (fun hh => have h22 := bt0 hh; ?_) (fun hh => have h22 := bt1 hh; ?_)
           · first
             | (exfalso; omega; done)
             | (refine aw_blk oX12_put_28 (pc' := 30) (ls' := [_, _, _, _, _]) (st' := [_]) (cs := []) rfl trivial ?_
                refine aw_iret eX12_put_30 rfl (Nat.le_refl _) (Nat.le_refl _) ?_
                exact pe_i rfl rfl rfl)
           · first
             | (exfalso; omega; done)
             | (refine aw_blk oX12_put_18 (pc' := 22) (ls' := [_, _, _, _, _]) (st' := [_, _, _]) (cs := []) rfl trivial ?_
                refine aw_ciS (rest := []) (c_X12_in (by omega) (by omega) (by omega)) kX12_in eX12_put_22 lX12_put_22 rfl rfl (Nat.le_of_ble_eq_true rfl) ⟨Nat.le_of_ble_eq_true rfl, Nat.le_of_ble_eq_true rfl⟩ ⟨Nat.le_refl _, Nat.le_refl _⟩ ?_
                refine aw_if_ne (tgt := 31) eX12_put_25 (by decide) bt_r (fun hh => have h23 := bt1 hh; ?_) (fun hh => have h23 := bt0 hh; ?_)
                · first
                  | (exfalso; omega; done)
                  | (refine aw_blk oX12_put_31 (pc' := 58) (ls' := [_, _, _, _, _]) (st' := [_]) (cs := [(_, _), (_, _)]) rfl (⟨⟨by omega, by omega⟩, ⟨by omega, by omega⟩, trivial⟩) ?_
                     refine aw_iret eX12_put_58 rfl (Nat.le_refl _) (Nat.le_refl _) ?_
                     exact pe_i rfl rfl rfl)
                · first
                  | (exfalso; omega; done)
                  | (refine aw_blk oX12_put_28 (pc' := 30) (ls' := [_, _, _, _, _]) (st' := [_]) (cs := []) rfl trivial ?_
                     refine aw_iret eX12_put_30 rfl (Nat.le_refl _) (Nat.le_refl _) ?_
                     exact pe_i rfl rfl rfl)))
      · first
        | (exfalso; omega; done)
        | (refine aw_blk oX12_put_7 (pc' := 8) (ls' := [_, _, _, _, _]) (st' := [_]) (cs := []) rfl trivial ?_
           refine aw_iret eX12_put_8 rfl (Nat.le_refl _) (Nat.le_refl _) ?_
           exact pe_i rfl rfl rfl)
theorem l_X12_sum {κ : KX} {μ : MM} {ν : ML} {t w : Int} (ht : 0 ≤ t ∧ t < 4) (hw : w = 0 ∨ w = 1) (n : Nat) : ∀ k : Nat, k + n = 6 → AX κ mX12_sum 60 (PE (some (aI (sm (fun k => μ 72 (6 * t + k) * (if w = 0 then 1 else k + 1)) 6))) μ ν) 26 [aR 55, aI t, aI w, aI (sm (fun k => μ 72 (6 * t + k) * (if w = 0 then 1 else k + 1)) k), aI k] [] μ ν := by
  induction n with
  | zero =>
    intro k hk
    refine aw_blk oX12_sum_26 (pc' := 30) (ls' := [_, _, _, _, _]) (st' := [_, _]) (cs := []) rfl trivial ?_
    refine aw_icmp_ge (tgt := 67) eX12_sum_30 (by decide) (by omega) (by omega) (fun h24 => ?_) (fun h24 => ?_)
    · first
      | (exfalso; omega; done)
      | (refine aw_blk oX12_sum_67 (pc' := 68) (ls' := [_, _, _, _, _]) (st' := [_]) (cs := []) rfl trivial ?_
         refine aw_iret eX12_sum_68 rfl (Nat.le_refl _) (Nat.le_refl _) ?_
         (have e : k = 6 := by omega)
         subst e
         exact pe_i rfl rfl rfl)
    · first
      | (exfalso; omega; done)
      | (refine aw_blk oX12_sum_33 (pc' := 47) (ls' := [_, _, _, _, _]) (st' := [_, _, _]) (cs := [(_, _)]) rfl (⟨⟨by omega, by omega⟩, trivial⟩) ?_
         refine aw_if_ne (tgt := 54) eX12_sum_47 (by decide) (by omega) (fun h25 => ?_) (fun h25 => ?_)
         · first
           | (exfalso; omega; done)
           | (refine aw_blk oX12_sum_54 (pc' := 58) (ls' := [_, _, _, _, _]) (st' := [_, _, _]) (cs := []) rfl trivial ?_
              refine aw_blk oX12_sum_58 (pc' := 26) (ls' := [_, _, _, _, _]) (st' := []) (cs := []) rfl trivial ?_
              skip)
         · first
           | (exfalso; omega; done)
           | (refine aw_blk oX12_sum_50 (pc' := 58) (ls' := [_, _, _, _, _]) (st' := [_, _, _]) (cs := []) rfl trivial ?_
              refine aw_blk oX12_sum_58 (pc' := 26) (ls' := [_, _, _, _, _]) (st' := []) (cs := []) rfl trivial ?_
              skip))
  | succ n ih =>
    intro k hk
    have := ih (k + 1) (by omega)
    rw [sm_succ (n := k)] at this
    refine aw_blk oX12_sum_26 (pc' := 30) (ls' := [_, _, _, _, _]) (st' := [_, _]) (cs := []) rfl trivial ?_
    refine aw_icmp_ge (tgt := 67) eX12_sum_30 (by decide) (by omega) (by omega) (fun h26 => ?_) (fun h26 => ?_)
    · first
      | (exfalso; omega; done)
      | (refine aw_blk oX12_sum_67 (pc' := 68) (ls' := [_, _, _, _, _]) (st' := [_]) (cs := []) rfl trivial ?_
         refine aw_iret eX12_sum_68 rfl (Nat.le_refl _) (Nat.le_refl _) ?_
         skip)
    · first
      | (exfalso; omega; done)
      | (refine aw_blk oX12_sum_33 (pc' := 47) (ls' := [_, _, _, _, _]) (st' := [_, _, _]) (cs := [(_, _)]) rfl (⟨⟨by omega, by omega⟩, trivial⟩) ?_
         refine aw_if_ne (tgt := 54) eX12_sum_47 (by decide) (by omega) (fun h27 => ?_) (fun h27 => ?_)
         · first
           | (exfalso; omega; done)
           | (refine aw_blk oX12_sum_54 (pc' := 58) (ls' := [_, _, _, _, _]) (st' := [_, _, _]) (cs := []) rfl trivial ?_
              refine aw_blk oX12_sum_58 (pc' := 26) (ls' := [_, _, _, _, _]) (st' := []) (cs := []) rfl trivial ?_
              (first | rw [if_pos (by omega)] at this | rw [if_neg (by omega)] at this)
              exact this)
         · first
           | (exfalso; omega; done)
           | (refine aw_blk oX12_sum_50 (pc' := 58) (ls' := [_, _, _, _, _]) (st' := [_, _, _]) (cs := []) rfl trivial ?_
              refine aw_blk oX12_sum_58 (pc' := 26) (ls' := [_, _, _, _, _]) (st' := []) (cs := []) rfl trivial ?_
              (first | rw [if_pos (by omega)] at this | rw [if_neg (by omega)] at this)
              exact this))
theorem law_sum {κ : KX} {μ : MM} {ν : ML} {t w : Int} (h : RG μ) (ht : R32 t) (hw : R32 w) : LawM RG csG κ mX11_sum mX12_sum [aI t, aI w] μ ν := by
  by_cases c1 : 0 ≤ t ∧ t ≤ 3
  · by_cases c2 : 0 ≤ w ∧ w ≤ 1
    · have hm := l_X12_sum (κ := κ) (μ := μ) (ν := ν) (t := t) (w := w) (by omega) (by omega) 6 0 rfl
      have g : ∀ k : Nat, k < 6 → μ 72 (6 * t + k) = μ 50 (t * 6 + k) ∧ 0 ≤ μ 50 (t * 6 + k) ∧ μ 50 (t * 6 + k) ≤ 65535 := fun k hk => by
        have := h (6 * t + k) (by omega) (by omega)
        rw [show 6 * t + (k : Int) = t * 6 + k by omega] at this ⊢
        exact this
      by_cases c3 : w = 0
      · have e : sm (fun k => μ 72 (6 * t + k) * (if w = 0 then 1 else k + 1)) 6 = sm (fun k => μ 50 (t * 6 + k)) 6 := sm_congr 6 (fun k hk => by rw [if_pos c3, (g k hk).1, Int.mul_one])
        have b := sm_bd (g := fun k => μ 50 (t * 6 + k)) (B := 65535) 6 (fun k hk => (g k hk).2)
        rw [e] at hm
        refine ⟨sm (fun k => μ 50 (t * 6 + k)) 6, μ, μ, ?_, ?_, by omega, h, SR.rf⟩
        · skip
          refine AMet.of kX11_sum.1 (Nat.le_of_ble_eq_true rfl) rfl ?_
          refine aw_blk oX11_sum_0 (pc' := 3) (ls' := [_, _, _]) (st' := [_, _, _]) (cs := []) rfl trivial ?_
          refine aw_ciS (rest := []) (c_X11_between (by omega) (by omega) (by omega)) kX11_between eX11_sum_3 lX11_sum_3 rfl rfl (Nat.le_of_ble_eq_true rfl) ⟨Nat.le_of_ble_eq_true rfl, Nat.le_of_ble_eq_true rfl⟩ ⟨Nat.le_refl _, Nat.le_refl _⟩ ?_
          refine aw_if_ne (tgt := 11) eX11_sum_6 (by decide) bt_r (fun hh => have h28 := bt1 hh; ?_) (fun hh => have h28 := bt0 hh; ?_)
          · first
            | (exfalso; omega; done)
            | (refine aw_blk oX11_sum_11 (pc' := 14) (ls' := [_, _, _]) (st' := [_, _, _]) (cs := []) rfl trivial ?_
               refine aw_ciS (rest := []) (c_X11_between (by omega) (by omega) (by omega)) kX11_between eX11_sum_14 lX11_sum_14 rfl rfl (Nat.le_of_ble_eq_true rfl) ⟨Nat.le_of_ble_eq_true rfl, Nat.le_of_ble_eq_true rfl⟩ ⟨Nat.le_refl _, Nat.le_refl _⟩ ?_
               refine aw_if_ne (tgt := 23) eX11_sum_17 (by decide) bt_r (fun hh => have h29 := bt1 hh; ?_) (fun hh => have h29 := bt0 hh; ?_)
               · first
                 | (exfalso; omega; done)
                 | (refine aw_blk oX11_sum_23 (pc' := 24) (ls' := [_, _, _]) (st' := [_]) (cs := []) rfl trivial ?_
                    refine aw_if_ne (tgt := 38) eX11_sum_24 (by decide) (by omega) (fun h30 => ?_) (fun h30 => ?_)
                    · first
                      | (exfalso; omega; done)
                      | (refine aw_blk oX11_sum_38 (pc' := 43) (ls' := [_, _, _]) (st' := [_, _]) (cs := []) rfl trivial ?_
                         refine aw_ciV (rest := []) (c_placeSum (by omega)) kX4_placeSum eX11_sum_43 lX11_sum_43 rfl rfl rfl rfl (Nat.le_of_ble_eq_true rfl) ⟨Nat.le_of_ble_eq_true rfl, Nat.le_of_ble_eq_true rfl⟩ ⟨Nat.le_refl _, Nat.le_refl _⟩ ?_
                         refine aw_iret eX11_sum_46 rfl (Nat.le_refl _) (Nat.le_refl _) ?_
                         exact pe_i rfl rfl rfl)
                    · first
                      | (exfalso; omega; done)
                      | (refine aw_blk oX11_sum_27 (pc' := 32) (ls' := [_, _, _]) (st' := [_, _]) (cs := []) rfl trivial ?_
                         refine aw_ciV (rest := []) (c_plainSum (by omega)) kX4_plainSum eX11_sum_32 lX11_sum_32 rfl rfl rfl rfl (Nat.le_of_ble_eq_true rfl) ⟨Nat.le_of_ble_eq_true rfl, Nat.le_of_ble_eq_true rfl⟩ ⟨Nat.le_refl _, Nat.le_refl _⟩ ?_
                         refine aw_blk oX11_sum_35 (pc' := 46) (ls' := [_, _, _]) (st' := [_]) (cs := []) rfl trivial ?_
                         refine aw_iret eX11_sum_46 rfl (Nat.le_refl _) (Nat.le_refl _) ?_
                         exact pe_i rfl rfl rfl))
               · first
                 | (exfalso; omega; done)
                 | (refine aw_blk oX11_sum_20 (pc' := 22) (ls' := [_, _, _]) (st' := [_]) (cs := []) rfl trivial ?_
                    refine aw_iret eX11_sum_22 rfl (Nat.le_refl _) (Nat.le_refl _) ?_
                    exact pe_i rfl rfl rfl))
          · first
            | (exfalso; omega; done)
            | (refine aw_blk oX11_sum_9 (pc' := 10) (ls' := [_, _, _]) (st' := [_]) (cs := []) rfl trivial ?_
               refine aw_iret eX11_sum_10 rfl (Nat.le_refl _) (Nat.le_refl _) ?_
               exact pe_i rfl rfl rfl)
        · skip
          refine AMet.of kX12_sum.1 (Nat.le_of_ble_eq_true rfl) rfl ?_
          refine aw_blk oX12_sum_0 (pc' := 1) (ls' := [_, _, _, _, _]) (st' := [_]) (cs := []) rfl trivial ?_
          refine aw_ciS (rest := []) (c_X12_isGroup (by omega)) kX12_isGroup eX12_sum_1 lX12_sum_1 rfl rfl (Nat.le_of_ble_eq_true rfl) ⟨Nat.le_of_ble_eq_true rfl, Nat.le_of_ble_eq_true rfl⟩ ⟨Nat.le_refl _, Nat.le_refl _⟩ ?_
          refine aw_if_ne (tgt := 9) eX12_sum_4 (by decide) bt_r (fun hh => have h31 := bt1 hh; ?_) (fun hh => have h31 := bt0 hh; ?_)
          · first
            | (exfalso; omega; done)
            | (refine aw_blk oX12_sum_9 (pc' := 12) (ls' := [_, _, _, _, _]) (st' := [_, _, _]) (cs := []) rfl trivial ?_
               refine aw_ciS (rest := []) (c_X12_in (by omega) (by omega) (by omega)) kX12_in eX12_sum_12 lX12_sum_12 rfl rfl (Nat.le_of_ble_eq_true rfl) ⟨Nat.le_of_ble_eq_true rfl, Nat.le_of_ble_eq_true rfl⟩ ⟨Nat.le_refl _, Nat.le_refl _⟩ ?_
               refine aw_if_ne (tgt := 21) eX12_sum_15 (by decide) bt_r (fun hh => have h32 := bt1 hh; ?_) (fun hh => have h32 := bt0 hh; ?_)
               · first
                 | (exfalso; omega; done)
                 | (refine aw_blk oX12_sum_21 (pc' := 26) (ls' := [_, _, _, _, _]) (st' := []) (cs := []) rfl trivial ?_
                    exact hm)
               · first
                 | (exfalso; omega; done)
                 | (refine aw_blk oX12_sum_18 (pc' := 20) (ls' := [_, _, _, _, _]) (st' := [_]) (cs := []) rfl trivial ?_
                    refine aw_iret eX12_sum_20 rfl (Nat.le_refl _) (Nat.le_refl _) ?_
                    exact pe_i rfl rfl rfl))
          · first
            | (exfalso; omega; done)
            | (refine aw_blk oX12_sum_7 (pc' := 8) (ls' := [_, _, _, _, _]) (st' := [_]) (cs := []) rfl trivial ?_
               refine aw_iret eX12_sum_8 rfl (Nat.le_refl _) (Nat.le_refl _) ?_
               exact pe_i rfl rfl rfl)
      · have e : sm (fun k => μ 72 (6 * t + k) * (if w = 0 then 1 else k + 1)) 6 = sm (fun k => μ 50 (t * 6 + k) * (k + 1)) 6 := sm_congr 6 (fun k hk => by rw [if_neg c3, (g k hk).1])
        have b := sm_bd (g := fun k => μ 50 (t * 6 + k) * (k + 1)) (B := 393210) 6 (fun k hk => by
          have h1 := (g k hk).2
          refine ⟨Int.mul_nonneg h1.1 (by omega), ?_⟩
          calc μ 50 (t * 6 + k) * ((k : Int) + 1) ≤ 65535 * ((k : Int) + 1) := Int.mul_le_mul_of_nonneg_right h1.2 (by omega)
            _ ≤ 393210 := by omega)
        rw [e] at hm
        refine ⟨sm (fun k => μ 50 (t * 6 + k) * (k + 1)) 6, μ, μ, ?_, ?_, by omega, h, SR.rf⟩
        · skip
          refine AMet.of kX11_sum.1 (Nat.le_of_ble_eq_true rfl) rfl ?_
          refine aw_blk oX11_sum_0 (pc' := 3) (ls' := [_, _, _]) (st' := [_, _, _]) (cs := []) rfl trivial ?_
          refine aw_ciS (rest := []) (c_X11_between (by omega) (by omega) (by omega)) kX11_between eX11_sum_3 lX11_sum_3 rfl rfl (Nat.le_of_ble_eq_true rfl) ⟨Nat.le_of_ble_eq_true rfl, Nat.le_of_ble_eq_true rfl⟩ ⟨Nat.le_refl _, Nat.le_refl _⟩ ?_
          refine aw_if_ne (tgt := 11) eX11_sum_6 (by decide) bt_r (fun hh => have h33 := bt1 hh; ?_) (fun hh => have h33 := bt0 hh; ?_)
          · first
            | (exfalso; omega; done)
            | (refine aw_blk oX11_sum_11 (pc' := 14) (ls' := [_, _, _]) (st' := [_, _, _]) (cs := []) rfl trivial ?_
               refine aw_ciS (rest := []) (c_X11_between (by omega) (by omega) (by omega)) kX11_between eX11_sum_14 lX11_sum_14 rfl rfl (Nat.le_of_ble_eq_true rfl) ⟨Nat.le_of_ble_eq_true rfl, Nat.le_of_ble_eq_true rfl⟩ ⟨Nat.le_refl _, Nat.le_refl _⟩ ?_
               refine aw_if_ne (tgt := 23) eX11_sum_17 (by decide) bt_r (fun hh => have h34 := bt1 hh; ?_) (fun hh => have h34 := bt0 hh; ?_)
               · first
                 | (exfalso; omega; done)
                 | (refine aw_blk oX11_sum_23 (pc' := 24) (ls' := [_, _, _]) (st' := [_]) (cs := []) rfl trivial ?_
                    refine aw_if_ne (tgt := 38) eX11_sum_24 (by decide) (by omega) (fun h35 => ?_) (fun h35 => ?_)
                    · first
                      | (exfalso; omega; done)
                      | (refine aw_blk oX11_sum_38 (pc' := 43) (ls' := [_, _, _]) (st' := [_, _]) (cs := []) rfl trivial ?_
                         refine aw_ciV (rest := []) (c_placeSum (by omega)) kX4_placeSum eX11_sum_43 lX11_sum_43 rfl rfl rfl rfl (Nat.le_of_ble_eq_true rfl) ⟨Nat.le_of_ble_eq_true rfl, Nat.le_of_ble_eq_true rfl⟩ ⟨Nat.le_refl _, Nat.le_refl _⟩ ?_
                         refine aw_iret eX11_sum_46 rfl (Nat.le_refl _) (Nat.le_refl _) ?_
                         exact pe_i rfl rfl rfl)
                    · first
                      | (exfalso; omega; done)
                      | (refine aw_blk oX11_sum_27 (pc' := 32) (ls' := [_, _, _]) (st' := [_, _]) (cs := []) rfl trivial ?_
                         refine aw_ciV (rest := []) (c_plainSum (by omega)) kX4_plainSum eX11_sum_32 lX11_sum_32 rfl rfl rfl rfl (Nat.le_of_ble_eq_true rfl) ⟨Nat.le_of_ble_eq_true rfl, Nat.le_of_ble_eq_true rfl⟩ ⟨Nat.le_refl _, Nat.le_refl _⟩ ?_
                         refine aw_blk oX11_sum_35 (pc' := 46) (ls' := [_, _, _]) (st' := [_]) (cs := []) rfl trivial ?_
                         refine aw_iret eX11_sum_46 rfl (Nat.le_refl _) (Nat.le_refl _) ?_
                         exact pe_i rfl rfl rfl))
               · first
                 | (exfalso; omega; done)
                 | (refine aw_blk oX11_sum_20 (pc' := 22) (ls' := [_, _, _]) (st' := [_]) (cs := []) rfl trivial ?_
                    refine aw_iret eX11_sum_22 rfl (Nat.le_refl _) (Nat.le_refl _) ?_
                    exact pe_i rfl rfl rfl))
          · first
            | (exfalso; omega; done)
            | (refine aw_blk oX11_sum_9 (pc' := 10) (ls' := [_, _, _]) (st' := [_]) (cs := []) rfl trivial ?_
               refine aw_iret eX11_sum_10 rfl (Nat.le_refl _) (Nat.le_refl _) ?_
               exact pe_i rfl rfl rfl)
        · skip
          refine AMet.of kX12_sum.1 (Nat.le_of_ble_eq_true rfl) rfl ?_
          refine aw_blk oX12_sum_0 (pc' := 1) (ls' := [_, _, _, _, _]) (st' := [_]) (cs := []) rfl trivial ?_
          refine aw_ciS (rest := []) (c_X12_isGroup (by omega)) kX12_isGroup eX12_sum_1 lX12_sum_1 rfl rfl (Nat.le_of_ble_eq_true rfl) ⟨Nat.le_of_ble_eq_true rfl, Nat.le_of_ble_eq_true rfl⟩ ⟨Nat.le_refl _, Nat.le_refl _⟩ ?_
          refine aw_if_ne (tgt := 9) eX12_sum_4 (by decide) bt_r (fun hh => have h36 := bt1 hh; ?_) (fun hh => have h36 := bt0 hh; ?_)
          · first
            | (exfalso; omega; done)
            | (refine aw_blk oX12_sum_9 (pc' := 12) (ls' := [_, _, _, _, _]) (st' := [_, _, _]) (cs := []) rfl trivial ?_
               refine aw_ciS (rest := []) (c_X12_in (by omega) (by omega) (by omega)) kX12_in eX12_sum_12 lX12_sum_12 rfl rfl (Nat.le_of_ble_eq_true rfl) ⟨Nat.le_of_ble_eq_true rfl, Nat.le_of_ble_eq_true rfl⟩ ⟨Nat.le_refl _, Nat.le_refl _⟩ ?_
               refine aw_if_ne (tgt := 21) eX12_sum_15 (by decide) bt_r (fun hh => have h37 := bt1 hh; ?_) (fun hh => have h37 := bt0 hh; ?_)
               · first
                 | (exfalso; omega; done)
                 | (refine aw_blk oX12_sum_21 (pc' := 26) (ls' := [_, _, _, _, _]) (st' := []) (cs := []) rfl trivial ?_
                    exact hm)
               · first
                 | (exfalso; omega; done)
                 | (refine aw_blk oX12_sum_18 (pc' := 20) (ls' := [_, _, _, _, _]) (st' := [_]) (cs := []) rfl trivial ?_
                    refine aw_iret eX12_sum_20 rfl (Nat.le_refl _) (Nat.le_refl _) ?_
                    exact pe_i rfl rfl rfl))
          · first
            | (exfalso; omega; done)
            | (refine aw_blk oX12_sum_7 (pc' := 8) (ls' := [_, _, _, _, _]) (st' := [_]) (cs := []) rfl trivial ?_
               refine aw_iret eX12_sum_8 rfl (Nat.le_refl _) (Nat.le_refl _) ?_
               exact pe_i rfl rfl rfl)
    · refine ⟨-2, μ, μ, ?_, ?_, by decide, h, SR.rf⟩
      · refine AMet.of kX11_sum.1 (Nat.le_of_ble_eq_true rfl) rfl ?_
        refine aw_blk oX11_sum_0 (pc' := 3) (ls' := [_, _, _]) (st' := [_, _, _]) (cs := []) rfl trivial ?_
        refine aw_ciS (rest := []) (c_X11_between (by omega) (by omega) (by omega)) kX11_between eX11_sum_3 lX11_sum_3 rfl rfl (Nat.le_of_ble_eq_true rfl) ⟨Nat.le_of_ble_eq_true rfl, Nat.le_of_ble_eq_true rfl⟩ ⟨Nat.le_refl _, Nat.le_refl _⟩ ?_
        refine aw_if_ne (tgt := 11) eX11_sum_6 (by decide) bt_r (fun hh => have h38 := bt1 hh; ?_) (fun hh => have h38 := bt0 hh; ?_)
        · first
          | (exfalso; omega; done)
          | (refine aw_blk oX11_sum_11 (pc' := 14) (ls' := [_, _, _]) (st' := [_, _, _]) (cs := []) rfl trivial ?_
             refine aw_ciS (rest := []) (c_X11_between (by omega) (by omega) (by omega)) kX11_between eX11_sum_14 lX11_sum_14 rfl rfl (Nat.le_of_ble_eq_true rfl) ⟨Nat.le_of_ble_eq_true rfl, Nat.le_of_ble_eq_true rfl⟩ ⟨Nat.le_refl _, Nat.le_refl _⟩ ?_
             refine aw_if_ne (tgt := 23) eX11_sum_17 (by decide) bt_r (fun hh => have h39 := bt1 hh; ?_) (fun hh => have h39 := bt0 hh; ?_)
             · first
               | (exfalso; omega; done)
               | (refine aw_blk oX11_sum_23 (pc' := 24) (ls' := [_, _, _]) (st' := [_]) (cs := []) rfl trivial ?_
                  refine aw_if_ne (tgt := 38) eX11_sum_24 (by decide) (by omega) (fun h40 => ?_) (fun h40 => ?_)
                  · first
                    | (exfalso; omega; done)
                    | (refine aw_blk oX11_sum_38 (pc' := 43) (ls' := [_, _, _]) (st' := [_, _]) (cs := []) rfl trivial ?_
                       refine aw_ciV (rest := []) (c_placeSum (by omega)) kX4_placeSum eX11_sum_43 lX11_sum_43 rfl rfl rfl rfl (Nat.le_of_ble_eq_true rfl) ⟨Nat.le_of_ble_eq_true rfl, Nat.le_of_ble_eq_true rfl⟩ ⟨Nat.le_refl _, Nat.le_refl _⟩ ?_
                       refine aw_iret eX11_sum_46 rfl (Nat.le_refl _) (Nat.le_refl _) ?_
                       exact pe_i rfl rfl rfl)
                  · first
                    | (exfalso; omega; done)
                    | (refine aw_blk oX11_sum_27 (pc' := 32) (ls' := [_, _, _]) (st' := [_, _]) (cs := []) rfl trivial ?_
                       refine aw_ciV (rest := []) (c_plainSum (by omega)) kX4_plainSum eX11_sum_32 lX11_sum_32 rfl rfl rfl rfl (Nat.le_of_ble_eq_true rfl) ⟨Nat.le_of_ble_eq_true rfl, Nat.le_of_ble_eq_true rfl⟩ ⟨Nat.le_refl _, Nat.le_refl _⟩ ?_
                       refine aw_blk oX11_sum_35 (pc' := 46) (ls' := [_, _, _]) (st' := [_]) (cs := []) rfl trivial ?_
                       refine aw_iret eX11_sum_46 rfl (Nat.le_refl _) (Nat.le_refl _) ?_
                       exact pe_i rfl rfl rfl))
             · first
               | (exfalso; omega; done)
               | (refine aw_blk oX11_sum_20 (pc' := 22) (ls' := [_, _, _]) (st' := [_]) (cs := []) rfl trivial ?_
                  refine aw_iret eX11_sum_22 rfl (Nat.le_refl _) (Nat.le_refl _) ?_
                  exact pe_i rfl rfl rfl))
        · first
          | (exfalso; omega; done)
          | (refine aw_blk oX11_sum_9 (pc' := 10) (ls' := [_, _, _]) (st' := [_]) (cs := []) rfl trivial ?_
             refine aw_iret eX11_sum_10 rfl (Nat.le_refl _) (Nat.le_refl _) ?_
             exact pe_i rfl rfl rfl)
      · refine AMet.of kX12_sum.1 (Nat.le_of_ble_eq_true rfl) rfl ?_
        refine aw_blk oX12_sum_0 (pc' := 1) (ls' := [_, _, _, _, _]) (st' := [_]) (cs := []) rfl trivial ?_
        refine aw_ciS (rest := []) (c_X12_isGroup (by omega)) kX12_isGroup eX12_sum_1 lX12_sum_1 rfl rfl (Nat.le_of_ble_eq_true rfl) ⟨Nat.le_of_ble_eq_true rfl, Nat.le_of_ble_eq_true rfl⟩ ⟨Nat.le_refl _, Nat.le_refl _⟩ ?_
        refine aw_if_ne (tgt := 9) eX12_sum_4 (by decide) bt_r (fun hh => have h41 := bt1 hh; ?_) (fun hh => have h41 := bt0 hh; ?_)
        · first
          | (exfalso; omega; done)
          | (refine aw_blk oX12_sum_9 (pc' := 12) (ls' := [_, _, _, _, _]) (st' := [_, _, _]) (cs := []) rfl trivial ?_
             refine aw_ciS (rest := []) (c_X12_in (by omega) (by omega) (by omega)) kX12_in eX12_sum_12 lX12_sum_12 rfl rfl (Nat.le_of_ble_eq_true rfl) ⟨Nat.le_of_ble_eq_true rfl, Nat.le_of_ble_eq_true rfl⟩ ⟨Nat.le_refl _, Nat.le_refl _⟩ ?_
             refine aw_if_ne (tgt := 21) eX12_sum_15 (by decide) bt_r (fun hh => have h42 := bt1 hh; ?_) (fun hh => have h42 := bt0 hh; ?_)
             · first
               | (exfalso; omega; done)
               | (refine aw_blk oX12_sum_21 (pc' := 26) (ls' := [_, _, _, _, _]) (st' := []) (cs := []) rfl trivial ?_
                  skip)
             · first
               | (exfalso; omega; done)
               | (refine aw_blk oX12_sum_18 (pc' := 20) (ls' := [_, _, _, _, _]) (st' := [_]) (cs := []) rfl trivial ?_
                  refine aw_iret eX12_sum_20 rfl (Nat.le_refl _) (Nat.le_refl _) ?_
                  exact pe_i rfl rfl rfl))
        · first
          | (exfalso; omega; done)
          | (refine aw_blk oX12_sum_7 (pc' := 8) (ls' := [_, _, _, _, _]) (st' := [_]) (cs := []) rfl trivial ?_
             refine aw_iret eX12_sum_8 rfl (Nat.le_refl _) (Nat.le_refl _) ?_
             exact pe_i rfl rfl rfl)
  · refine ⟨-1, μ, μ, ?_, ?_, by decide, h, SR.rf⟩
    · refine AMet.of kX11_sum.1 (Nat.le_of_ble_eq_true rfl) rfl ?_
      refine aw_blk oX11_sum_0 (pc' := 3) (ls' := [_, _, _]) (st' := [_, _, _]) (cs := []) rfl trivial ?_
      refine aw_ciS (rest := []) (c_X11_between (by omega) (by omega) (by omega)) kX11_between eX11_sum_3 lX11_sum_3 rfl rfl (Nat.le_of_ble_eq_true rfl) ⟨Nat.le_of_ble_eq_true rfl, Nat.le_of_ble_eq_true rfl⟩ ⟨Nat.le_refl _, Nat.le_refl _⟩ ?_
      refine aw_if_ne (tgt := 11) eX11_sum_6 (by decide) bt_r (fun hh => have h43 := bt1 hh; ?_) (fun hh => have h43 := bt0 hh; ?_)
      · first
        | (exfalso; omega; done)
        | (refine aw_blk oX11_sum_11 (pc' := 14) (ls' := [_, _, _]) (st' := [_, _, _]) (cs := []) rfl trivial ?_
           refine aw_ciS (rest := []) (c_X11_between (by omega) (by omega) (by omega)) kX11_between eX11_sum_14 lX11_sum_14 rfl rfl (Nat.le_of_ble_eq_true rfl) ⟨Nat.le_of_ble_eq_true rfl, Nat.le_of_ble_eq_true rfl⟩ ⟨Nat.le_refl _, Nat.le_refl _⟩ ?_
           refine aw_if_ne (tgt := 23) eX11_sum_17 (by decide) bt_r (fun hh => have h44 := bt1 hh; ?_) (fun hh => have h44 := bt0 hh; ?_)
           · first
             | (exfalso; omega; done)
             | (refine aw_blk oX11_sum_23 (pc' := 24) (ls' := [_, _, _]) (st' := [_]) (cs := []) rfl trivial ?_
                refine aw_if_ne (tgt := 38) eX11_sum_24 (by decide) (by omega) (fun h45 => ?_) (fun h45 => ?_)
                · first
                  | (exfalso; omega; done)
                  | (refine aw_blk oX11_sum_38 (pc' := 43) (ls' := [_, _, _]) (st' := [_, _]) (cs := []) rfl trivial ?_
                     refine aw_ciV (rest := []) (c_placeSum (by omega)) kX4_placeSum eX11_sum_43 lX11_sum_43 rfl rfl rfl rfl (Nat.le_of_ble_eq_true rfl) ⟨Nat.le_of_ble_eq_true rfl, Nat.le_of_ble_eq_true rfl⟩ ⟨Nat.le_refl _, Nat.le_refl _⟩ ?_
                     refine aw_iret eX11_sum_46 rfl (Nat.le_refl _) (Nat.le_refl _) ?_
                     exact pe_i rfl rfl rfl)
                · first
                  | (exfalso; omega; done)
                  | (refine aw_blk oX11_sum_27 (pc' := 32) (ls' := [_, _, _]) (st' := [_, _]) (cs := []) rfl trivial ?_
                     refine aw_ciV (rest := []) (c_plainSum (by omega)) kX4_plainSum eX11_sum_32 lX11_sum_32 rfl rfl rfl rfl (Nat.le_of_ble_eq_true rfl) ⟨Nat.le_of_ble_eq_true rfl, Nat.le_of_ble_eq_true rfl⟩ ⟨Nat.le_refl _, Nat.le_refl _⟩ ?_
                     refine aw_blk oX11_sum_35 (pc' := 46) (ls' := [_, _, _]) (st' := [_]) (cs := []) rfl trivial ?_
                     refine aw_iret eX11_sum_46 rfl (Nat.le_refl _) (Nat.le_refl _) ?_
                     exact pe_i rfl rfl rfl))
           · first
             | (exfalso; omega; done)
             | (refine aw_blk oX11_sum_20 (pc' := 22) (ls' := [_, _, _]) (st' := [_]) (cs := []) rfl trivial ?_
                refine aw_iret eX11_sum_22 rfl (Nat.le_refl _) (Nat.le_refl _) ?_
                exact pe_i rfl rfl rfl))
      · first
        | (exfalso; omega; done)
        | (refine aw_blk oX11_sum_9 (pc' := 10) (ls' := [_, _, _]) (st' := [_]) (cs := []) rfl trivial ?_
           refine aw_iret eX11_sum_10 rfl (Nat.le_refl _) (Nat.le_refl _) ?_
           exact pe_i rfl rfl rfl)
    · refine AMet.of kX12_sum.1 (Nat.le_of_ble_eq_true rfl) rfl ?_
      refine aw_blk oX12_sum_0 (pc' := 1) (ls' := [_, _, _, _, _]) (st' := [_]) (cs := []) rfl trivial ?_
      refine aw_ciS (rest := []) (c_X12_isGroup (by omega)) kX12_isGroup eX12_sum_1 lX12_sum_1 rfl rfl (Nat.le_of_ble_eq_true rfl) ⟨Nat.le_of_ble_eq_true rfl, Nat.le_of_ble_eq_true rfl⟩ ⟨Nat.le_refl _, Nat.le_refl _⟩ ?_
      refine aw_if_ne (tgt := 9) eX12_sum_4 (by decide) bt_r (fun hh => have h46 := bt1 hh; ?_) (fun hh => have h46 := bt0 hh; ?_)
      · first
        | (exfalso; omega; done)
        | (refine aw_blk oX12_sum_9 (pc' := 12) (ls' := [_, _, _, _, _]) (st' := [_, _, _]) (cs := []) rfl trivial ?_
           refine aw_ciS (rest := []) (c_X12_in (by omega) (by omega) (by omega)) kX12_in eX12_sum_12 lX12_sum_12 rfl rfl (Nat.le_of_ble_eq_true rfl) ⟨Nat.le_of_ble_eq_true rfl, Nat.le_of_ble_eq_true rfl⟩ ⟨Nat.le_refl _, Nat.le_refl _⟩ ?_
           refine aw_if_ne (tgt := 21) eX12_sum_15 (by decide) bt_r (fun hh => have h47 := bt1 hh; ?_) (fun hh => have h47 := bt0 hh; ?_)
           · first
             | (exfalso; omega; done)
             | (refine aw_blk oX12_sum_21 (pc' := 26) (ls' := [_, _, _, _, _]) (st' := []) (cs := []) rfl trivial ?_
                skip)
           · first
             | (exfalso; omega; done)
             | (refine aw_blk oX12_sum_18 (pc' := 20) (ls' := [_, _, _, _, _]) (st' := [_]) (cs := []) rfl trivial ?_
                refine aw_iret eX12_sum_20 rfl (Nat.le_refl _) (Nat.le_refl _) ?_
                exact pe_i rfl rfl rfl))
      · first
        | (exfalso; omega; done)
        | (refine aw_blk oX12_sum_7 (pc' := 8) (ls' := [_, _, _, _, _]) (st' := [_]) (cs := []) rfl trivial ?_
           refine aw_iret eX12_sum_8 rfl (Nat.le_refl _) (Nat.le_refl _) ?_
           exact pe_i rfl rfl rfl)
theorem l_X12_restore {κ : KX} {μ : MM} {ν : ML} {g l i : Int} (hg : 0 ≤ g ∧ g < 4) (hl : 0 ≤ l ∧ l < 256) (hi : 0 ≤ i ∧ i < 6) (n : Nat) : ∀ k : Nat, k + n = 6 → AX κ mX12_restore 60 (PE (some (aI (if sm (fun k => bitk l k) 6 ≤ 2 - bitk l 6 - bitk l 7 then μ 72 (6 * g + i) else -6))) μ ν) 49 [aR 55, aI g, aI l, aI i, aI (sm (fun k => bitk l k) k), aI k] [] μ ν := by
  have b6 := bitk_bd l 6
  have b7 := bitk_bd l 7
  have bs := sm_bd (g := fun k => bitk l k) (B := 1) 6 (fun k hk => bitk_bd l k)
  induction n with
  | zero =>
    intro k hk
    have e : k = 6 := by omega
    subst e
    refine aw_blk oX12_restore_49 (pc' := 53) (ls' := [_, _, _, _, _, _]) (st' := [_, _]) (cs := []) rfl trivial ?_
    refine aw_icmp_ge (tgt := 73) eX12_restore_53 (by decide) (by omega) (by omega) (fun h => ?_) (fun h => ?_)
    · refine aw_blk oX12_restore_73 (pc' := 94) (ls' := [_, _, _, _, _, _]) (st' := [_, _]) (cs := []) rfl trivial ?_
      refine aw_icmp_gt (tgt := 111) eX12_restore_94 (by decide) (by first | exact (show R32 (sm (fun k => bitk l k) 6) by omega) | exact (show R32 (2 - bitk l 6 - bitk l 7) by omega)) (by first | exact (show R32 (sm (fun k => bitk l k) 6) by omega) | exact (show R32 (2 - bitk l 6 - bitk l 7) by omega)) (fun h2 => ?_) (fun h2 => ?_)
      · refine aw_blk oX12_restore_111 (pc' := 113) (ls' := [_, _, _, _, _, _]) (st' := [_]) (cs := []) rfl trivial ?_
        refine aw_iret eX12_restore_113 rfl (Nat.le_refl _) (Nat.le_refl _) ?_
        have h2 : 2 - bitk l 6 - bitk l 7 < sm (fun k => bitk l k) 6 := h2
        exact pe_i (by rw [if_neg (by omega)]) rfl rfl
      · refine aw_blk oX12_restore_97 (pc' := 113) (ls' := [_, _, _, _, _, _]) (st' := [_]) (cs := [(_, _)]) rfl (⟨⟨by omega, by omega⟩, trivial⟩) ?_
        refine aw_iret eX12_restore_113 rfl (Nat.le_refl _) (Nat.le_refl _) ?_
        have h2 : ¬ 2 - bitk l 6 - bitk l 7 < sm (fun k => bitk l k) 6 := h2
        exact pe_i (by rw [if_pos (by omega)]) rfl rfl
    · exfalso; omega
  | succ n ih =>
    intro k hk
    refine aw_blk oX12_restore_49 (pc' := 53) (ls' := [_, _, _, _, _, _]) (st' := [_, _]) (cs := []) rfl trivial ?_
    refine aw_icmp_ge (tgt := 73) eX12_restore_53 (by decide) (by omega) (by omega) (fun h => ?_) (fun h => ?_)
    · exfalso; omega
    · refine aw_blk oX12_restore_56 (pc' := 49) (ls' := [_, _, _, _, _, _]) (st' := []) (cs := []) rfl trivial ?_
      exact ih (k + 1) (by omega)
theorem law_restore {κ : KX} {μ : MM} {ν : ML} {t l i : Int} (h : RG μ) (ht : R32 t) (hl : R32 l) (hi : R32 i) : LawM RG csG κ mX11_restore mX12_restore [aI t, aI l, aI i] μ ν := by
  by_cases c1 : 0 ≤ t ∧ t ≤ 3
  · by_cases c2 : (0 ≤ l ∧ l ≤ 255) ∧ (0 ≤ i ∧ i ≤ 5)
    · have g1 := h (t * 6 + i) (by omega) (by omega)
      have e : 6 * t + i = t * 6 + i := by omega
      by_cases c3 : bitk l i = 0
      · refine ⟨-5, μ, μ, ?_, ?_, by decide, h, SR.rf⟩
        · skip
          refine AMet.of kX11_restore.1 (Nat.le_of_ble_eq_true rfl) rfl ?_
          refine aw_blk oX11_restore_0 (pc' := 3) (ls' := [_, _, _, _]) (st' := [_, _, _]) (cs := []) rfl trivial ?_
          refine aw_ciS (rest := []) (c_X11_between (by first | omega | exact bitk_R _ _ | exact rst_R) (by first | omega | exact bitk_R _ _ | exact rst_R) (by first | omega | exact bitk_R _ _ | exact rst_R)) kX11_between eX11_restore_3 lX11_restore_3 rfl rfl (Nat.le_of_ble_eq_true rfl) ⟨Nat.le_of_ble_eq_true rfl, Nat.le_of_ble_eq_true rfl⟩ ⟨Nat.le_refl _, Nat.le_refl _⟩ ?_
          refine aw_if_ne (tgt := 11) eX11_restore_6 (by decide) bt_r (fun hh => have h48 := bt1 hh; ?_) (fun hh => have h48 := bt0 hh; ?_)
          · first
            | (exfalso; first | omega | exact absurd c3 (by assumption); done)
            | (refine aw_blk oX11_restore_11 (pc' := 16) (ls' := [_, _, _, _]) (st' := [_, _, _]) (cs := []) rfl trivial ?_
               refine aw_ciS (rest := []) (c_X11_between (by first | omega | exact bitk_R _ _ | exact rst_R) (by first | omega | exact bitk_R _ _ | exact rst_R) (by first | omega | exact bitk_R _ _ | exact rst_R)) kX11_between eX11_restore_16 lX11_restore_16 rfl rfl (Nat.le_of_ble_eq_true rfl) ⟨Nat.le_of_ble_eq_true rfl, Nat.le_of_ble_eq_true rfl⟩ ⟨Nat.le_refl _, Nat.le_refl _⟩ ?_
               refine aw_if_eq (tgt := 31) eX11_restore_19 (by decide) bt_r (fun hh => have h49 := bt0 hh; ?_) (fun hh => have h49 := bt1 hh; ?_)
               · first
                 | (exfalso; first | omega | exact absurd c3 (by assumption); done)
                 | (refine aw_blk oX11_restore_31 (pc' := 33) (ls' := [_, _, _, _]) (st' := [_]) (cs := []) rfl trivial ?_
                    refine aw_iret eX11_restore_33 rfl (Nat.le_refl _) (Nat.le_refl _) ?_
                    exact pe_i rfl rfl rfl)
               · first
                 | (exfalso; first | omega | exact absurd c3 (by assumption); done)
                 | (refine aw_blk oX11_restore_22 (pc' := 25) (ls' := [_, _, _, _]) (st' := [_, _, _]) (cs := []) rfl trivial ?_
                    refine aw_ciS (rest := []) (c_X11_between (by first | omega | exact bitk_R _ _ | exact rst_R) (by first | omega | exact bitk_R _ _ | exact rst_R) (by first | omega | exact bitk_R _ _ | exact rst_R)) kX11_between eX11_restore_25 lX11_restore_25 rfl rfl (Nat.le_of_ble_eq_true rfl) ⟨Nat.le_of_ble_eq_true rfl, Nat.le_of_ble_eq_true rfl⟩ ⟨Nat.le_refl _, Nat.le_refl _⟩ ?_
                    refine aw_if_ne (tgt := 34) eX11_restore_28 (by decide) bt_r (fun hh => have h50 := bt1 hh; ?_) (fun hh => have h50 := bt0 hh; ?_)
                    · first
                      | (exfalso; first | omega | exact absurd c3 (by assumption); done)
                      | (refine aw_blk oX11_restore_34 (pc' := 39) (ls' := [_, _, _, _]) (st' := [_]) (cs := []) rfl trivial ?_
                         refine aw_if_ne (tgt := 45) eX11_restore_39 (by decide) (by first | omega | exact bitk_R _ _ | exact rst_R) (fun h51 => ?_) (fun h51 => ?_)
                         · first
                           | (exfalso; first | omega | exact absurd c3 (by assumption); done)
                           | (refine aw_blk oX11_restore_45 (pc' := 46) (ls' := [_, _, _, _]) (st' := [_]) (cs := []) rfl trivial ?_
                              refine aw_ciS (rest := []) (c_restorable (by omega)) kX4_restorable eX11_restore_46 lX11_restore_46 rfl rfl (Nat.le_of_ble_eq_true rfl) ⟨Nat.le_of_ble_eq_true rfl, Nat.le_of_ble_eq_true rfl⟩ ⟨Nat.le_refl _, Nat.le_refl _⟩ ?_
                              refine aw_if_eq (tgt := 64) eX11_restore_49 (by decide) (by first | omega | exact bitk_R _ _ | exact rst_R) (fun h52 => ?_) (fun h52 => ?_)
                              · first
                                | (exfalso; first | omega | exact absurd c3 (by assumption); done)
                                | (refine aw_blk oX11_restore_64 (pc' := 66) (ls' := [_, _, _, _]) (st' := [_]) (cs := []) rfl trivial ?_
                                   refine aw_iret eX11_restore_66 rfl (Nat.le_refl _) (Nat.le_refl _) ?_
                                   exact pe_i rfl rfl rfl)
                              · first
                                | (exfalso; first | omega | exact absurd c3 (by assumption); done)
                                | (refine aw_blk oX11_restore_52 (pc' := 58) (ls' := [_, _, _, _]) (st' := [_, _, _]) (cs := []) rfl trivial ?_
                                   refine aw_ciV (rest := []) (c_numberAt (by omega) (by omega)) kX4_numberAt eX11_restore_58 lX11_restore_58 rfl rfl rfl rfl (Nat.le_of_ble_eq_true rfl) ⟨Nat.le_of_ble_eq_true rfl, Nat.le_of_ble_eq_true rfl⟩ ⟨Nat.le_refl _, Nat.le_refl _⟩ ?_
                                   refine aw_blk oX11_restore_61 (pc' := 66) (ls' := [_, _, _, _]) (st' := [_]) (cs := []) rfl trivial ?_
                                   refine aw_iret eX11_restore_66 rfl (Nat.le_refl _) (Nat.le_refl _) ?_
                                   exact pe_i rfl rfl rfl))
                         · first
                           | (exfalso; first | omega | exact absurd c3 (by assumption); done)
                           | (refine aw_blk oX11_restore_42 (pc' := 44) (ls' := [_, _, _, _]) (st' := [_]) (cs := []) rfl trivial ?_
                              refine aw_iret eX11_restore_44 rfl (Nat.le_refl _) (Nat.le_refl _) ?_
                              exact pe_i rfl rfl rfl))
                    · first
                      | (exfalso; first | omega | exact absurd c3 (by assumption); done)
                      | (refine aw_blk oX11_restore_31 (pc' := 33) (ls' := [_, _, _, _]) (st' := [_]) (cs := []) rfl trivial ?_
                         refine aw_iret eX11_restore_33 rfl (Nat.le_refl _) (Nat.le_refl _) ?_
                         exact pe_i rfl rfl rfl)))
          · first
            | (exfalso; first | omega | exact absurd c3 (by assumption); done)
            | (refine aw_blk oX11_restore_9 (pc' := 10) (ls' := [_, _, _, _]) (st' := [_]) (cs := []) rfl trivial ?_
               refine aw_iret eX11_restore_10 rfl (Nat.le_refl _) (Nat.le_refl _) ?_
               exact pe_i rfl rfl rfl)
        · skip
          refine AMet.of kX12_restore.1 (Nat.le_of_ble_eq_true rfl) rfl ?_
          refine aw_blk oX12_restore_0 (pc' := 1) (ls' := [_, _, _, _, _, _]) (st' := [_]) (cs := []) rfl trivial ?_
          refine aw_ciS (rest := []) (c_X12_isGroup (by first | omega | exact bitk_R _ _)) kX12_isGroup eX12_restore_1 lX12_restore_1 rfl rfl (Nat.le_of_ble_eq_true rfl) ⟨Nat.le_of_ble_eq_true rfl, Nat.le_of_ble_eq_true rfl⟩ ⟨Nat.le_refl _, Nat.le_refl _⟩ ?_
          refine aw_if_ne (tgt := 9) eX12_restore_4 (by decide) bt_r (fun hh => have h53 := bt1 hh; ?_) (fun hh => have h53 := bt0 hh; ?_)
          · first
            | (exfalso; first | omega | exact absurd c3 (by assumption); done)
            | (refine aw_blk oX12_restore_9 (pc' := 14) (ls' := [_, _, _, _, _, _]) (st' := [_, _, _]) (cs := []) rfl trivial ?_
               refine aw_ciS (rest := []) (c_X12_in (by first | omega | exact bitk_R _ _) (by first | omega | exact bitk_R _ _) (by first | omega | exact bitk_R _ _)) kX12_in eX12_restore_14 lX12_restore_14 rfl rfl (Nat.le_of_ble_eq_true rfl) ⟨Nat.le_of_ble_eq_true rfl, Nat.le_of_ble_eq_true rfl⟩ ⟨Nat.le_refl _, Nat.le_refl _⟩ ?_
               refine aw_if_eq (tgt := 29) eX12_restore_17 (by decide) bt_r (fun hh => have h54 := bt0 hh; ?_) (fun hh => have h54 := bt1 hh; ?_)
               · first
                 | (exfalso; first | omega | exact absurd c3 (by assumption); done)
                 | (refine aw_blk oX12_restore_29 (pc' := 31) (ls' := [_, _, _, _, _, _]) (st' := [_]) (cs := []) rfl trivial ?_
                    refine aw_iret eX12_restore_31 rfl (Nat.le_refl _) (Nat.le_refl _) ?_
                    exact pe_i rfl rfl rfl)
               · first
                 | (exfalso; first | omega | exact absurd c3 (by assumption); done)
                 | (refine aw_blk oX12_restore_20 (pc' := 23) (ls' := [_, _, _, _, _, _]) (st' := [_, _, _]) (cs := []) rfl trivial ?_
                    refine aw_ciS (rest := []) (c_X12_in (by first | omega | exact bitk_R _ _) (by first | omega | exact bitk_R _ _) (by first | omega | exact bitk_R _ _)) kX12_in eX12_restore_23 lX12_restore_23 rfl rfl (Nat.le_of_ble_eq_true rfl) ⟨Nat.le_of_ble_eq_true rfl, Nat.le_of_ble_eq_true rfl⟩ ⟨Nat.le_refl _, Nat.le_refl _⟩ ?_
                    refine aw_if_ne (tgt := 32) eX12_restore_26 (by decide) bt_r (fun hh => have h55 := bt1 hh; ?_) (fun hh => have h55 := bt0 hh; ?_)
                    · first
                      | (exfalso; first | omega | exact absurd c3 (by assumption); done)
                      | (refine aw_blk oX12_restore_32 (pc' := 37) (ls' := [_, _, _, _, _, _]) (st' := [_]) (cs := []) rfl trivial ?_
                         refine aw_if_ne (tgt := 43) eX12_restore_37 (by decide) (by first | omega | exact bitk_R _ _) (fun h56 => ?_) (fun h56 => ?_)
                         · first
                           | (exfalso; first | omega | exact absurd c3 (by assumption); done)
                           | (refine aw_blk oX12_restore_43 (pc' := 49) (ls' := [_, _, _, _, _, _]) (st' := []) (cs := []) rfl trivial ?_
                              skip)
                         · first
                           | (exfalso; first | omega | exact absurd c3 (by assumption); done)
                           | (refine aw_blk oX12_restore_40 (pc' := 42) (ls' := [_, _, _, _, _, _]) (st' := [_]) (cs := []) rfl trivial ?_
                              refine aw_iret eX12_restore_42 rfl (Nat.le_refl _) (Nat.le_refl _) ?_
                              exact pe_i rfl rfl rfl))
                    · first
                      | (exfalso; first | omega | exact absurd c3 (by assumption); done)
                      | (refine aw_blk oX12_restore_29 (pc' := 31) (ls' := [_, _, _, _, _, _]) (st' := [_]) (cs := []) rfl trivial ?_
                         refine aw_iret eX12_restore_31 rfl (Nat.le_refl _) (Nat.le_refl _) ?_
                         exact pe_i rfl rfl rfl)))
          · first
            | (exfalso; first | omega | exact absurd c3 (by assumption); done)
            | (refine aw_blk oX12_restore_7 (pc' := 8) (ls' := [_, _, _, _, _, _]) (st' := [_]) (cs := []) rfl trivial ?_
               refine aw_iret eX12_restore_8 rfl (Nat.le_refl _) (Nat.le_refl _) ?_
               exact pe_i rfl rfl rfl)
      · have hm := l_X12_restore (κ := κ) (μ := μ) (ν := ν) (g := t) (l := l) (i := i) (by omega) (by omega) (by omega) 6 0 rfl
        have hj := (rst_all l.toNat (by omega)).1
        rw [show ((l.toNat : Nat) : Int) = l by omega] at hj
        have er : (if sm (fun k => bitk l k) 6 ≤ 2 - bitk l 6 - bitk l 7 then μ 72 (6 * t + i) else -6) = if rst l = 0 then -6 else μ 50 (t * 6 + i) := by
          rw [e, g1.1]
          unfold rst
          by_cases q : bitC (bAnd l 63) ≤ 2 - bitC (bAnd (bShr l 6) 3)
          · rw [if_pos (hj.mp q), if_pos q]; rfl
          · rw [if_neg (fun z => q (hj.mpr z)), if_neg q]; rfl
        rw [er] at hm
        refine ⟨if rst l = 0 then -6 else μ 50 (t * 6 + i), μ, μ, ?_, ?_, by split <;> omega, h, SR.rf⟩
        · skip
          refine AMet.of kX11_restore.1 (Nat.le_of_ble_eq_true rfl) rfl ?_
          refine aw_blk oX11_restore_0 (pc' := 3) (ls' := [_, _, _, _]) (st' := [_, _, _]) (cs := []) rfl trivial ?_
          refine aw_ciS (rest := []) (c_X11_between (by first | omega | exact bitk_R _ _ | exact rst_R) (by first | omega | exact bitk_R _ _ | exact rst_R) (by first | omega | exact bitk_R _ _ | exact rst_R)) kX11_between eX11_restore_3 lX11_restore_3 rfl rfl (Nat.le_of_ble_eq_true rfl) ⟨Nat.le_of_ble_eq_true rfl, Nat.le_of_ble_eq_true rfl⟩ ⟨Nat.le_refl _, Nat.le_refl _⟩ ?_
          refine aw_if_ne (tgt := 11) eX11_restore_6 (by decide) bt_r (fun hh => have h57 := bt1 hh; ?_) (fun hh => have h57 := bt0 hh; ?_)
          · first
            | (exfalso; first | omega | exact absurd (by assumption) c3; done)
            | (refine aw_blk oX11_restore_11 (pc' := 16) (ls' := [_, _, _, _]) (st' := [_, _, _]) (cs := []) rfl trivial ?_
               refine aw_ciS (rest := []) (c_X11_between (by first | omega | exact bitk_R _ _ | exact rst_R) (by first | omega | exact bitk_R _ _ | exact rst_R) (by first | omega | exact bitk_R _ _ | exact rst_R)) kX11_between eX11_restore_16 lX11_restore_16 rfl rfl (Nat.le_of_ble_eq_true rfl) ⟨Nat.le_of_ble_eq_true rfl, Nat.le_of_ble_eq_true rfl⟩ ⟨Nat.le_refl _, Nat.le_refl _⟩ ?_
               refine aw_if_eq (tgt := 31) eX11_restore_19 (by decide) bt_r (fun hh => have h58 := bt0 hh; ?_) (fun hh => have h58 := bt1 hh; ?_)
               · first
                 | (exfalso; first | omega | exact absurd (by assumption) c3; done)
                 | (refine aw_blk oX11_restore_31 (pc' := 33) (ls' := [_, _, _, _]) (st' := [_]) (cs := []) rfl trivial ?_
                    refine aw_iret eX11_restore_33 rfl (Nat.le_refl _) (Nat.le_refl _) ?_
                    exact pe_i (by first | (rw [if_pos (by assumption)]) | (rw [if_neg (by assumption)])) rfl rfl)
               · first
                 | (exfalso; first | omega | exact absurd (by assumption) c3; done)
                 | (refine aw_blk oX11_restore_22 (pc' := 25) (ls' := [_, _, _, _]) (st' := [_, _, _]) (cs := []) rfl trivial ?_
                    refine aw_ciS (rest := []) (c_X11_between (by first | omega | exact bitk_R _ _ | exact rst_R) (by first | omega | exact bitk_R _ _ | exact rst_R) (by first | omega | exact bitk_R _ _ | exact rst_R)) kX11_between eX11_restore_25 lX11_restore_25 rfl rfl (Nat.le_of_ble_eq_true rfl) ⟨Nat.le_of_ble_eq_true rfl, Nat.le_of_ble_eq_true rfl⟩ ⟨Nat.le_refl _, Nat.le_refl _⟩ ?_
                    refine aw_if_ne (tgt := 34) eX11_restore_28 (by decide) bt_r (fun hh => have h59 := bt1 hh; ?_) (fun hh => have h59 := bt0 hh; ?_)
                    · first
                      | (exfalso; first | omega | exact absurd (by assumption) c3; done)
                      | (refine aw_blk oX11_restore_34 (pc' := 39) (ls' := [_, _, _, _]) (st' := [_]) (cs := []) rfl trivial ?_
                         refine aw_if_ne (tgt := 45) eX11_restore_39 (by decide) (by first | omega | exact bitk_R _ _ | exact rst_R) (fun h60 => ?_) (fun h60 => ?_)
                         · first
                           | (exfalso; first | omega | exact absurd (by assumption) c3; done)
                           | (refine aw_blk oX11_restore_45 (pc' := 46) (ls' := [_, _, _, _]) (st' := [_]) (cs := []) rfl trivial ?_
                              refine aw_ciS (rest := []) (c_restorable (by omega)) kX4_restorable eX11_restore_46 lX11_restore_46 rfl rfl (Nat.le_of_ble_eq_true rfl) ⟨Nat.le_of_ble_eq_true rfl, Nat.le_of_ble_eq_true rfl⟩ ⟨Nat.le_refl _, Nat.le_refl _⟩ ?_
                              refine aw_if_eq (tgt := 64) eX11_restore_49 (by decide) (by first | omega | exact bitk_R _ _ | exact rst_R) (fun h61 => ?_) (fun h61 => ?_)
                              · first
                                | (exfalso; first | omega | exact absurd (by assumption) c3; done)
                                | (refine aw_blk oX11_restore_64 (pc' := 66) (ls' := [_, _, _, _]) (st' := [_]) (cs := []) rfl trivial ?_
                                   refine aw_iret eX11_restore_66 rfl (Nat.le_refl _) (Nat.le_refl _) ?_
                                   exact pe_i (by first | (rw [if_pos (by assumption)]) | (rw [if_neg (by assumption)])) rfl rfl)
                              · first
                                | (exfalso; first | omega | exact absurd (by assumption) c3; done)
                                | (refine aw_blk oX11_restore_52 (pc' := 58) (ls' := [_, _, _, _]) (st' := [_, _, _]) (cs := []) rfl trivial ?_
                                   refine aw_ciV (rest := []) (c_numberAt (by omega) (by omega)) kX4_numberAt eX11_restore_58 lX11_restore_58 rfl rfl rfl rfl (Nat.le_of_ble_eq_true rfl) ⟨Nat.le_of_ble_eq_true rfl, Nat.le_of_ble_eq_true rfl⟩ ⟨Nat.le_refl _, Nat.le_refl _⟩ ?_
                                   refine aw_blk oX11_restore_61 (pc' := 66) (ls' := [_, _, _, _]) (st' := [_]) (cs := []) rfl trivial ?_
                                   refine aw_iret eX11_restore_66 rfl (Nat.le_refl _) (Nat.le_refl _) ?_
                                   exact pe_i (by first | (rw [if_pos (by assumption)]) | (rw [if_neg (by assumption)])) rfl rfl))
                         · first
                           | (exfalso; first | omega | exact absurd (by assumption) c3; done)
                           | (refine aw_blk oX11_restore_42 (pc' := 44) (ls' := [_, _, _, _]) (st' := [_]) (cs := []) rfl trivial ?_
                              refine aw_iret eX11_restore_44 rfl (Nat.le_refl _) (Nat.le_refl _) ?_
                              exact pe_i (by first | (rw [if_pos (by assumption)]) | (rw [if_neg (by assumption)])) rfl rfl))
                    · first
                      | (exfalso; first | omega | exact absurd (by assumption) c3; done)
                      | (refine aw_blk oX11_restore_31 (pc' := 33) (ls' := [_, _, _, _]) (st' := [_]) (cs := []) rfl trivial ?_
                         refine aw_iret eX11_restore_33 rfl (Nat.le_refl _) (Nat.le_refl _) ?_
                         exact pe_i (by first | (rw [if_pos (by assumption)]) | (rw [if_neg (by assumption)])) rfl rfl)))
          · first
            | (exfalso; first | omega | exact absurd (by assumption) c3; done)
            | (refine aw_blk oX11_restore_9 (pc' := 10) (ls' := [_, _, _, _]) (st' := [_]) (cs := []) rfl trivial ?_
               refine aw_iret eX11_restore_10 rfl (Nat.le_refl _) (Nat.le_refl _) ?_
               exact pe_i (by first | (rw [if_pos (by assumption)]) | (rw [if_neg (by assumption)])) rfl rfl)
        · skip
          refine AMet.of kX12_restore.1 (Nat.le_of_ble_eq_true rfl) rfl ?_
          refine aw_blk oX12_restore_0 (pc' := 1) (ls' := [_, _, _, _, _, _]) (st' := [_]) (cs := []) rfl trivial ?_
          refine aw_ciS (rest := []) (c_X12_isGroup (by first | omega | exact bitk_R _ _)) kX12_isGroup eX12_restore_1 lX12_restore_1 rfl rfl (Nat.le_of_ble_eq_true rfl) ⟨Nat.le_of_ble_eq_true rfl, Nat.le_of_ble_eq_true rfl⟩ ⟨Nat.le_refl _, Nat.le_refl _⟩ ?_
          refine aw_if_ne (tgt := 9) eX12_restore_4 (by decide) bt_r (fun hh => have h62 := bt1 hh; ?_) (fun hh => have h62 := bt0 hh; ?_)
          · first
            | (exfalso; first | omega | exact absurd (by assumption) c3; done)
            | (refine aw_blk oX12_restore_9 (pc' := 14) (ls' := [_, _, _, _, _, _]) (st' := [_, _, _]) (cs := []) rfl trivial ?_
               refine aw_ciS (rest := []) (c_X12_in (by first | omega | exact bitk_R _ _) (by first | omega | exact bitk_R _ _) (by first | omega | exact bitk_R _ _)) kX12_in eX12_restore_14 lX12_restore_14 rfl rfl (Nat.le_of_ble_eq_true rfl) ⟨Nat.le_of_ble_eq_true rfl, Nat.le_of_ble_eq_true rfl⟩ ⟨Nat.le_refl _, Nat.le_refl _⟩ ?_
               refine aw_if_eq (tgt := 29) eX12_restore_17 (by decide) bt_r (fun hh => have h63 := bt0 hh; ?_) (fun hh => have h63 := bt1 hh; ?_)
               · first
                 | (exfalso; first | omega | exact absurd (by assumption) c3; done)
                 | (refine aw_blk oX12_restore_29 (pc' := 31) (ls' := [_, _, _, _, _, _]) (st' := [_]) (cs := []) rfl trivial ?_
                    refine aw_iret eX12_restore_31 rfl (Nat.le_refl _) (Nat.le_refl _) ?_
                    skip)
               · first
                 | (exfalso; first | omega | exact absurd (by assumption) c3; done)
                 | (refine aw_blk oX12_restore_20 (pc' := 23) (ls' := [_, _, _, _, _, _]) (st' := [_, _, _]) (cs := []) rfl trivial ?_
                    refine aw_ciS (rest := []) (c_X12_in (by first | omega | exact bitk_R _ _) (by first | omega | exact bitk_R _ _) (by first | omega | exact bitk_R _ _)) kX12_in eX12_restore_23 lX12_restore_23 rfl rfl (Nat.le_of_ble_eq_true rfl) ⟨Nat.le_of_ble_eq_true rfl, Nat.le_of_ble_eq_true rfl⟩ ⟨Nat.le_refl _, Nat.le_refl _⟩ ?_
                    refine aw_if_ne (tgt := 32) eX12_restore_26 (by decide) bt_r (fun hh => have h64 := bt1 hh; ?_) (fun hh => have h64 := bt0 hh; ?_)
                    · first
                      | (exfalso; first | omega | exact absurd (by assumption) c3; done)
                      | (refine aw_blk oX12_restore_32 (pc' := 37) (ls' := [_, _, _, _, _, _]) (st' := [_]) (cs := []) rfl trivial ?_
                         refine aw_if_ne (tgt := 43) eX12_restore_37 (by decide) (by first | omega | exact bitk_R _ _) (fun h65 => ?_) (fun h65 => ?_)
                         · first
                           | (exfalso; first | omega | exact absurd (by assumption) c3; done)
                           | (refine aw_blk oX12_restore_43 (pc' := 49) (ls' := [_, _, _, _, _, _]) (st' := []) (cs := []) rfl trivial ?_
                              exact hm)
                         · first
                           | (exfalso; first | omega | exact absurd (by assumption) c3; done)
                           | (refine aw_blk oX12_restore_40 (pc' := 42) (ls' := [_, _, _, _, _, _]) (st' := [_]) (cs := []) rfl trivial ?_
                              refine aw_iret eX12_restore_42 rfl (Nat.le_refl _) (Nat.le_refl _) ?_
                              skip))
                    · first
                      | (exfalso; first | omega | exact absurd (by assumption) c3; done)
                      | (refine aw_blk oX12_restore_29 (pc' := 31) (ls' := [_, _, _, _, _, _]) (st' := [_]) (cs := []) rfl trivial ?_
                         refine aw_iret eX12_restore_31 rfl (Nat.le_refl _) (Nat.le_refl _) ?_
                         skip)))
          · first
            | (exfalso; first | omega | exact absurd (by assumption) c3; done)
            | (refine aw_blk oX12_restore_7 (pc' := 8) (ls' := [_, _, _, _, _, _]) (st' := [_]) (cs := []) rfl trivial ?_
               refine aw_iret eX12_restore_8 rfl (Nat.le_refl _) (Nat.le_refl _) ?_
               skip)
    · refine ⟨-2, μ, μ, ?_, ?_, by decide, h, SR.rf⟩
      · refine AMet.of kX11_restore.1 (Nat.le_of_ble_eq_true rfl) rfl ?_
        refine aw_blk oX11_restore_0 (pc' := 3) (ls' := [_, _, _, _]) (st' := [_, _, _]) (cs := []) rfl trivial ?_
        refine aw_ciS (rest := []) (c_X11_between (by first | omega | exact bitk_R _ _ | exact rst_R) (by first | omega | exact bitk_R _ _ | exact rst_R) (by first | omega | exact bitk_R _ _ | exact rst_R)) kX11_between eX11_restore_3 lX11_restore_3 rfl rfl (Nat.le_of_ble_eq_true rfl) ⟨Nat.le_of_ble_eq_true rfl, Nat.le_of_ble_eq_true rfl⟩ ⟨Nat.le_refl _, Nat.le_refl _⟩ ?_
        refine aw_if_ne (tgt := 11) eX11_restore_6 (by decide) bt_r (fun hh => have h66 := bt1 hh; ?_) (fun hh => have h66 := bt0 hh; ?_)
        · first
          | (exfalso; omega; done)
          | (refine aw_blk oX11_restore_11 (pc' := 16) (ls' := [_, _, _, _]) (st' := [_, _, _]) (cs := []) rfl trivial ?_
             refine aw_ciS (rest := []) (c_X11_between (by first | omega | exact bitk_R _ _ | exact rst_R) (by first | omega | exact bitk_R _ _ | exact rst_R) (by first | omega | exact bitk_R _ _ | exact rst_R)) kX11_between eX11_restore_16 lX11_restore_16 rfl rfl (Nat.le_of_ble_eq_true rfl) ⟨Nat.le_of_ble_eq_true rfl, Nat.le_of_ble_eq_true rfl⟩ ⟨Nat.le_refl _, Nat.le_refl _⟩ ?_
             refine aw_if_eq (tgt := 31) eX11_restore_19 (by decide) bt_r (fun hh => have h67 := bt0 hh; ?_) (fun hh => have h67 := bt1 hh; ?_)
             · first
               | (exfalso; omega; done)
               | (refine aw_blk oX11_restore_31 (pc' := 33) (ls' := [_, _, _, _]) (st' := [_]) (cs := []) rfl trivial ?_
                  refine aw_iret eX11_restore_33 rfl (Nat.le_refl _) (Nat.le_refl _) ?_
                  exact pe_i rfl rfl rfl)
             · first
               | (exfalso; omega; done)
               | (refine aw_blk oX11_restore_22 (pc' := 25) (ls' := [_, _, _, _]) (st' := [_, _, _]) (cs := []) rfl trivial ?_
                  refine aw_ciS (rest := []) (c_X11_between (by first | omega | exact bitk_R _ _ | exact rst_R) (by first | omega | exact bitk_R _ _ | exact rst_R) (by first | omega | exact bitk_R _ _ | exact rst_R)) kX11_between eX11_restore_25 lX11_restore_25 rfl rfl (Nat.le_of_ble_eq_true rfl) ⟨Nat.le_of_ble_eq_true rfl, Nat.le_of_ble_eq_true rfl⟩ ⟨Nat.le_refl _, Nat.le_refl _⟩ ?_
                  refine aw_if_ne (tgt := 34) eX11_restore_28 (by decide) bt_r (fun hh => have h68 := bt1 hh; ?_) (fun hh => have h68 := bt0 hh; ?_)
                  · first
                    | (exfalso; omega; done)
                    | (refine aw_blk oX11_restore_34 (pc' := 39) (ls' := [_, _, _, _]) (st' := [_]) (cs := []) rfl trivial ?_
                       refine aw_if_ne (tgt := 45) eX11_restore_39 (by decide) (by first | omega | exact bitk_R _ _ | exact rst_R) (fun h69 => ?_) (fun h69 => ?_)
                       · first
                         | (exfalso; omega; done)
                         | (refine aw_blk oX11_restore_45 (pc' := 46) (ls' := [_, _, _, _]) (st' := [_]) (cs := []) rfl trivial ?_
                            refine aw_ciS (rest := []) (c_restorable (by omega)) kX4_restorable eX11_restore_46 lX11_restore_46 rfl rfl (Nat.le_of_ble_eq_true rfl) ⟨Nat.le_of_ble_eq_true rfl, Nat.le_of_ble_eq_true rfl⟩ ⟨Nat.le_refl _, Nat.le_refl _⟩ ?_
                            skip)
                       · first
                         | (exfalso; omega; done)
                         | (refine aw_blk oX11_restore_42 (pc' := 44) (ls' := [_, _, _, _]) (st' := [_]) (cs := []) rfl trivial ?_
                            refine aw_iret eX11_restore_44 rfl (Nat.le_refl _) (Nat.le_refl _) ?_
                            exact pe_i rfl rfl rfl))
                  · first
                    | (exfalso; omega; done)
                    | (refine aw_blk oX11_restore_31 (pc' := 33) (ls' := [_, _, _, _]) (st' := [_]) (cs := []) rfl trivial ?_
                       refine aw_iret eX11_restore_33 rfl (Nat.le_refl _) (Nat.le_refl _) ?_
                       exact pe_i rfl rfl rfl)))
        · first
          | (exfalso; omega; done)
          | (refine aw_blk oX11_restore_9 (pc' := 10) (ls' := [_, _, _, _]) (st' := [_]) (cs := []) rfl trivial ?_
             refine aw_iret eX11_restore_10 rfl (Nat.le_refl _) (Nat.le_refl _) ?_
             exact pe_i rfl rfl rfl)
      · refine AMet.of kX12_restore.1 (Nat.le_of_ble_eq_true rfl) rfl ?_
        refine aw_blk oX12_restore_0 (pc' := 1) (ls' := [_, _, _, _, _, _]) (st' := [_]) (cs := []) rfl trivial ?_
        refine aw_ciS (rest := []) (c_X12_isGroup (by first | omega | exact bitk_R _ _ | exact rst_R)) kX12_isGroup eX12_restore_1 lX12_restore_1 rfl rfl (Nat.le_of_ble_eq_true rfl) ⟨Nat.le_of_ble_eq_true rfl, Nat.le_of_ble_eq_true rfl⟩ ⟨Nat.le_refl _, Nat.le_refl _⟩ ?_
        refine aw_if_ne (tgt := 9) eX12_restore_4 (by decide) bt_r (fun hh => have h70 := bt1 hh; ?_) (fun hh => have h70 := bt0 hh; ?_)
        · first
          | (exfalso; omega; done)
          | (refine aw_blk oX12_restore_9 (pc' := 14) (ls' := [_, _, _, _, _, _]) (st' := [_, _, _]) (cs := []) rfl trivial ?_
             refine aw_ciS (rest := []) (c_X12_in (by first | omega | exact bitk_R _ _ | exact rst_R) (by first | omega | exact bitk_R _ _ | exact rst_R) (by first | omega | exact bitk_R _ _ | exact rst_R)) kX12_in eX12_restore_14 lX12_restore_14 rfl rfl (Nat.le_of_ble_eq_true rfl) ⟨Nat.le_of_ble_eq_true rfl, Nat.le_of_ble_eq_true rfl⟩ ⟨Nat.le_refl _, Nat.le_refl _⟩ ?_
             refine aw_if_eq (tgt := 29) eX12_restore_17 (by decide) bt_r (fun hh => have h71 := bt0 hh; ?_) (fun hh => have h71 := bt1 hh; ?_)
             · first
               | (exfalso; omega; done)
               | (refine aw_blk oX12_restore_29 (pc' := 31) (ls' := [_, _, _, _, _, _]) (st' := [_]) (cs := []) rfl trivial ?_
                  refine aw_iret eX12_restore_31 rfl (Nat.le_refl _) (Nat.le_refl _) ?_
                  exact pe_i rfl rfl rfl)
             · first
               | (exfalso; omega; done)
               | (refine aw_blk oX12_restore_20 (pc' := 23) (ls' := [_, _, _, _, _, _]) (st' := [_, _, _]) (cs := []) rfl trivial ?_
                  refine aw_ciS (rest := []) (c_X12_in (by first | omega | exact bitk_R _ _ | exact rst_R) (by first | omega | exact bitk_R _ _ | exact rst_R) (by first | omega | exact bitk_R _ _ | exact rst_R)) kX12_in eX12_restore_23 lX12_restore_23 rfl rfl (Nat.le_of_ble_eq_true rfl) ⟨Nat.le_of_ble_eq_true rfl, Nat.le_of_ble_eq_true rfl⟩ ⟨Nat.le_refl _, Nat.le_refl _⟩ ?_
                  refine aw_if_ne (tgt := 32) eX12_restore_26 (by decide) bt_r (fun hh => have h72 := bt1 hh; ?_) (fun hh => have h72 := bt0 hh; ?_)
                  · first
                    | (exfalso; omega; done)
                    | (refine aw_blk oX12_restore_32 (pc' := 37) (ls' := [_, _, _, _, _, _]) (st' := [_]) (cs := []) rfl trivial ?_
                       refine aw_if_ne (tgt := 43) eX12_restore_37 (by decide) (by first | omega | exact bitk_R _ _ | exact rst_R) (fun h73 => ?_) (fun h73 => ?_)
                       · first
                         | (exfalso; omega; done)
                         | (refine aw_blk oX12_restore_43 (pc' := 49) (ls' := [_, _, _, _, _, _]) (st' := []) (cs := []) rfl trivial ?_
                            skip)
                       · first
                         | (exfalso; omega; done)
                         | (refine aw_blk oX12_restore_40 (pc' := 42) (ls' := [_, _, _, _, _, _]) (st' := [_]) (cs := []) rfl trivial ?_
                            refine aw_iret eX12_restore_42 rfl (Nat.le_refl _) (Nat.le_refl _) ?_
                            exact pe_i rfl rfl rfl))
                  · first
                    | (exfalso; omega; done)
                    | (refine aw_blk oX12_restore_29 (pc' := 31) (ls' := [_, _, _, _, _, _]) (st' := [_]) (cs := []) rfl trivial ?_
                       refine aw_iret eX12_restore_31 rfl (Nat.le_refl _) (Nat.le_refl _) ?_
                       exact pe_i rfl rfl rfl)))
        · first
          | (exfalso; omega; done)
          | (refine aw_blk oX12_restore_7 (pc' := 8) (ls' := [_, _, _, _, _, _]) (st' := [_]) (cs := []) rfl trivial ?_
             refine aw_iret eX12_restore_8 rfl (Nat.le_refl _) (Nat.le_refl _) ?_
             exact pe_i rfl rfl rfl)
  · refine ⟨-1, μ, μ, ?_, ?_, by decide, h, SR.rf⟩
    · refine AMet.of kX11_restore.1 (Nat.le_of_ble_eq_true rfl) rfl ?_
      refine aw_blk oX11_restore_0 (pc' := 3) (ls' := [_, _, _, _]) (st' := [_, _, _]) (cs := []) rfl trivial ?_
      refine aw_ciS (rest := []) (c_X11_between (by first | omega | exact bitk_R _ _ | exact rst_R) (by first | omega | exact bitk_R _ _ | exact rst_R) (by first | omega | exact bitk_R _ _ | exact rst_R)) kX11_between eX11_restore_3 lX11_restore_3 rfl rfl (Nat.le_of_ble_eq_true rfl) ⟨Nat.le_of_ble_eq_true rfl, Nat.le_of_ble_eq_true rfl⟩ ⟨Nat.le_refl _, Nat.le_refl _⟩ ?_
      refine aw_if_ne (tgt := 11) eX11_restore_6 (by decide) bt_r (fun hh => have h74 := bt1 hh; ?_) (fun hh => have h74 := bt0 hh; ?_)
      · first
        | (exfalso; omega; done)
        | (refine aw_blk oX11_restore_11 (pc' := 16) (ls' := [_, _, _, _]) (st' := [_, _, _]) (cs := []) rfl trivial ?_
           refine aw_ciS (rest := []) (c_X11_between (by first | omega | exact bitk_R _ _ | exact rst_R) (by first | omega | exact bitk_R _ _ | exact rst_R) (by first | omega | exact bitk_R _ _ | exact rst_R)) kX11_between eX11_restore_16 lX11_restore_16 rfl rfl (Nat.le_of_ble_eq_true rfl) ⟨Nat.le_of_ble_eq_true rfl, Nat.le_of_ble_eq_true rfl⟩ ⟨Nat.le_refl _, Nat.le_refl _⟩ ?_
           refine aw_if_eq (tgt := 31) eX11_restore_19 (by decide) bt_r (fun hh => have h75 := bt0 hh; ?_) (fun hh => have h75 := bt1 hh; ?_)
           · first
             | (exfalso; omega; done)
             | (refine aw_blk oX11_restore_31 (pc' := 33) (ls' := [_, _, _, _]) (st' := [_]) (cs := []) rfl trivial ?_
                refine aw_iret eX11_restore_33 rfl (Nat.le_refl _) (Nat.le_refl _) ?_
                exact pe_i rfl rfl rfl)
           · first
             | (exfalso; omega; done)
             | (refine aw_blk oX11_restore_22 (pc' := 25) (ls' := [_, _, _, _]) (st' := [_, _, _]) (cs := []) rfl trivial ?_
                refine aw_ciS (rest := []) (c_X11_between (by first | omega | exact bitk_R _ _ | exact rst_R) (by first | omega | exact bitk_R _ _ | exact rst_R) (by first | omega | exact bitk_R _ _ | exact rst_R)) kX11_between eX11_restore_25 lX11_restore_25 rfl rfl (Nat.le_of_ble_eq_true rfl) ⟨Nat.le_of_ble_eq_true rfl, Nat.le_of_ble_eq_true rfl⟩ ⟨Nat.le_refl _, Nat.le_refl _⟩ ?_
                refine aw_if_ne (tgt := 34) eX11_restore_28 (by decide) bt_r (fun hh => have h76 := bt1 hh; ?_) (fun hh => have h76 := bt0 hh; ?_)
                · first
                  | (exfalso; omega; done)
                  | (refine aw_blk oX11_restore_34 (pc' := 39) (ls' := [_, _, _, _]) (st' := [_]) (cs := []) rfl trivial ?_
                     refine aw_if_ne (tgt := 45) eX11_restore_39 (by decide) (by first | omega | exact bitk_R _ _ | exact rst_R) (fun h77 => ?_) (fun h77 => ?_)
                     · first
                       | (exfalso; omega; done)
                       | (refine aw_blk oX11_restore_45 (pc' := 46) (ls' := [_, _, _, _]) (st' := [_]) (cs := []) rfl trivial ?_
                          refine aw_ciS (rest := []) (c_restorable (by omega)) kX4_restorable eX11_restore_46 lX11_restore_46 rfl rfl (Nat.le_of_ble_eq_true rfl) ⟨Nat.le_of_ble_eq_true rfl, Nat.le_of_ble_eq_true rfl⟩ ⟨Nat.le_refl _, Nat.le_refl _⟩ ?_
                          skip)
                     · first
                       | (exfalso; omega; done)
                       | (refine aw_blk oX11_restore_42 (pc' := 44) (ls' := [_, _, _, _]) (st' := [_]) (cs := []) rfl trivial ?_
                          refine aw_iret eX11_restore_44 rfl (Nat.le_refl _) (Nat.le_refl _) ?_
                          exact pe_i rfl rfl rfl))
                · first
                  | (exfalso; omega; done)
                  | (refine aw_blk oX11_restore_31 (pc' := 33) (ls' := [_, _, _, _]) (st' := [_]) (cs := []) rfl trivial ?_
                     refine aw_iret eX11_restore_33 rfl (Nat.le_refl _) (Nat.le_refl _) ?_
                     exact pe_i rfl rfl rfl)))
      · first
        | (exfalso; omega; done)
        | (refine aw_blk oX11_restore_9 (pc' := 10) (ls' := [_, _, _, _]) (st' := [_]) (cs := []) rfl trivial ?_
           refine aw_iret eX11_restore_10 rfl (Nat.le_refl _) (Nat.le_refl _) ?_
           exact pe_i rfl rfl rfl)
    · refine AMet.of kX12_restore.1 (Nat.le_of_ble_eq_true rfl) rfl ?_
      refine aw_blk oX12_restore_0 (pc' := 1) (ls' := [_, _, _, _, _, _]) (st' := [_]) (cs := []) rfl trivial ?_
      refine aw_ciS (rest := []) (c_X12_isGroup (by first | omega | exact bitk_R _ _ | exact rst_R)) kX12_isGroup eX12_restore_1 lX12_restore_1 rfl rfl (Nat.le_of_ble_eq_true rfl) ⟨Nat.le_of_ble_eq_true rfl, Nat.le_of_ble_eq_true rfl⟩ ⟨Nat.le_refl _, Nat.le_refl _⟩ ?_
      refine aw_if_ne (tgt := 9) eX12_restore_4 (by decide) bt_r (fun hh => have h78 := bt1 hh; ?_) (fun hh => have h78 := bt0 hh; ?_)
      · first
        | (exfalso; omega; done)
        | (refine aw_blk oX12_restore_9 (pc' := 14) (ls' := [_, _, _, _, _, _]) (st' := [_, _, _]) (cs := []) rfl trivial ?_
           refine aw_ciS (rest := []) (c_X12_in (by first | omega | exact bitk_R _ _ | exact rst_R) (by first | omega | exact bitk_R _ _ | exact rst_R) (by first | omega | exact bitk_R _ _ | exact rst_R)) kX12_in eX12_restore_14 lX12_restore_14 rfl rfl (Nat.le_of_ble_eq_true rfl) ⟨Nat.le_of_ble_eq_true rfl, Nat.le_of_ble_eq_true rfl⟩ ⟨Nat.le_refl _, Nat.le_refl _⟩ ?_
           refine aw_if_eq (tgt := 29) eX12_restore_17 (by decide) bt_r (fun hh => have h79 := bt0 hh; ?_) (fun hh => have h79 := bt1 hh; ?_)
           · first
             | (exfalso; omega; done)
             | (refine aw_blk oX12_restore_29 (pc' := 31) (ls' := [_, _, _, _, _, _]) (st' := [_]) (cs := []) rfl trivial ?_
                refine aw_iret eX12_restore_31 rfl (Nat.le_refl _) (Nat.le_refl _) ?_
                exact pe_i rfl rfl rfl)
           · first
             | (exfalso; omega; done)
             | (refine aw_blk oX12_restore_20 (pc' := 23) (ls' := [_, _, _, _, _, _]) (st' := [_, _, _]) (cs := []) rfl trivial ?_
                refine aw_ciS (rest := []) (c_X12_in (by first | omega | exact bitk_R _ _ | exact rst_R) (by first | omega | exact bitk_R _ _ | exact rst_R) (by first | omega | exact bitk_R _ _ | exact rst_R)) kX12_in eX12_restore_23 lX12_restore_23 rfl rfl (Nat.le_of_ble_eq_true rfl) ⟨Nat.le_of_ble_eq_true rfl, Nat.le_of_ble_eq_true rfl⟩ ⟨Nat.le_refl _, Nat.le_refl _⟩ ?_
                refine aw_if_ne (tgt := 32) eX12_restore_26 (by decide) bt_r (fun hh => have h80 := bt1 hh; ?_) (fun hh => have h80 := bt0 hh; ?_)
                · first
                  | (exfalso; omega; done)
                  | (refine aw_blk oX12_restore_32 (pc' := 37) (ls' := [_, _, _, _, _, _]) (st' := [_]) (cs := []) rfl trivial ?_
                     refine aw_if_ne (tgt := 43) eX12_restore_37 (by decide) (by first | omega | exact bitk_R _ _ | exact rst_R) (fun h81 => ?_) (fun h81 => ?_)
                     · first
                       | (exfalso; omega; done)
                       | (refine aw_blk oX12_restore_43 (pc' := 49) (ls' := [_, _, _, _, _, _]) (st' := []) (cs := []) rfl trivial ?_
                          skip)
                     · first
                       | (exfalso; omega; done)
                       | (refine aw_blk oX12_restore_40 (pc' := 42) (ls' := [_, _, _, _, _, _]) (st' := [_]) (cs := []) rfl trivial ?_
                          refine aw_iret eX12_restore_42 rfl (Nat.le_refl _) (Nat.le_refl _) ?_
                          exact pe_i rfl rfl rfl))
                · first
                  | (exfalso; omega; done)
                  | (refine aw_blk oX12_restore_29 (pc' := 31) (ls' := [_, _, _, _, _, _]) (st' := [_]) (cs := []) rfl trivial ?_
                     refine aw_iret eX12_restore_31 rfl (Nat.le_refl _) (Nat.le_refl _) ?_
                     exact pe_i rfl rfl rfl)))
      · first
        | (exfalso; omega; done)
        | (refine aw_blk oX12_restore_7 (pc' := 8) (ls' := [_, _, _, _, _, _]) (st' := [_]) (cs := []) rfl trivial ?_
           refine aw_iret eX12_restore_8 rfl (Nat.le_refl _) (Nat.le_refl _) ?_
           exact pe_i rfl rfl rfl)
end
section
/-! ===== MARKS ===== -/
def RK (μ : MM) : Prop := PR 48 71 8 0 255 μ
abbrev csK : List Nat := [48, 71]
def unl (r : Int → Int) (known is s : Int) : Int := bAnd (bXor (r s) is) known
def blm (r : Int → Int) (known is : Int) : Nat → Int
  | 0 => 0
  | n + 1 => bOr (blm r known is n) (if unl r known is (n : Int) = 0 then bShl 1 (n : Int) else 0)
theorem blm_R {r : Int → Int} {known is : Int} : ∀ n : Nat, R32 (blm r known is n)
  | 0 => r0
  | n + 1 => bOr_R
def blB (z : Nat → Bool) : Nat → Int
  | 0 => 0
  | n + 1 => bOr (blB z n) (if z n = true then bShl 1 (n : Int) else 0)
theorem blB_eq {r : Int → Int} {known is : Int} : ∀ n : Nat, blm r known is n = blB (fun k => decide (unl r known is (k : Int) = 0)) n
  | 0 => rfl
  | n + 1 => by
    simp only [blm, blB, blB_eq n, decide_eq_true_eq]
theorem blB_congr {z y : Nat → Bool} : ∀ n : Nat, (∀ k, k < n → z k = y k) → blB z n = blB y n
  | 0, _ => rfl
  | n + 1, h => by simp only [blB, blB_congr n (fun k hk => h k (by omega)), h n (by omega)]
theorem blB_bits : ∀ a b c d e f g h : Bool, ∀ k : Nat, k < 8 → bitk (blB (fun n => [a, b, c, d, e, f, g, h].getD n false) 8) (k : Int) = if [a, b, c, d, e, f, g, h].getD k false = true then 1 else 0 := by decide +kernel
theorem blm_bit {r : Int → Int} {known is : Int} (k : Nat) (hk : k < 8) : bitk (blm r known is 8) (k : Int) = if unl r known is (k : Int) = 0 then 1 else 0 := by
  rw [blB_eq]
  generalize hz : (fun k : Nat => decide (unl r known is (k : Int) = 0)) = z
  have e : blB z 8 = blB (fun n => [z 0, z 1, z 2, z 3, z 4, z 5, z 6, z 7].getD n false) 8 := blB_congr 8 (fun k hk => by
    rcases (show k = 0 ∨ k = 1 ∨ k = 2 ∨ k = 3 ∨ k = 4 ∨ k = 5 ∨ k = 6 ∨ k = 7 by omega) with rfl | rfl | rfl | rfl | rfl | rfl | rfl | rfl <;> rfl)
  rw [e, blB_bits _ _ _ _ _ _ _ _ k hk]
  have e2 : [z 0, z 1, z 2, z 3, z 4, z 5, z 6, z 7].getD k false = z k := by
    rcases (show k = 0 ∨ k = 1 ∨ k = 2 ∨ k = 3 ∨ k = 4 ∨ k = 5 ∨ k = 6 ∨ k = 7 by omega) with rfl | rfl | rfl | rfl | rfl | rfl | rfl | rfl <;> rfl
  rw [e2, ← hz]
  simp only [decide_eq_true_eq]
def prB (r : Int → Int) (known is a b : Int) : Bool := decide (¬ unl r known is a = 0 ∧ ¬ unl r known is b = 0 ∧ bAnd (unl r known is a) (unl r known is b) = 0)
def stP (q : Bool) (a b : Int) (s : Int × Int) : Int × Int := if q = true then (s.1 + 1, if s.2 < 0 then 10 * a + b else s.2) else s
def inL (pr : Int → Int → Bool) (a : Int) : Nat → Int → Int × Int → Int × Int
  | 0, _, s => s
  | n + 1, b, s => inL pr a n (b + 1) (stP (pr a b) a b s)
def outL (pr : Int → Int → Bool) : Nat → Int → Int × Int → Int × Int
  | 0, _, s => s
  | n + 1, a, s => outL pr n (a + 1) (inL pr a n (a + 1) s)
theorem inL_keep {pr : Int → Int → Bool} {a : Int} : ∀ (n : Nat) (b p f : Int), 0 ≤ f → (inL pr a n b (p, f)).2 = f
  | 0, _, _, _, _ => rfl
  | n + 1, b, p, f, h => by
    simp only [inL, stP]
    split
    · rw [if_neg (by omega)]; exact inL_keep n _ _ _ h
    · exact inL_keep n _ _ _ h
theorem outL_keep {pr : Int → Int → Bool} : ∀ (n : Nat) (a : Int) (s : Int × Int), 0 ≤ s.2 → (outL pr n a s).2 = s.2
  | 0, _, _, _ => rfl
  | n + 1, a, (p, f), h => by
    simp only [outL]
    have e := inL_keep (pr := pr) (a := a) n (a + 1) p f h
    rw [outL_keep n (a + 1) _ (by rw [e]; exact h), e]
theorem inL_bd {pr : Int → Int → Bool} {a : Int} (ha : 0 ≤ a ∧ a ≤ 8) : ∀ (n : Nat) (b p f : Int), 0 ≤ b → b + n ≤ 8 → -6 ≤ f → f ≤ 100 → 0 ≤ p → p ≤ (inL pr a n b (p, f)).1 ∧ (inL pr a n b (p, f)).1 ≤ p + n ∧ -6 ≤ (inL pr a n b (p, f)).2 ∧ (inL pr a n b (p, f)).2 ≤ 100
  | 0, b, p, f, _, _, _, _, _ => by simp [inL]; omega
  | n + 1, b, p, f, hb, hn, h1, h2, h3 => by
    simp only [inL, stP]
    split
    · have := inL_bd (pr := pr) ha n (b + 1) (p + 1) (if f < 0 then 10 * a + b else f) (by omega) (by omega) (by split <;> omega) (by split <;> omega) (by omega)
      omega
    · have := inL_bd (pr := pr) ha n (b + 1) p f (by omega) (by omega) h1 h2 h3
      omega
theorem outL_bd {pr : Int → Int → Bool} : ∀ (n : Nat) (a : Int) (s : Int × Int), 0 ≤ a → a + n ≤ 8 → -6 ≤ s.2 → s.2 ≤ 100 → 0 ≤ s.1 → 0 ≤ (outL pr n a s).1 ∧ (outL pr n a s).1 ≤ s.1 + 8 * n ∧ -6 ≤ (outL pr n a s).2 ∧ (outL pr n a s).2 ≤ 100
  | 0, a, s, _, _, _, _, _ => by simp [outL]; omega
  | n + 1, a, (p, f), ha, hn, h1, h2, h3 => by
    simp only [outL]
    have e := inL_bd (pr := pr) (a := a) (by omega) n (a + 1) p f (by omega) (by omega) h1 h2 h3
    have := outL_bd (pr := pr) n (a + 1) (inL pr a n (a + 1) (p, f)) (by omega) (by omega) (by omega) (by omega) (by omega)
    omega
theorem c_X5_change {κ : KX} {μ : MM} {ν : ML} {t v : Int} (ht : 0 ≤ t ∧ t < 8) : AE κ 0 mX5_change [aR 47, aI t, aI v] μ ν (some (aI (μ 48 t))) (up μ 48 t v) ν := by
  refine AMet.of kX5_change.1 (Nat.le_of_ble_eq_true rfl) rfl ?_
  refine aw_blk oX5_change_0 (pc' := 15) (ls' := [_, _, _, _]) (st' := [_]) (cs := [(_, _), (_, _)]) rfl (⟨⟨by omega, by omega⟩, ⟨by omega, by omega⟩, trivial⟩) ?_
  refine aw_iret eX5_change_15 rfl (Nat.le_refl _) (Nat.le_refl _) ?_
  exact pe_i rfl rfl rfl
theorem c_X5_unlike {κ : KX} {μ : MM} {ν : ML} {t k i : Int} (ht : 0 ≤ t ∧ t < 8) : AE κ 0 mX5_unlike [aR 47, aI t, aI k, aI i] μ ν (some (aI (unl (μ 48) k i t))) μ ν := by
  refine AMet.of kX5_unlike.1 (Nat.le_of_ble_eq_true rfl) rfl ?_
  refine aw_blk oX5_unlike_0 (pc' := 10) (ls' := [_, _, _, _]) (st' := [_]) (cs := [(_, _)]) rfl (⟨⟨by omega, by omega⟩, trivial⟩) ?_
  refine aw_iret eX5_unlike_10 rfl (Nat.le_refl _) (Nat.le_refl _) ?_
  exact pe_i rfl rfl rfl
theorem unl_R {r : Int → Int} {k i t : Int} : R32 (unl r k i t) := bAnd_R
theorem c_isPair {κ : KX} {μ : MM} {ν : ML} {a b k i : Int} (ha : 0 ≤ a ∧ a < 8) (hb : 0 ≤ b ∧ b < 8) : AE κ 1 mX5_isPair [aR 47, aI a, aI b, aI k, aI i] μ ν (some (aI (if prB (μ 48) k i a b = true then 1 else 0))) μ ν := by
  refine AMet.of kX5_isPair.1 (Nat.le_of_ble_eq_true rfl) rfl ?_
  refine aw_blk oX5_isPair_0 (pc' := 5) (ls' := [_, _, _, _, _, _, _]) (st' := [_, _, _, _]) (cs := []) rfl trivial ?_
  refine aw_ciV (rest := []) (c_X5_unlike (by omega)) kX5_unlike eX5_isPair_5 lX5_isPair_5 rfl rfl rfl rfl (Nat.le_of_ble_eq_true rfl) ⟨Nat.le_of_ble_eq_true rfl, Nat.le_of_ble_eq_true rfl⟩ ⟨Nat.le_refl _, Nat.le_refl _⟩ ?_
  refine aw_blk oX5_isPair_8 (pc' := 15) (ls' := [_, _, _, _, _, _, _]) (st' := [_, _, _, _]) (cs := []) rfl trivial ?_
  refine aw_ciV (rest := []) (c_X5_unlike (by omega)) kX5_unlike eX5_isPair_15 lX5_isPair_15 rfl rfl rfl rfl (Nat.le_of_ble_eq_true rfl) ⟨Nat.le_of_ble_eq_true rfl, Nat.le_of_ble_eq_true rfl⟩ ⟨Nat.le_refl _, Nat.le_refl _⟩ ?_
  refine aw_blk oX5_isPair_18 (pc' := 22) (ls' := [_, _, _, _, _, _, _]) (st' := [_]) (cs := []) rfl trivial ?_
  refine aw_if_eq (tgt := 42) eX5_isPair_22 (by decide) (by first | exact bAnd_R | omega) (fun h1 => ?_) (fun h1 => ?_)
  · first
    | (exfalso; omega; done)
    | (refine aw_blk oX5_isPair_42 (pc' := 43) (ls' := [_, _, _, _, _, _, _]) (st' := [_]) (cs := []) rfl trivial ?_
       refine aw_zret eX5_isPair_43 rfl (by first | exact bAnd_R | omega) (Nat.le_refl _) (Nat.le_refl _) ?_
       exact pe_i (by unfold prB; simp only [decide_eq_true_eq]; first | (rw [if_pos ⟨by assumption, by assumption, by assumption⟩]; done) | (rw [if_neg (fun q => by first | exact absurd (by assumption) q.1 | exact absurd (by assumption) q.2.1 | exact absurd q.2.2 (by assumption))]; done)) rfl rfl)
  · first
    | (exfalso; omega; done)
    | (refine aw_blk oX5_isPair_25 (pc' := 27) (ls' := [_, _, _, _, _, _, _]) (st' := [_]) (cs := []) rfl trivial ?_
       refine aw_if_eq (tgt := 42) eX5_isPair_27 (by decide) (by first | exact bAnd_R | omega) (fun h2 => ?_) (fun h2 => ?_)
       · first
         | (exfalso; omega; done)
         | (refine aw_blk oX5_isPair_42 (pc' := 43) (ls' := [_, _, _, _, _, _, _]) (st' := [_]) (cs := []) rfl trivial ?_
            refine aw_zret eX5_isPair_43 rfl (by first | exact bAnd_R | omega) (Nat.le_refl _) (Nat.le_refl _) ?_
            exact pe_i (by unfold prB; simp only [decide_eq_true_eq]; first | (rw [if_pos ⟨by assumption, by assumption, by assumption⟩]; done) | (rw [if_neg (fun q => by first | exact absurd (by assumption) q.1 | exact absurd (by assumption) q.2.1 | exact absurd q.2.2 (by assumption))]; done)) rfl rfl)
       · first
         | (exfalso; omega; done)
         | (refine aw_blk oX5_isPair_30 (pc' := 35) (ls' := [_, _, _, _, _, _, _]) (st' := [_]) (cs := []) rfl trivial ?_
            refine aw_if_ne (tgt := 42) eX5_isPair_35 (by decide) (by first | exact bAnd_R | omega) (fun h3 => ?_) (fun h3 => ?_)
            · first
              | (exfalso; omega; done)
              | (refine aw_blk oX5_isPair_42 (pc' := 43) (ls' := [_, _, _, _, _, _, _]) (st' := [_]) (cs := []) rfl trivial ?_
                 refine aw_zret eX5_isPair_43 rfl (by first | exact bAnd_R | omega) (Nat.le_refl _) (Nat.le_refl _) ?_
                 exact pe_i (by unfold prB; simp only [decide_eq_true_eq]; first | (rw [if_pos ⟨by assumption, by assumption, by assumption⟩]; done) | (rw [if_neg (fun q => by first | exact absurd (by assumption) q.1 | exact absurd (by assumption) q.2.1 | exact absurd q.2.2 (by assumption))]; done)) rfl rfl)
            · first
              | (exfalso; omega; done)
              | (refine aw_blk oX5_isPair_38 (pc' := 43) (ls' := [_, _, _, _, _, _, _]) (st' := [_]) (cs := []) rfl trivial ?_
                 refine aw_zret eX5_isPair_43 rfl (by first | exact bAnd_R | omega) (Nat.le_refl _) (Nat.le_refl _) ?_
                 exact pe_i (by unfold prB; simp only [decide_eq_true_eq]; first | (rw [if_pos ⟨by assumption, by assumption, by assumption⟩]; done) | (rw [if_neg (fun q => by first | exact absurd (by assumption) q.1 | exact absurd (by assumption) q.2.1 | exact absurd q.2.2 (by assumption))]; done)) rfl rfl)))
theorem l_blamed {κ : KX} {μ : MM} {ν : ML} {k i : Int} (n : Nat) : ∀ j : Nat, j + n = 8 → AX κ mX5_blamed 1 (PE (some (aI (blm (μ 48) k i 8))) μ ν) 5 [aR 47, aI k, aI i, aI (blm (μ 48) k i j), aI j] [] μ ν := by
  induction n with
  | zero =>
    intro j hj
    refine aw_blk oX5_blamed_5 (pc' := 9) (ls' := [_, _, _, _, _]) (st' := [_, _]) (cs := []) rfl trivial ?_
    refine aw_icmp_ge (tgt := 36) eX5_blamed_9 (by decide) (by first | exact unl_R | omega) (by first | exact unl_R | omega) (fun h4 => ?_) (fun h4 => ?_)
    · first
      | (exfalso; omega; done)
      | (refine aw_blk oX5_blamed_36 (pc' := 37) (ls' := [_, _, _, _, _]) (st' := [_]) (cs := []) rfl trivial ?_
         refine aw_iret eX5_blamed_37 rfl (Nat.le_refl _) (Nat.le_refl _) ?_
         (have e : j = 8 := by omega)
         subst e
         exact pe_i rfl rfl rfl)
    · first
      | (exfalso; omega; done)
      | (refine aw_blk oX5_blamed_12 (pc' := 17) (ls' := [_, _, _, _, _]) (st' := [_, _, _, _]) (cs := []) rfl trivial ?_
         refine aw_ciV (rest := []) (c_X5_unlike (by omega)) kX5_unlike eX5_blamed_17 lX5_blamed_17 rfl rfl rfl rfl (Nat.le_of_ble_eq_true rfl) ⟨Nat.le_of_ble_eq_true rfl, Nat.le_of_ble_eq_true rfl⟩ ⟨Nat.le_refl _, Nat.le_refl _⟩ ?_
         refine aw_if_ne (tgt := 30) eX5_blamed_20 (by decide) (by first | exact unl_R | omega) (fun h5 => ?_) (fun h5 => ?_)
         · first
           | (exfalso; omega; done)
           | (refine aw_blk oX5_blamed_30 (pc' := 5) (ls' := [_, _, _, _, _]) (st' := []) (cs := []) rfl trivial ?_
              skip)
         · first
           | (exfalso; omega; done)
           | (refine aw_blk oX5_blamed_23 (pc' := 30) (ls' := [_, _, _, _, _]) (st' := []) (cs := []) rfl trivial ?_
              refine aw_blk oX5_blamed_30 (pc' := 5) (ls' := [_, _, _, _, _]) (st' := []) (cs := []) rfl trivial ?_
              skip))
  | succ n ih =>
    intro j hj
    refine aw_blk oX5_blamed_5 (pc' := 9) (ls' := [_, _, _, _, _]) (st' := [_, _]) (cs := []) rfl trivial ?_
    refine aw_icmp_ge (tgt := 36) eX5_blamed_9 (by decide) (by omega) (by omega) (fun h => ?_) (fun h => ?_)
    · exfalso; omega
    · refine aw_blk oX5_blamed_12 (pc' := 17) (ls' := [_, _, _, _, _]) (st' := [_, _, _, _]) (cs := []) rfl trivial ?_
      refine aw_ciV (rest := []) (c_X5_unlike (by omega)) kX5_unlike eX5_blamed_17 lX5_blamed_17 rfl rfl rfl rfl (Nat.le_of_ble_eq_true rfl) ⟨Nat.le_of_ble_eq_true rfl, Nat.le_of_ble_eq_true rfl⟩ ⟨Nat.le_refl _, Nat.le_refl _⟩ ?_
      refine aw_if_ne (tgt := 30) eX5_blamed_20 (by decide) (by exact unl_R) (fun h2 => ?_) (fun h2 => ?_)
      · refine aw_blk oX5_blamed_30 (pc' := 5) (ls' := [_, _, _, _, _]) (st' := []) (cs := []) rfl trivial ?_
        have := ih (j + 1) (by omega)
        simp only [blm] at this
        rw [if_neg h2, bOr_zero (blm_R j)] at this
        exact this
      · refine aw_blk oX5_blamed_23 (pc' := 30) (ls' := [_, _, _, _, _]) (st' := []) (cs := []) rfl trivial ?_
        refine aw_blk oX5_blamed_30 (pc' := 5) (ls' := [_, _, _, _, _]) (st' := []) (cs := []) rfl trivial ?_
        have := ih (j + 1) (by omega)
        simp only [blm] at this
        rw [if_pos h2] at this
        exact this
theorem c_blamed {κ : KX} {μ : MM} {ν : ML} {k i : Int} : AE κ 1 mX5_blamed [aR 47, aI k, aI i] μ ν (some (aI (blm (μ 48) k i 8))) μ ν := by
  refine AMet.of kX5_blamed.1 (Nat.le_of_ble_eq_true rfl) rfl ?_
  refine aw_blk oX5_blamed_0 (pc' := 5) (ls' := [_, _, _, _, _]) (st' := []) (cs := []) rfl trivial ?_
  exact l_blamed 8 0 rfl
end

section
-- ===== PART A: goes FIRST, ahead of the names: the tables' words, and 'selects' of the private methods out of them =====
/-- a private method of a class that the tables say can be made, by its rows of tables_1 -/
def lw_okq (q : MethodName × Nat) : Prop := (q.1.cls ≠ "java/lang/invoke/MethodHandle" ∧ q.1.cls ≠ "java/lang/invoke/VarHandle") ∧ Cond.instantiable q.1.cls q.2 ∈ tables_1 ∧ Cond.privateMethod q.1 ∈ tables_1 ∧ Cond.instanceMethod q.1 ∈ tables_1
theorem lw_p0 : lw_okq (⟨"FilmLines", "forgetShows", "()V"⟩, 13) := ⟨⟨by decide +kernel, by decide +kernel⟩, List.mem_of_getElem? (i := 19) (by decide +kernel), List.mem_of_getElem? (i := 417) (by decide +kernel), List.mem_of_getElem? (i := 418) (by decide +kernel)⟩
theorem lw_p1 : lw_okq (⟨"FilmLines$Cutter", "gather", "(IZ)V"⟩, 8) := ⟨⟨by decide +kernel, by decide +kernel⟩, List.mem_of_getElem? (i := 33) (by decide +kernel), List.mem_of_getElem? (i := 449) (by decide +kernel), List.mem_of_getElem? (i := 450) (by decide +kernel)⟩
theorem lw_p2 : lw_okq (⟨"FilmLines$Cutter", "bestMoved", "(I)I"⟩, 8) := ⟨⟨by decide +kernel, by decide +kernel⟩, List.mem_of_getElem? (i := 33) (by decide +kernel), List.mem_of_getElem? (i := 453) (by decide +kernel), List.mem_of_getElem? (i := 454) (by decide +kernel)⟩
theorem lw_p3 : lw_okq (⟨"FilmLines$Cutter", "tryBlock", "(III)V"⟩, 8) := ⟨⟨by decide +kernel, by decide +kernel⟩, List.mem_of_getElem? (i := 33) (by decide +kernel), List.mem_of_getElem? (i := 464) (by decide +kernel), List.mem_of_getElem? (i := 465) (by decide +kernel)⟩
theorem lw_p4 : lw_okq (⟨"FilmLines$Cutter", "weigh", "(II)V"⟩, 8) := ⟨⟨by decide +kernel, by decide +kernel⟩, List.mem_of_getElem? (i := 33) (by decide +kernel), List.mem_of_getElem? (i := 468) (by decide +kernel), List.mem_of_getElem? (i := 469) (by decide +kernel)⟩
theorem lw_p5 : lw_okq (⟨"FilmLines$Cutter", "tryWay", "(IIII)V"⟩, 8) := ⟨⟨by decide +kernel, by decide +kernel⟩, List.mem_of_getElem? (i := 33) (by decide +kernel), List.mem_of_getElem? (i := 475) (by decide +kernel), List.mem_of_getElem? (i := 476) (by decide +kernel)⟩
theorem lw_p6 : lw_okq (⟨"FilmLines$Cutter", "open", "(LFilmLines$Frames;I)V"⟩, 8) := ⟨⟨by decide +kernel, by decide +kernel⟩, List.mem_of_getElem? (i := 33) (by decide +kernel), List.mem_of_getElem? (i := 479) (by decide +kernel), List.mem_of_getElem? (i := 480) (by decide +kernel)⟩
theorem lw_p7 : lw_okq (⟨"FilmLines$Rule", "takeSign", "(II)V"⟩, 8) := ⟨⟨by decide +kernel, by decide +kernel⟩, List.mem_of_getElem? (i := 130) (by decide +kernel), List.mem_of_getElem? (i := 576) (by decide +kernel), List.mem_of_getElem? (i := 577) (by decide +kernel)⟩
theorem lw_p8 : lw_okq (⟨"FilmLines$Show", "load", "(LFilmLines$Film;LFilmLines$Rule;I)V"⟩, 7) := ⟨⟨by decide +kernel, by decide +kernel⟩, List.mem_of_getElem? (i := 162) (by decide +kernel), List.mem_of_getElem? (i := 596) (by decide +kernel), List.mem_of_getElem? (i := 597) (by decide +kernel)⟩
theorem lw_p9 : lw_okq (⟨"FilmLines$Show", "begin", "(LFilmLines$Film;LFilmLines$Rule;II)V"⟩, 7) := ⟨⟨by decide +kernel, by decide +kernel⟩, List.mem_of_getElem? (i := 162) (by decide +kernel), List.mem_of_getElem? (i := 600) (by decide +kernel), List.mem_of_getElem? (i := 601) (by decide +kernel)⟩
theorem lw_p10 : lw_okq (⟨"FilmLines$Show", "watch", "(LFilmLines$Film;I)V"⟩, 7) := ⟨⟨by decide +kernel, by decide +kernel⟩, List.mem_of_getElem? (i := 162) (by decide +kernel), List.mem_of_getElem? (i := 616) (by decide +kernel), List.mem_of_getElem? (i := 617) (by decide +kernel)⟩
theorem lw_p11 : lw_okq (⟨"FilmLines$BestSearch", "placeFrom", "(LFilmLines$Film;III)V"⟩, 11) := ⟨⟨by decide +kernel, by decide +kernel⟩, List.mem_of_getElem? (i := 195) (by decide +kernel), List.mem_of_getElem? (i := 635) (by decide +kernel), List.mem_of_getElem? (i := 636) (by decide +kernel)⟩
theorem lw_p12 : lw_okq (⟨"FilmLines$BestSearch", "place", "(LFilmLines$Film;III)V"⟩, 11) := ⟨⟨by decide +kernel, by decide +kernel⟩, List.mem_of_getElem? (i := 195) (by decide +kernel), List.mem_of_getElem? (i := 640) (by decide +kernel), List.mem_of_getElem? (i := 641) (by decide +kernel)⟩
theorem lw_p13 : lw_okq (⟨"FilmLines$BestSearch", "secondOf", "(II)I"⟩, 11) := ⟨⟨by decide +kernel, by decide +kernel⟩, List.mem_of_getElem? (i := 195) (by decide +kernel), List.mem_of_getElem? (i := 645) (by decide +kernel), List.mem_of_getElem? (i := 646) (by decide +kernel)⟩
theorem lw_p14 : lw_okq (⟨"FilmLines$BestSearch", "judge", "(LFilmLines$Film;I)V"⟩, 11) := ⟨⟨by decide +kernel, by decide +kernel⟩, List.mem_of_getElem? (i := 195) (by decide +kernel), List.mem_of_getElem? (i := 650) (by decide +kernel), List.mem_of_getElem? (i := 651) (by decide +kernel)⟩
theorem lw_p15 : lw_okq (⟨"FilmLines$BestSearch", "watch", "(LFilmLines$Film;I)V"⟩, 11) := ⟨⟨by decide +kernel, by decide +kernel⟩, List.mem_of_getElem? (i := 195) (by decide +kernel), List.mem_of_getElem? (i := 654) (by decide +kernel), List.mem_of_getElem? (i := 655) (by decide +kernel)⟩
def lw_privs_1 : List (MethodName × Nat) := [(⟨"FilmLines", "forgetShows", "()V"⟩, 13), (⟨"FilmLines$Cutter", "gather", "(IZ)V"⟩, 8), (⟨"FilmLines$Cutter", "bestMoved", "(I)I"⟩, 8), (⟨"FilmLines$Cutter", "tryBlock", "(III)V"⟩, 8), (⟨"FilmLines$Cutter", "weigh", "(II)V"⟩, 8), (⟨"FilmLines$Cutter", "tryWay", "(IIII)V"⟩, 8), (⟨"FilmLines$Cutter", "open", "(LFilmLines$Frames;I)V"⟩, 8), (⟨"FilmLines$Rule", "takeSign", "(II)V"⟩, 8), (⟨"FilmLines$Show", "load", "(LFilmLines$Film;LFilmLines$Rule;I)V"⟩, 7), (⟨"FilmLines$Show", "begin", "(LFilmLines$Film;LFilmLines$Rule;II)V"⟩, 7), (⟨"FilmLines$Show", "watch", "(LFilmLines$Film;I)V"⟩, 7), (⟨"FilmLines$BestSearch", "placeFrom", "(LFilmLines$Film;III)V"⟩, 11), (⟨"FilmLines$BestSearch", "place", "(LFilmLines$Film;III)V"⟩, 11), (⟨"FilmLines$BestSearch", "secondOf", "(II)I"⟩, 11), (⟨"FilmLines$BestSearch", "judge", "(LFilmLines$Film;I)V"⟩, 11), (⟨"FilmLines$BestSearch", "watch", "(LFilmLines$Film;I)V"⟩, 11)]
theorem lw_r1 : ∀ q ∈ lw_privs_1, lw_okq q := List.forall_mem_cons.mpr ⟨lw_p0, List.forall_mem_cons.mpr ⟨lw_p1, List.forall_mem_cons.mpr ⟨lw_p2, List.forall_mem_cons.mpr ⟨lw_p3, List.forall_mem_cons.mpr ⟨lw_p4, List.forall_mem_cons.mpr ⟨lw_p5, List.forall_mem_cons.mpr ⟨lw_p6, List.forall_mem_cons.mpr ⟨lw_p7, List.forall_mem_cons.mpr ⟨lw_p8, List.forall_mem_cons.mpr ⟨lw_p9, List.forall_mem_cons.mpr ⟨lw_p10, List.forall_mem_cons.mpr ⟨lw_p11, List.forall_mem_cons.mpr ⟨lw_p12, List.forall_mem_cons.mpr ⟨lw_p13, List.forall_mem_cons.mpr ⟨lw_p14, List.forall_mem_cons.mpr ⟨lw_p15, fun _ h => absurd h List.not_mem_nil⟩⟩⟩⟩⟩⟩⟩⟩⟩⟩⟩⟩⟩⟩⟩⟩
theorem lw_p16 : lw_okq (⟨"FilmLines$BestSearch", "isNoWorse", "()Z"⟩, 11) := ⟨⟨by decide +kernel, by decide +kernel⟩, List.mem_of_getElem? (i := 195) (by decide +kernel), List.mem_of_getElem? (i := 658) (by decide +kernel), List.mem_of_getElem? (i := 659) (by decide +kernel)⟩
theorem lw_p17 : lw_okq (⟨"FilmLines$BestSearch", "keep", "(I)V"⟩, 11) := ⟨⟨by decide +kernel, by decide +kernel⟩, List.mem_of_getElem? (i := 195) (by decide +kernel), List.mem_of_getElem? (i := 662) (by decide +kernel), List.mem_of_getElem? (i := 663) (by decide +kernel)⟩
theorem lw_p18 : lw_okq (⟨"FilmLines$BestSearch", "mayBeNoWorse", "(LFilmLines$Film;I)Z"⟩, 11) := ⟨⟨by decide +kernel, by decide +kernel⟩, List.mem_of_getElem? (i := 195) (by decide +kernel), List.mem_of_getElem? (i := 666) (by decide +kernel), List.mem_of_getElem? (i := 667) (by decide +kernel)⟩
theorem lw_p19 : lw_okq (⟨"FilmLines$Towns", "weightOf", "(I)I"⟩, 4) := ⟨⟨by decide +kernel, by decide +kernel⟩, List.mem_of_getElem? (i := 238) (by decide +kernel), List.mem_of_getElem? (i := 713) (by decide +kernel), List.mem_of_getElem? (i := 714) (by decide +kernel)⟩
theorem lw_p20 : lw_okq (⟨"FilmLines$Marks", "unlike", "(III)I"⟩, 1) := ⟨⟨by decide +kernel, by decide +kernel⟩, List.mem_of_getElem? (i := 293) (by decide +kernel), List.mem_of_getElem? (i := 799) (by decide +kernel), List.mem_of_getElem? (i := 800) (by decide +kernel)⟩
theorem lw_p21 : lw_okq (⟨"FilmLines$Marks", "isPair", "(IIII)Z"⟩, 1) := ⟨⟨by decide +kernel, by decide +kernel⟩, List.mem_of_getElem? (i := 293) (by decide +kernel), List.mem_of_getElem? (i := 807) (by decide +kernel), List.mem_of_getElem? (i := 808) (by decide +kernel)⟩
theorem lw_p22 : lw_okq (⟨"FilmLines$Nodes", "newParent", "(II)I"⟩, 3) := ⟨⟨by decide +kernel, by decide +kernel⟩, List.mem_of_getElem? (i := 313) (by decide +kernel), List.mem_of_getElem? (i := 886) (by decide +kernel), List.mem_of_getElem? (i := 887) (by decide +kernel)⟩
theorem lw_p23 : lw_okq (⟨"FilmLinesModel", "isFrame", "(I)Z"⟩, 37) := ⟨⟨by decide +kernel, by decide +kernel⟩, List.mem_of_getElem? (i := 922) (by decide +kernel), List.mem_of_getElem? (i := 1048) (by decide +kernel), List.mem_of_getElem? (i := 1049) (by decide +kernel)⟩
theorem lw_p24 : lw_okq (⟨"FilmLinesModel", "cut", "(I)V"⟩, 37) := ⟨⟨by decide +kernel, by decide +kernel⟩, List.mem_of_getElem? (i := 922) (by decide +kernel), List.mem_of_getElem? (i := 1067) (by decide +kernel), List.mem_of_getElem? (i := 1068) (by decide +kernel)⟩
theorem lw_p25 : lw_okq (⟨"FilmLinesModel", "cutFrame", "(I)V"⟩, 37) := ⟨⟨by decide +kernel, by decide +kernel⟩, List.mem_of_getElem? (i := 922) (by decide +kernel), List.mem_of_getElem? (i := 1071) (by decide +kernel), List.mem_of_getElem? (i := 1072) (by decide +kernel)⟩
theorem lw_p26 : lw_okq (⟨"FilmLinesModel", "openBy", "(IIII)I"⟩, 37) := ⟨⟨by decide +kernel, by decide +kernel⟩, List.mem_of_getElem? (i := 922) (by decide +kernel), List.mem_of_getElem? (i := 1075) (by decide +kernel), List.mem_of_getElem? (i := 1076) (by decide +kernel)⟩
theorem lw_p27 : lw_okq (⟨"FilmLinesModel", "unlike", "(I)I"⟩, 37) := ⟨⟨by decide +kernel, by decide +kernel⟩, List.mem_of_getElem? (i := 922) (by decide +kernel), List.mem_of_getElem? (i := 1097) (by decide +kernel), List.mem_of_getElem? (i := 1098) (by decide +kernel)⟩
theorem lw_p28 : lw_okq (⟨"FilmLinesModel", "isScene", "(I)Z"⟩, 37) := ⟨⟨by decide +kernel, by decide +kernel⟩, List.mem_of_getElem? (i := 922) (by decide +kernel), List.mem_of_getElem? (i := 1101) (by decide +kernel), List.mem_of_getElem? (i := 1102) (by decide +kernel)⟩
theorem lw_p29 : lw_okq (⟨"FilmLinesModel", "isStill", "(I)Z"⟩, 37) := ⟨⟨by decide +kernel, by decide +kernel⟩, List.mem_of_getElem? (i := 922) (by decide +kernel), List.mem_of_getElem? (i := 1105) (by decide +kernel), List.mem_of_getElem? (i := 1106) (by decide +kernel)⟩
theorem lw_p30 : lw_okq (⟨"FilmLinesModel", "faultOf", "()I"⟩, 37) := ⟨⟨by decide +kernel, by decide +kernel⟩, List.mem_of_getElem? (i := 922) (by decide +kernel), List.mem_of_getElem? (i := 1137) (by decide +kernel), List.mem_of_getElem? (i := 1138) (by decide +kernel)⟩
theorem lw_p31 : lw_okq (⟨"FilmLinesModel", "run", "(Z)V"⟩, 37) := ⟨⟨by decide +kernel, by decide +kernel⟩, List.mem_of_getElem? (i := 922) (by decide +kernel), List.mem_of_getElem? (i := 1152) (by decide +kernel), List.mem_of_getElem? (i := 1153) (by decide +kernel)⟩
def lw_privs_2 : List (MethodName × Nat) := [(⟨"FilmLines$BestSearch", "isNoWorse", "()Z"⟩, 11), (⟨"FilmLines$BestSearch", "keep", "(I)V"⟩, 11), (⟨"FilmLines$BestSearch", "mayBeNoWorse", "(LFilmLines$Film;I)Z"⟩, 11), (⟨"FilmLines$Towns", "weightOf", "(I)I"⟩, 4), (⟨"FilmLines$Marks", "unlike", "(III)I"⟩, 1), (⟨"FilmLines$Marks", "isPair", "(IIII)Z"⟩, 1), (⟨"FilmLines$Nodes", "newParent", "(II)I"⟩, 3), (⟨"FilmLinesModel", "isFrame", "(I)Z"⟩, 37), (⟨"FilmLinesModel", "cut", "(I)V"⟩, 37), (⟨"FilmLinesModel", "cutFrame", "(I)V"⟩, 37), (⟨"FilmLinesModel", "openBy", "(IIII)I"⟩, 37), (⟨"FilmLinesModel", "unlike", "(I)I"⟩, 37), (⟨"FilmLinesModel", "isScene", "(I)Z"⟩, 37), (⟨"FilmLinesModel", "isStill", "(I)Z"⟩, 37), (⟨"FilmLinesModel", "faultOf", "()I"⟩, 37), (⟨"FilmLinesModel", "run", "(Z)V"⟩, 37)]
theorem lw_r2 : ∀ q ∈ lw_privs_2, lw_okq q := List.forall_mem_cons.mpr ⟨lw_p16, List.forall_mem_cons.mpr ⟨lw_p17, List.forall_mem_cons.mpr ⟨lw_p18, List.forall_mem_cons.mpr ⟨lw_p19, List.forall_mem_cons.mpr ⟨lw_p20, List.forall_mem_cons.mpr ⟨lw_p21, List.forall_mem_cons.mpr ⟨lw_p22, List.forall_mem_cons.mpr ⟨lw_p23, List.forall_mem_cons.mpr ⟨lw_p24, List.forall_mem_cons.mpr ⟨lw_p25, List.forall_mem_cons.mpr ⟨lw_p26, List.forall_mem_cons.mpr ⟨lw_p27, List.forall_mem_cons.mpr ⟨lw_p28, List.forall_mem_cons.mpr ⟨lw_p29, List.forall_mem_cons.mpr ⟨lw_p30, List.forall_mem_cons.mpr ⟨lw_p31, fun _ h => absurd h List.not_mem_nil⟩⟩⟩⟩⟩⟩⟩⟩⟩⟩⟩⟩⟩⟩⟩⟩
theorem lw_p32 : lw_okq (⟨"FilmLinesModel", "pick", "(IIII)I"⟩, 37) := ⟨⟨by decide +kernel, by decide +kernel⟩, List.mem_of_getElem? (i := 922) (by decide +kernel), List.mem_of_getElem? (i := 1156) (by decide +kernel), List.mem_of_getElem? (i := 1157) (by decide +kernel)⟩
theorem lw_p33 : lw_okq (⟨"FilmLinesModel", "tell", "(I)I"⟩, 37) := ⟨⟨by decide +kernel, by decide +kernel⟩, List.mem_of_getElem? (i := 922) (by decide +kernel), List.mem_of_getElem? (i := 1160) (by decide +kernel), List.mem_of_getElem? (i := 1161) (by decide +kernel)⟩
theorem lw_p34 : lw_okq (⟨"FilmLinesModel", "wish", "(I)V"⟩, 37) := ⟨⟨by decide +kernel, by decide +kernel⟩, List.mem_of_getElem? (i := 922) (by decide +kernel), List.mem_of_getElem? (i := 1168) (by decide +kernel), List.mem_of_getElem? (i := 1169) (by decide +kernel)⟩
theorem lw_p35 : lw_okq (⟨"FilmLinesModel", "mayIt", "(III)Z"⟩, 37) := ⟨⟨by decide +kernel, by decide +kernel⟩, List.mem_of_getElem? (i := 922) (by decide +kernel), List.mem_of_getElem? (i := 1209) (by decide +kernel), List.mem_of_getElem? (i := 1210) (by decide +kernel)⟩
theorem lw_p36 : lw_okq (⟨"FilmLinesModel", "seenOf", "(II)I"⟩, 37) := ⟨⟨by decide +kernel, by decide +kernel⟩, List.mem_of_getElem? (i := 922) (by decide +kernel), List.mem_of_getElem? (i := 1221) (by decide +kernel), List.mem_of_getElem? (i := 1222) (by decide +kernel)⟩
theorem lw_p37 : lw_okq (⟨"FilmLinesModel", "hungOn", "(II)I"⟩, 37) := ⟨⟨by decide +kernel, by decide +kernel⟩, List.mem_of_getElem? (i := 922) (by decide +kernel), List.mem_of_getElem? (i := 1260) (by decide +kernel), List.mem_of_getElem? (i := 1261) (by decide +kernel)⟩
theorem lw_p38 : lw_okq (⟨"FilmLinesModel", "behindOf", "(I)I"⟩, 37) := ⟨⟨by decide +kernel, by decide +kernel⟩, List.mem_of_getElem? (i := 922) (by decide +kernel), List.mem_of_getElem? (i := 1268) (by decide +kernel), List.mem_of_getElem? (i := 1269) (by decide +kernel)⟩
theorem lw_p39 : lw_okq (⟨"FilmLinesModel", "isBelow", "(II)Z"⟩, 37) := ⟨⟨by decide +kernel, by decide +kernel⟩, List.mem_of_getElem? (i := 922) (by decide +kernel), List.mem_of_getElem? (i := 1276) (by decide +kernel), List.mem_of_getElem? (i := 1277) (by decide +kernel)⟩
def lw_privs_3 : List (MethodName × Nat) := [(⟨"FilmLinesModel", "pick", "(IIII)I"⟩, 37), (⟨"FilmLinesModel", "tell", "(I)I"⟩, 37), (⟨"FilmLinesModel", "wish", "(I)V"⟩, 37), (⟨"FilmLinesModel", "mayIt", "(III)Z"⟩, 37), (⟨"FilmLinesModel", "seenOf", "(II)I"⟩, 37), (⟨"FilmLinesModel", "hungOn", "(II)I"⟩, 37), (⟨"FilmLinesModel", "behindOf", "(I)I"⟩, 37), (⟨"FilmLinesModel", "isBelow", "(II)Z"⟩, 37)]
theorem lw_r3 : ∀ q ∈ lw_privs_3, lw_okq q := List.forall_mem_cons.mpr ⟨lw_p32, List.forall_mem_cons.mpr ⟨lw_p33, List.forall_mem_cons.mpr ⟨lw_p34, List.forall_mem_cons.mpr ⟨lw_p35, List.forall_mem_cons.mpr ⟨lw_p36, List.forall_mem_cons.mpr ⟨lw_p37, List.forall_mem_cons.mpr ⟨lw_p38, List.forall_mem_cons.mpr ⟨lw_p39, fun _ h => absurd h List.not_mem_nil⟩⟩⟩⟩⟩⟩⟩⟩
def lw_privs : List (MethodName × Nat) := lw_privs_1 ++ (lw_privs_2 ++ (lw_privs_3))
def lw_tbl : List Cond := k2_sels lw_privs ++ tables_1
theorem lw_privs_ok : ∀ q ∈ lw_privs, lw_okq q := by
  show ∀ q ∈ lw_privs_1 ++ (lw_privs_2 ++ (lw_privs_3)), lw_okq q
  exact List.forall_mem_append.mpr ⟨lw_r1, List.forall_mem_append.mpr ⟨lw_r2, lw_r3⟩⟩
end
section
def RX0 : String := "FilmLines$BestSearch"
def TX0 : u_T := fun k => match k with
  | 0 => ("FilmLines$BestSearch", "found", "LFilmLines$Show;", true)
  | 1 => ("FilmLines$BestSearch", "come", "[I", true)
  | 2 => ("FilmLines$BestSearch", "row", "[I", true)
  | 3 => ("FilmLines$BestSearch", "wholeAt", "[I", true)
  | 4 => ("FilmLines$BestSearch", "seenAt", "[I", true)
  | 5 => ("FilmLines$BestSearch", "sums", "[I", true)
  | 6 => ("FilmLines$BestSearch", "needed", "I", false)
  | 7 => ("FilmLines$BestSearch", "rowSeen", "I", false)
  | 8 => ("FilmLines$BestSearch", "rowStills", "I", false)
  | 9 => ("FilmLines$BestSearch", "rowSum", "I", false)
  | _ => ("FilmLines$BestSearch", "rowLast", "I", false)
def tyX0 : Nat → FieldType := fun k => match k with
  | 0 => .object "FilmLines$Show"
  | 1 => .array .int
  | 2 => .array .int
  | 3 => .array .int
  | 4 => .array .int
  | 5 => .array .int
  | 6 => .int
  | 7 => .int
  | 8 => .int
  | 9 => .int
  | _ => .int
abbrev wsX00 : List Cond := u_ws RX0 TX0 11
theorem nmX0 : ∀ a, a < 11 → ∀ b, b < 11 → a ≠ b → (TX0 a).2.1 ≠ (TX0 b).2.1 := by decide +kernel
theorem tyX0_ok : ∀ k, k < 11 → parseFieldDescriptor (TX0 k).2.2.1 = some (tyX0 k) := by decide +kernel
abbrev cX0_init : ByteArray := prog_2_method_1_code
def yX0_init : MethodName := ⟨RX0, "<init>", "()V"⟩
abbrev cX0_seek : ByteArray := prog_2_method_2_code
def yX0_seek : MethodName := ⟨RX0, "seek", "(LFilmLines$Film;I)V"⟩
abbrev cX0_placeFrom : ByteArray := prog_2_method_3_code
def yX0_placeFrom : MethodName := ⟨RX0, "placeFrom", "(LFilmLines$Film;III)V"⟩
abbrev cX0_place : ByteArray := prog_2_method_4_code
def yX0_place : MethodName := ⟨RX0, "place", "(LFilmLines$Film;III)V"⟩
abbrev cX0_secondOf : ByteArray := prog_2_method_5_code
def yX0_secondOf : MethodName := ⟨RX0, "secondOf", "(II)I"⟩
abbrev cX0_mayBeNoWorse : ByteArray := prog_2_method_6_code
def yX0_mayBeNoWorse : MethodName := ⟨RX0, "mayBeNoWorse", "(LFilmLines$Film;I)Z"⟩
abbrev cX0_judge : ByteArray := prog_2_method_7_code
def yX0_judge : MethodName := ⟨RX0, "judge", "(LFilmLines$Film;I)V"⟩
abbrev cX0_watch : ByteArray := prog_2_method_8_code
def yX0_watch : MethodName := ⟨RX0, "watch", "(LFilmLines$Film;I)V"⟩
abbrev cX0_isNoWorse : ByteArray := prog_2_method_9_code
def yX0_isNoWorse : MethodName := ⟨RX0, "isNoWorse", "()Z"⟩
abbrev cX0_keep : ByteArray := prog_2_method_10_code
def yX0_keep : MethodName := ⟨RX0, "keep", "(I)V"⟩
def RX1 : String := "FilmLines$Cutter"
def TX1 : u_T := fun k => match k with
  | 0 => ("FilmLines$Cutter", "losses", "[I", true)
  | 1 => ("FilmLines$Cutter", "choiceWays", "[I", true)
  | 2 => ("FilmLines$Cutter", "tried", "[I", true)
  | 3 => ("FilmLines$Cutter", "chosen", "[I", true)
  | 4 => ("FilmLines$Cutter", "choices", "I", false)
  | 5 => ("FilmLines$Cutter", "limit", "I", false)
  | 6 => ("FilmLines$Cutter", "leastLoss", "I", false)
  | _ => ("FilmLines$Cutter", "leastBits", "I", false)
def tyX1 : Nat → FieldType := fun k => match k with
  | 0 => .array .int
  | 1 => .array .int
  | 2 => .array .int
  | 3 => .array .int
  | 4 => .int
  | 5 => .int
  | 6 => .int
  | _ => .int
abbrev wsX10 : List Cond := u_ws RX1 TX1 8
theorem nmX1 : ∀ a, a < 8 → ∀ b, b < 8 → a ≠ b → (TX1 a).2.1 ≠ (TX1 b).2.1 := by decide +kernel
theorem tyX1_ok : ∀ k, k < 8 → parseFieldDescriptor (TX1 k).2.2.1 = some (tyX1 k) := by decide +kernel
abbrev cX1_init : ByteArray := prog_3_method_1_code
def yX1_init : MethodName := ⟨RX1, "<init>", "()V"⟩
abbrev cX1_cut : ByteArray := prog_3_method_2_code
def yX1_cut : MethodName := ⟨RX1, "cut", "(LFilmLines$Frames;II)V"⟩
abbrev cX1_gather : ByteArray := prog_3_method_3_code
def yX1_gather : MethodName := ⟨RX1, "gather", "(IZ)V"⟩
abbrev cX1_bestMoved : ByteArray := prog_3_method_4_code
def yX1_bestMoved : MethodName := ⟨RX1, "bestMoved", "(I)I"⟩
abbrev cX1_lossBy : ByteArray := prog_3_method_5_code
def yX1_lossBy : MethodName := ⟨RX1, "lossBy", "(LFilmLines$Frames;III)I"⟩
abbrev cX1_dotBy : ByteArray := prog_3_method_6_code
def yX1_dotBy : MethodName := ⟨RX1, "dotBy", "(LFilmLines$Frames;IIII)I"⟩
abbrev cX1_mean : ByteArray := prog_3_method_7_code
def yX1_mean : MethodName := ⟨RX1, "mean", "(LFilmLines$Frames;II)I"⟩
abbrev cX1_withinRim : ByteArray := prog_3_method_8_code
def yX1_withinRim : MethodName := ⟨RX1, "withinRim", "(I)I"⟩
abbrev cX1_tryBlock : ByteArray := prog_3_method_9_code
def yX1_tryBlock : MethodName := ⟨RX1, "tryBlock", "(III)V"⟩
abbrev cX1_tryWay : ByteArray := prog_3_method_10_code
def yX1_tryWay : MethodName := ⟨RX1, "tryWay", "(IIII)V"⟩
abbrev cX1_weigh : ByteArray := prog_3_method_11_code
def yX1_weigh : MethodName := ⟨RX1, "weigh", "(II)V"⟩
abbrev cX1_open : ByteArray := prog_3_method_12_code
def yX1_open : MethodName := ⟨RX1, "open", "(LFilmLines$Frames;I)V"⟩
def RX2 : String := "FilmLines$Film"
def TX2 : u_T := fun k => match k with
  | 0 => ("FilmLines$Film", "line", "[I", true)
  | 1 => ("FilmLines$Film", "sizeBits", "[I", true)
  | 2 => ("FilmLines$Film", "count", "I", false)
  | _ => ("FilmLines$Film", "doors", "I", false)
def tyX2 : Nat → FieldType := fun k => match k with
  | 0 => .array .int
  | 1 => .array .int
  | 2 => .int
  | _ => .int
abbrev wsX20 : List Cond := u_ws RX2 TX2 4
theorem nmX2 : ∀ a, a < 4 → ∀ b, b < 4 → a ≠ b → (TX2 a).2.1 ≠ (TX2 b).2.1 := by decide +kernel
theorem tyX2_ok : ∀ k, k < 4 → parseFieldDescriptor (TX2 k).2.2.1 = some (tyX2 k) := by decide +kernel
abbrev cX2_init : ByteArray := prog_4_method_1_code
def yX2_init : MethodName := ⟨RX2, "<init>", "()V"⟩
abbrev cX2_bitsOf : ByteArray := prog_4_method_2_code
def yX2_bitsOf : MethodName := ⟨RX2, "bitsOf", "(II)I"⟩
abbrev cX2_changeBits : ByteArray := prog_4_method_3_code
def yX2_changeBits : MethodName := ⟨RX2, "changeBits", "(III)I"⟩
abbrev cX2_changeLine : ByteArray := prog_4_method_4_code
def yX2_changeLine : MethodName := ⟨RX2, "changeLine", "(III)V"⟩
abbrev cX2_isDoor : ByteArray := prog_4_method_5_code
def yX2_isDoor : MethodName := ⟨RX2, "isDoor", "(I)Z"⟩
def RX3 : String := "FilmLines$Frames"
def TX3 : u_T := fun k => match k with
  | 0 => ("FilmLines$Frames", "dots", "[I", true)
  | 1 => ("FilmLines$Frames", "openedDots", "[I", true)
  | 2 => ("FilmLines$Frames", "keys", "[Z", true)
  | 3 => ("FilmLines$Frames", "ways", "[I", true)
  | 4 => ("FilmLines$Frames", "cutBits", "[I", true)
  | 5 => ("FilmLines$Frames", "cutLoss", "[I", true)
  | 6 => ("FilmLines$Frames", "cutter", "LFilmLines$Cutter;", true)
  | 7 => ("FilmLines$Frames", "count", "I", false)
  | _ => ("FilmLines$Frames", "cutCount", "I", false)
def tyX3 : Nat → FieldType := fun k => match k with
  | 0 => .array .int
  | 1 => .array .int
  | 2 => .array .boolean
  | 3 => .array .int
  | 4 => .array .int
  | 5 => .array .int
  | 6 => .object "FilmLines$Cutter"
  | 7 => .int
  | _ => .int
abbrev wsX30 : List Cond := u_ws RX3 TX3 9
theorem nmX3 : ∀ a, a < 9 → ∀ b, b < 9 → a ≠ b → (TX3 a).2.1 ≠ (TX3 b).2.1 := by decide +kernel
theorem tyX3_ok : ∀ k, k < 9 → parseFieldDescriptor (TX3 k).2.2.1 = some (tyX3 k) := by decide +kernel
abbrev cX3_init : ByteArray := prog_5_method_1_code
def yX3_init : MethodName := ⟨RX3, "<init>", "()V"⟩
abbrev cX3_has : ByteArray := prog_5_method_2_code
def yX3_has : MethodName := ⟨RX3, "has", "(I)Z"⟩
abbrev cX3_add : ByteArray := prog_5_method_3_code
def yX3_add : MethodName := ⟨RX3, "add", "()I"⟩
abbrev cX3_changeDot : ByteArray := prog_5_method_4_code
def yX3_changeDot : MethodName := ⟨RX3, "changeDot", "(III)I"⟩
abbrev cX3_changeKey : ByteArray := prog_5_method_5_code
def yX3_changeKey : MethodName := ⟨RX3, "changeKey", "(IZ)Z"⟩
abbrev cX3_forgetCutsFrom : ByteArray := prog_5_method_6_code
def yX3_forgetCutsFrom : MethodName := ⟨RX3, "forgetCutsFrom", "(I)V"⟩
abbrev cX3_cutUpTo : ByteArray := prog_5_method_7_code
def yX3_cutUpTo : MethodName := ⟨RX3, "cutUpTo", "(II)V"⟩
abbrev cX3_unlike : ByteArray := prog_5_method_8_code
def yX3_unlike : MethodName := ⟨RX3, "unlike", "(I)I"⟩
abbrev cX3_isScene : ByteArray := prog_5_method_9_code
def yX3_isScene : MethodName := ⟨RX3, "isScene", "(II)Z"⟩
abbrev cX3_isStill : ByteArray := prog_5_method_10_code
def yX3_isStill : MethodName := ⟨RX3, "isStill", "(I)Z"⟩
abbrev cX3_scenes : ByteArray := prog_5_method_11_code
def yX3_scenes : MethodName := ⟨RX3, "scenes", "(I)I"⟩
abbrev cX3_stills : ByteArray := prog_5_method_12_code
def yX3_stills : MethodName := ⟨RX3, "stills", "()I"⟩
def RX4 : String := "FilmLines$Groups"
def TX4 : u_T := fun k => match k with
  | _ => ("FilmLines$Groups", "numbers", "[I", true)
def tyX4 : Nat → FieldType := fun k => match k with
  | _ => .array .int
abbrev wsX40 : List Cond := u_ws RX4 TX4 1
theorem nmX4 : ∀ a, a < 1 → ∀ b, b < 1 → a ≠ b → (TX4 a).2.1 ≠ (TX4 b).2.1 := by decide +kernel
theorem tyX4_ok : ∀ k, k < 1 → parseFieldDescriptor (TX4 k).2.2.1 = some (tyX4 k) := by decide +kernel
abbrev cX4_init : ByteArray := prog_6_method_1_code
def yX4_init : MethodName := ⟨RX4, "<init>", "()V"⟩
abbrev cX4_change : ByteArray := prog_6_method_2_code
def yX4_change : MethodName := ⟨RX4, "change", "(III)I"⟩
abbrev cX4_numberAt : ByteArray := prog_6_method_3_code
def yX4_numberAt : MethodName := ⟨RX4, "numberAt", "(II)I"⟩
abbrev cX4_plainSum : ByteArray := prog_6_method_4_code
def yX4_plainSum : MethodName := ⟨RX4, "plainSum", "(I)I"⟩
abbrev cX4_placeSum : ByteArray := prog_6_method_5_code
def yX4_placeSum : MethodName := ⟨RX4, "placeSum", "(I)I"⟩
abbrev cX4_restorable : ByteArray := prog_6_method_6_code
def yX4_restorable : MethodName := ⟨RX4, "restorable", "(I)Z"⟩
def RX5 : String := "FilmLines$Marks"
def TX5 : u_T := fun k => match k with
  | _ => ("FilmLines$Marks", "rows", "[I", true)
def tyX5 : Nat → FieldType := fun k => match k with
  | _ => .array .int
abbrev wsX50 : List Cond := u_ws RX5 TX5 1
theorem nmX5 : ∀ a, a < 1 → ∀ b, b < 1 → a ≠ b → (TX5 a).2.1 ≠ (TX5 b).2.1 := by decide +kernel
theorem tyX5_ok : ∀ k, k < 1 → parseFieldDescriptor (TX5 k).2.2.1 = some (tyX5 k) := by decide +kernel
abbrev cX5_init : ByteArray := prog_7_method_1_code
def yX5_init : MethodName := ⟨RX5, "<init>", "()V"⟩
abbrev cX5_change : ByteArray := prog_7_method_2_code
def yX5_change : MethodName := ⟨RX5, "change", "(II)I"⟩
abbrev cX5_blamed : ByteArray := prog_7_method_3_code
def yX5_blamed : MethodName := ⟨RX5, "blamed", "(II)I"⟩
abbrev cX5_pairs : ByteArray := prog_7_method_4_code
def yX5_pairs : MethodName := ⟨RX5, "pairs", "(II)I"⟩
abbrev cX5_firstPair : ByteArray := prog_7_method_5_code
def yX5_firstPair : MethodName := ⟨RX5, "firstPair", "(II)I"⟩
abbrev cX5_isPair : ByteArray := prog_7_method_6_code
def yX5_isPair : MethodName := ⟨RX5, "isPair", "(IIII)Z"⟩
abbrev cX5_unlike : ByteArray := prog_7_method_7_code
def yX5_unlike : MethodName := ⟨RX5, "unlike", "(III)I"⟩
def RX6 : String := "FilmLines$Nodes"
def TX6 : u_T := fun k => match k with
  | 0 => ("FilmLines$Nodes", "parents", "[I", true)
  | 1 => ("FilmLines$Nodes", "delays", "[I", true)
  | _ => ("FilmLines$Nodes", "fallen", "[Z", true)
def tyX6 : Nat → FieldType := fun k => match k with
  | 0 => .array .int
  | 1 => .array .int
  | _ => .array .boolean
abbrev wsX60 : List Cond := u_ws RX6 TX6 3
theorem nmX6 : ∀ a, a < 3 → ∀ b, b < 3 → a ≠ b → (TX6 a).2.1 ≠ (TX6 b).2.1 := by decide +kernel
theorem tyX6_ok : ∀ k, k < 3 → parseFieldDescriptor (TX6 k).2.2.1 = some (tyX6 k) := by decide +kernel
abbrev cX6_init : ByteArray := prog_8_method_1_code
def yX6_init : MethodName := ⟨RX6, "<init>", "()V"⟩
abbrev cX6_rehang : ByteArray := prog_8_method_2_code
def yX6_rehang : MethodName := ⟨RX6, "rehang", "(III)I"⟩
abbrev cX6_hangingOn : ByteArray := prog_8_method_3_code
def yX6_hangingOn : MethodName := ⟨RX6, "hangingOn", "(II)I"⟩
abbrev cX6_delayUpTo0 : ByteArray := prog_8_method_4_code
def yX6_delayUpTo0 : MethodName := ⟨RX6, "delayUpTo0", "(I)I"⟩
abbrev cX6_drop : ByteArray := prog_8_method_5_code
def yX6_drop : MethodName := ⟨RX6, "drop", "(II)I"⟩
abbrev cX6_newParent : ByteArray := prog_8_method_6_code
def yX6_newParent : MethodName := ⟨RX6, "newParent", "(II)I"⟩
abbrev cX6_standing : ByteArray := prog_8_method_7_code
def yX6_standing : MethodName := ⟨RX6, "standing", "()I"⟩
abbrev cX6_standingWithin : ByteArray := prog_8_method_8_code
def yX6_standingWithin : MethodName := ⟨RX6, "standingWithin", "(I)I"⟩
abbrev cX6_hangsOn : ByteArray := prog_8_method_9_code
def yX6_hangsOn : MethodName := ⟨RX6, "hangsOn", "(I)I"⟩
def RX7 : String := "FilmLines$Rights"
def TX7 : u_T := fun k => match k with
  | 0 => ("FilmLines$Rights", "films", "[I", true)
  | 1 => ("FilmLines$Rights", "lands", "[I", true)
  | 2 => ("FilmLines$Rights", "froms", "[I", true)
  | 3 => ("FilmLines$Rights", "tos", "[I", true)
  | 4 => ("FilmLines$Rights", "limits", "[I", true)
  | 5 => ("FilmLines$Rights", "count", "I", false)
  | 6 => ("FilmLines$Rights", "seerLands", "[I", true)
  | 7 => ("FilmLines$Rights", "seconds", "[J", true)
  | _ => ("FilmLines$Rights", "times", "[I", true)
def tyX7 : Nat → FieldType := fun k => match k with
  | 0 => .array .int
  | 1 => .array .int
  | 2 => .array .int
  | 3 => .array .int
  | 4 => .array .int
  | 5 => .int
  | 6 => .array .int
  | 7 => .array .long
  | _ => .array .int
abbrev wsX70 : List Cond := u_ws RX7 TX7 9
theorem nmX7 : ∀ a, a < 9 → ∀ b, b < 9 → a ≠ b → (TX7 a).2.1 ≠ (TX7 b).2.1 := by decide +kernel
theorem tyX7_ok : ∀ k, k < 9 → parseFieldDescriptor (TX7 k).2.2.1 = some (tyX7 k) := by decide +kernel
abbrev cX7_init : ByteArray := prog_9_method_1_code
def yX7_init : MethodName := ⟨RX7, "<init>", "()V"⟩
abbrev cX7_add : ByteArray := prog_9_method_2_code
def yX7_add : MethodName := ⟨RX7, "add", "(IIIII)I"⟩
abbrev cX7_changeLand : ByteArray := prog_9_method_3_code
def yX7_changeLand : MethodName := ⟨RX7, "changeLand", "(II)I"⟩
abbrev cX7_allow : ByteArray := prog_9_method_4_code
def yX7_allow : MethodName := ⟨RX7, "allow", "(III)Z"⟩
abbrev cX7_addSeeing : ByteArray := prog_9_method_5_code
def yX7_addSeeing : MethodName := ⟨RX7, "addSeeing", "(IIII)I"⟩
abbrev cX7_secondsSeen : ByteArray := prog_9_method_6_code
def yX7_secondsSeen : MethodName := ⟨RX7, "secondsSeen", "(II)I"⟩
abbrev cX7_timesSeen : ByteArray := prog_9_method_7_code
def yX7_timesSeen : MethodName := ⟨RX7, "timesSeen", "(II)I"⟩
abbrev cX7_owedFor : ByteArray := prog_9_method_8_code
def yX7_owedFor : MethodName := ⟨RX7, "owedFor", "(III)I"⟩
def RX8 : String := "FilmLines$Rule"
def TX8 : u_T := fun k => match k with
  | 0 => ("FilmLines$Rule", "signs", "[I", true)
  | 1 => ("FilmLines$Rule", "count", "I", false)
  | 2 => ("FilmLines$Rule", "facts", "[I", true)
  | 3 => ("FilmLines$Rule", "below", "[Z", true)
  | 4 => ("FilmLines$Rule", "numbers", "[I", true)
  | 5 => ("FilmLines$Rule", "sizes", "[I", true)
  | 6 => ("FilmLines$Rule", "clauses", "I", false)
  | _ => ("FilmLines$Rule", "lastSize", "I", false)
def tyX8 : Nat → FieldType := fun k => match k with
  | 0 => .array .int
  | 1 => .int
  | 2 => .array .int
  | 3 => .array .boolean
  | 4 => .array .int
  | 5 => .array .int
  | 6 => .int
  | _ => .int
abbrev wsX80 : List Cond := u_ws RX8 TX8 8
theorem nmX8 : ∀ a, a < 8 → ∀ b, b < 8 → a ≠ b → (TX8 a).2.1 ≠ (TX8 b).2.1 := by decide +kernel
theorem tyX8_ok : ∀ k, k < 8 → parseFieldDescriptor (TX8 k).2.2.1 = some (tyX8 k) := by decide +kernel
abbrev cX8_init : ByteArray := prog_10_method_1_code
def yX8_init : MethodName := ⟨RX8, "<init>", "()V"⟩
abbrev cX8_addSign : ByteArray := prog_10_method_2_code
def yX8_addSign : MethodName := ⟨RX8, "addSign", "(I)I"⟩
abbrev cX8_dropSigns : ByteArray := prog_10_method_3_code
def yX8_dropSigns : MethodName := ⟨RX8, "dropSigns", "()I"⟩
abbrev cX8_firstFault : ByteArray := prog_10_method_4_code
def yX8_firstFault : MethodName := ⟨RX8, "firstFault", "()I"⟩
abbrev cX8_adopt : ByteArray := prog_10_method_5_code
def yX8_adopt : MethodName := ⟨RX8, "adopt", "()V"⟩
abbrev cX8_takeSign : ByteArray := prog_10_method_6_code
def yX8_takeSign : MethodName := ⟨RX8, "takeSign", "(II)V"⟩
abbrev cX8_pick : ByteArray := prog_10_method_7_code
def yX8_pick : MethodName := ⟨RX8, "pick", "(IIII)I"⟩
abbrev cX8_after : ByteArray := prog_10_method_8_code
def yX8_after : MethodName := ⟨RX8, "after", "(II)I"⟩
abbrev cX8_isFact : ByteArray := prog_10_method_9_code
def yX8_isFact : MethodName := ⟨RX8, "isFact", "(I)Z"⟩
abbrev cX8_isSize : ByteArray := prog_10_method_10_code
def yX8_isSize : MethodName := ⟨RX8, "isSize", "(I)Z"⟩
abbrev cX8_isDigit : ByteArray := prog_10_method_11_code
def yX8_isDigit : MethodName := ⟨RX8, "isDigit", "(I)Z"⟩
def RX9 : String := "FilmLines$Show"
def TX9 : u_T := fun k => match k with
  | 0 => ("FilmLines$Show", "sizes", "[I", true)
  | 1 => ("FilmLines$Show", "seenCount", "I", false)
  | 2 => ("FilmLines$Show", "stills", "I", false)
  | 3 => ("FilmLines$Show", "sizeSum", "I", false)
  | 4 => ("FilmLines$Show", "lastSecond", "I", false)
  | 5 => ("FilmLines$Show", "whole", "I", false)
  | _ => ("FilmLines$Show", "missing", "I", false)
def tyX9 : Nat → FieldType := fun k => match k with
  | 0 => .array .int
  | 1 => .int
  | 2 => .int
  | 3 => .int
  | 4 => .int
  | 5 => .int
  | _ => .int
abbrev wsX90 : List Cond := u_ws RX9 TX9 7
theorem nmX9 : ∀ a, a < 7 → ∀ b, b < 7 → a ≠ b → (TX9 a).2.1 ≠ (TX9 b).2.1 := by decide +kernel
theorem tyX9_ok : ∀ k, k < 7 → parseFieldDescriptor (TX9 k).2.2.1 = some (tyX9 k) := by decide +kernel
abbrev cX9_init : ByteArray := prog_11_method_1_code
def yX9_init : MethodName := ⟨RX9, "<init>", "()V"⟩
abbrev cX9_tells : ByteArray := prog_11_method_2_code
def yX9_tells : MethodName := ⟨RX9, "tells", "(I)Z"⟩
abbrev cX9_answer : ByteArray := prog_11_method_3_code
def yX9_answer : MethodName := ⟨RX9, "answer", "(I)I"⟩
abbrev cX9_clear : ByteArray := prog_11_method_4_code
def yX9_clear : MethodName := ⟨RX9, "clear", "()V"⟩
abbrev cX9_run : ByteArray := prog_11_method_5_code
def yX9_run : MethodName := ⟨RX9, "run", "(LFilmLines$Film;LFilmLines$Rule;I)V"⟩
abbrev cX9_load : ByteArray := prog_11_method_6_code
def yX9_load : MethodName := ⟨RX9, "load", "(LFilmLines$Film;LFilmLines$Rule;I)V"⟩
abbrev cX9_begin : ByteArray := prog_11_method_7_code
def yX9_begin : MethodName := ⟨RX9, "begin", "(LFilmLines$Film;LFilmLines$Rule;II)V"⟩
abbrev cX9_watch : ByteArray := prog_11_method_8_code
def yX9_watch : MethodName := ⟨RX9, "watch", "(LFilmLines$Film;I)V"⟩
def RX10 : String := "FilmLines$Towns"
def TX10 : u_T := fun k => match k with
  | 0 => ("FilmLines$Towns", "rooms", "[I", true)
  | 1 => ("FilmLines$Towns", "fars", "[I", true)
  | 2 => ("FilmLines$Towns", "weights", "[I", true)
  | _ => ("FilmLines$Towns", "asks", "[I", true)
def tyX10 : Nat → FieldType := fun k => match k with
  | 0 => .array .int
  | 1 => .array .int
  | 2 => .array .int
  | _ => .array .int
abbrev wsX100 : List Cond := u_ws RX10 TX10 4
theorem nmX10 : ∀ a, a < 4 → ∀ b, b < 4 → a ≠ b → (TX10 a).2.1 ≠ (TX10 b).2.1 := by decide +kernel
theorem tyX10_ok : ∀ k, k < 4 → parseFieldDescriptor (TX10 k).2.2.1 = some (tyX10 k) := by decide +kernel
abbrev cX10_init : ByteArray := prog_12_method_1_code
def yX10_init : MethodName := ⟨RX10, "<init>", "()V"⟩
abbrev cX10_changeRoom : ByteArray := prog_12_method_2_code
def yX10_changeRoom : MethodName := ⟨RX10, "changeRoom", "(II)I"⟩
abbrev cX10_changeFar : ByteArray := prog_12_method_3_code
def yX10_changeFar : MethodName := ⟨RX10, "changeFar", "(II)I"⟩
abbrev cX10_changeWeight : ByteArray := prog_12_method_4_code
def yX10_changeWeight : MethodName := ⟨RX10, "changeWeight", "(II)I"⟩
abbrev cX10_changeAsks : ByteArray := prog_12_method_5_code
def yX10_changeAsks : MethodName := ⟨RX10, "changeAsks", "(III)I"⟩
abbrev cX10_bestFilms : ByteArray := prog_12_method_6_code
def yX10_bestFilms : MethodName := ⟨RX10, "bestFilms", "(I)I"⟩
abbrev cX10_weightOf : ByteArray := prog_12_method_7_code
def yX10_weightOf : MethodName := ⟨RX10, "weightOf", "(I)I"⟩
abbrev cX10_costOf : ByteArray := prog_12_method_8_code
def yX10_costOf : MethodName := ⟨RX10, "costOf", "(II)I"⟩
def RX11 : String := "FilmLines"
def TX11 : u_T := fun k => match k with
  | 0 => ("FilmLines", "settings", "[I", true)
  | 1 => ("FilmLines", "frames", "LFilmLines$Frames;", true)
  | 2 => ("FilmLines", "theFilm", "LFilmLines$Film;", true)
  | 3 => ("FilmLines", "theRule", "LFilmLines$Rule;", true)
  | 4 => ("FilmLines", "ruleShow", "LFilmLines$Show;", true)
  | 5 => ("FilmLines", "search", "LFilmLines$BestSearch;", true)
  | 6 => ("FilmLines", "towns", "LFilmLines$Towns;", true)
  | 7 => ("FilmLines", "rights", "LFilmLines$Rights;", true)
  | 8 => ("FilmLines", "marks", "LFilmLines$Marks;", true)
  | 9 => ("FilmLines", "groups", "LFilmLines$Groups;", true)
  | 10 => ("FilmLines", "nodes", "LFilmLines$Nodes;", true)
  | 11 => ("FilmLines", "showHolds", "Z", false)
  | _ => ("FilmLines", "bestHolds", "Z", false)
def tyX11 : Nat → FieldType := fun k => match k with
  | 0 => .array .int
  | 1 => .object "FilmLines$Frames"
  | 2 => .object "FilmLines$Film"
  | 3 => .object "FilmLines$Rule"
  | 4 => .object "FilmLines$Show"
  | 5 => .object "FilmLines$BestSearch"
  | 6 => .object "FilmLines$Towns"
  | 7 => .object "FilmLines$Rights"
  | 8 => .object "FilmLines$Marks"
  | 9 => .object "FilmLines$Groups"
  | 10 => .object "FilmLines$Nodes"
  | 11 => .boolean
  | _ => .boolean
abbrev wsX110 : List Cond := u_ws RX11 TX11 13
theorem nmX11 : ∀ a, a < 13 → ∀ b, b < 13 → a ≠ b → (TX11 a).2.1 ≠ (TX11 b).2.1 := by decide +kernel
theorem tyX11_ok : ∀ k, k < 13 → parseFieldDescriptor (TX11 k).2.2.1 = some (tyX11 k) := by decide +kernel
abbrev cX11_init : ByteArray := prog_1_method_1_code
def yX11_init : MethodName := ⟨RX11, "<init>", "()V"⟩
abbrev cX11_frame : ByteArray := prog_1_method_2_code
def yX11_frame : MethodName := ⟨RX11, "frame", "()I"⟩
abbrev cX11_dot : ByteArray := prog_1_method_3_code
def yX11_dot : MethodName := ⟨RX11, "dot", "(III)I"⟩
abbrev cX11_key : ByteArray := prog_1_method_4_code
def yX11_key : MethodName := ⟨RX11, "key", "(IZ)I"⟩
abbrev cX11_set : ByteArray := prog_1_method_5_code
def yX11_set : MethodName := ⟨RX11, "set", "(II)I"⟩
abbrev cX11_way : ByteArray := prog_1_method_6_code
def yX11_way : MethodName := ⟨RX11, "way", "(II)I"⟩
abbrev cX11_opened : ByteArray := prog_1_method_7_code
def yX11_opened : MethodName := ⟨RX11, "opened", "(II)I"⟩
abbrev cX11_of : ByteArray := prog_1_method_8_code
def yX11_of : MethodName := ⟨RX11, "of", "(II)I"⟩
abbrev cX11_pieces : ByteArray := prog_1_method_9_code
def yX11_pieces : MethodName := ⟨RX11, "pieces", "(I)I"⟩
abbrev cX11_bits : ByteArray := prog_1_method_10_code
def yX11_bits : MethodName := ⟨RX11, "bits", "(III)I"⟩
abbrev cX11_doors : ByteArray := prog_1_method_11_code
def yX11_doors : MethodName := ⟨RX11, "doors", "(I)I"⟩
abbrev cX11_line : ByteArray := prog_1_method_12_code
def yX11_line : MethodName := ⟨RX11, "line", "(III)I"⟩
abbrev cX11_say : ByteArray := prog_1_method_13_code
def yX11_say : MethodName := ⟨RX11, "say", "(I)I"⟩
abbrev cX11_wipe : ByteArray := prog_1_method_14_code
def yX11_wipe : MethodName := ⟨RX11, "wipe", "()I"⟩
abbrev cX11_fault : ByteArray := prog_1_method_15_code
def yX11_fault : MethodName := ⟨RX11, "fault", "()I"⟩
abbrev cX11_rule : ByteArray := prog_1_method_16_code
def yX11_rule : MethodName := ⟨RX11, "rule", "()I"⟩
abbrev cX11_show : ByteArray := prog_1_method_17_code
def yX11_show : MethodName := ⟨RX11, "show", "(I)I"⟩
abbrev cX11_best : ByteArray := prog_1_method_18_code
def yX11_best : MethodName := ⟨RX11, "best", "(I)I"⟩
abbrev cX11_town : ByteArray := prog_1_method_19_code
def yX11_town : MethodName := ⟨RX11, "town", "(III)I"⟩
abbrev cX11_weight : ByteArray := prog_1_method_20_code
def yX11_weight : MethodName := ⟨RX11, "weight", "(II)I"⟩
abbrev cX11_ask : ByteArray := prog_1_method_21_code
def yX11_ask : MethodName := ⟨RX11, "ask", "(III)I"⟩
abbrev cX11_kept : ByteArray := prog_1_method_22_code
def yX11_kept : MethodName := ⟨RX11, "kept", "(II)I"⟩
abbrev cX11_right : ByteArray := prog_1_method_23_code
def yX11_right : MethodName := ⟨RX11, "right", "(IIIII)I"⟩
abbrev cX11_land : ByteArray := prog_1_method_24_code
def yX11_land : MethodName := ⟨RX11, "land", "(II)I"⟩
abbrev cX11_may : ByteArray := prog_1_method_25_code
def yX11_may : MethodName := ⟨RX11, "may", "(III)I"⟩
abbrev cX11_see : ByteArray := prog_1_method_26_code
def yX11_see : MethodName := ⟨RX11, "see", "(IIIII)I"⟩
abbrev cX11_seen : ByteArray := prog_1_method_27_code
def yX11_seen : MethodName := ⟨RX11, "seen", "(III)I"⟩
abbrev cX11_owed : ByteArray := prog_1_method_28_code
def yX11_owed : MethodName := ⟨RX11, "owed", "(I)I"⟩
abbrev cX11_mark : ByteArray := prog_1_method_29_code
def yX11_mark : MethodName := ⟨RX11, "mark", "(II)I"⟩
abbrev cX11_blame : ByteArray := prog_1_method_30_code
def yX11_blame : MethodName := ⟨RX11, "blame", "(III)I"⟩
abbrev cX11_put : ByteArray := prog_1_method_31_code
def yX11_put : MethodName := ⟨RX11, "put", "(III)I"⟩
abbrev cX11_sum : ByteArray := prog_1_method_32_code
def yX11_sum : MethodName := ⟨RX11, "sum", "(II)I"⟩
abbrev cX11_restore : ByteArray := prog_1_method_33_code
def yX11_restore : MethodName := ⟨RX11, "restore", "(III)I"⟩
abbrev cX11_hang : ByteArray := prog_1_method_34_code
def yX11_hang : MethodName := ⟨RX11, "hang", "(III)I"⟩
abbrev cX11_behind : ByteArray := prog_1_method_35_code
def yX11_behind : MethodName := ⟨RX11, "behind", "(I)I"⟩
abbrev cX11_fall : ByteArray := prog_1_method_36_code
def yX11_fall : MethodName := ⟨RX11, "fall", "(I)I"⟩
abbrev cX11_tree : ByteArray := prog_1_method_37_code
def yX11_tree : MethodName := ⟨RX11, "tree", "(I)I"⟩
abbrev cX11_told : ByteArray := prog_1_method_38_code
def yX11_told : MethodName := ⟨RX11, "told", "(I)I"⟩
abbrev cX11_between : ByteArray := prog_1_method_39_code
def yX11_between : MethodName := ⟨RX11, "between", "(III)Z"⟩
abbrev cX11_isFilm : ByteArray := prog_1_method_40_code
def yX11_isFilm : MethodName := ⟨RX11, "isFilm", "(I)Z"⟩
abbrev cX11_isSeer : ByteArray := prog_1_method_41_code
def yX11_isSeer : MethodName := ⟨RX11, "isSeer", "(I)Z"⟩
abbrev cX11_isNode : ByteArray := prog_1_method_42_code
def yX11_isNode : MethodName := ⟨RX11, "isNode", "(I)Z"⟩
abbrev cX11_forgetShows : ByteArray := prog_1_method_43_code
def yX11_forgetShows : MethodName := ⟨RX11, "forgetShows", "()V"⟩
def RX12 : String := "FilmLinesModel"
def TX12 : u_T := fun k => match k with
  | 0 => ("FilmLinesModel", "frames", "I", false)
  | 1 => ("FilmLinesModel", "dots", "[I", true)
  | 2 => ("FilmLinesModel", "isKey", "[Z", true)
  | 3 => ("FilmLinesModel", "told", "[I", true)
  | 4 => ("FilmLinesModel", "pieces", "I", false)
  | 5 => ("FilmLinesModel", "size", "[I", true)
  | 6 => ("FilmLinesModel", "doors", "I", false)
  | 7 => ("FilmLinesModel", "line", "[I", true)
  | 8 => ("FilmLinesModel", "signs", "I", false)
  | 9 => ("FilmLinesModel", "sign", "[I", true)
  | 10 => ("FilmLinesModel", "ruleMany", "I", false)
  | 11 => ("FilmLinesModel", "ruleSign", "[I", true)
  | 12 => ("FilmLinesModel", "room", "[I", true)
  | 13 => ("FilmLinesModel", "far", "[I", true)
  | 14 => ("FilmLinesModel", "weight", "[I", true)
  | 15 => ("FilmLinesModel", "asks", "[I", true)
  | 16 => ("FilmLinesModel", "rights", "I", false)
  | 17 => ("FilmLinesModel", "right", "[I", true)
  | 18 => ("FilmLinesModel", "seerLand", "[I", true)
  | 19 => ("FilmLinesModel", "seconds", "[Z", true)
  | 20 => ("FilmLinesModel", "times", "[I", true)
  | 21 => ("FilmLinesModel", "marks", "[I", true)
  | 22 => ("FilmLinesModel", "group", "[I", true)
  | 23 => ("FilmLinesModel", "hangs", "[I", true)
  | 24 => ("FilmLinesModel", "delay", "[I", true)
  | 25 => ("FilmLinesModel", "fallen", "[Z", true)
  | 26 => ("FilmLinesModel", "ways", "[I", true)
  | 27 => ("FilmLinesModel", "open", "[I", true)
  | 28 => ("FilmLinesModel", "bitsOf", "[I", true)
  | 29 => ("FilmLinesModel", "lossOf", "[I", true)
  | 30 => ("FilmLinesModel", "loss", "[I", true)
  | 31 => ("FilmLinesModel", "seen", "I", false)
  | 32 => ("FilmLinesModel", "still", "I", false)
  | 33 => ("FilmLinesModel", "sizes", "I", false)
  | 34 => ("FilmLinesModel", "lastSeen", "I", false)
  | 35 => ("FilmLinesModel", "shown", "[I", true)
  | _ => ("FilmLinesModel", "wished", "[I", true)
def tyX12 : Nat → FieldType := fun k => match k with
  | 0 => .int
  | 1 => .array .int
  | 2 => .array .boolean
  | 3 => .array .int
  | 4 => .int
  | 5 => .array .int
  | 6 => .int
  | 7 => .array .int
  | 8 => .int
  | 9 => .array .int
  | 10 => .int
  | 11 => .array .int
  | 12 => .array .int
  | 13 => .array .int
  | 14 => .array .int
  | 15 => .array .int
  | 16 => .int
  | 17 => .array .int
  | 18 => .array .int
  | 19 => .array .boolean
  | 20 => .array .int
  | 21 => .array .int
  | 22 => .array .int
  | 23 => .array .int
  | 24 => .array .int
  | 25 => .array .boolean
  | 26 => .array .int
  | 27 => .array .int
  | 28 => .array .int
  | 29 => .array .int
  | 30 => .array .int
  | 31 => .int
  | 32 => .int
  | 33 => .int
  | 34 => .int
  | 35 => .array .int
  | _ => .array .int
abbrev wsX120 : List Cond := u_ws RX12 TX12 37
theorem nmX12 : ∀ a, a < 37 → ∀ b, b < 37 → a ≠ b → (TX12 a).2.1 ≠ (TX12 b).2.1 := by decide +kernel
theorem tyX12_ok : ∀ k, k < 37 → parseFieldDescriptor (TX12 k).2.2.1 = some (tyX12 k) := by decide +kernel
abbrev cX12_init : ByteArray := prog_14_method_1_code
def yX12_init : MethodName := ⟨RX12, "<init>", "()V"⟩
abbrev cX12_in : ByteArray := prog_14_method_2_code
def yX12_in : MethodName := ⟨RX12, "in", "(III)Z"⟩
abbrev cX12_isFrame : ByteArray := prog_14_method_3_code
def yX12_isFrame : MethodName := ⟨RX12, "isFrame", "(I)Z"⟩
abbrev cX12_frame : ByteArray := prog_14_method_4_code
def yX12_frame : MethodName := ⟨RX12, "frame", "()I"⟩
abbrev cX12_dot : ByteArray := prog_14_method_5_code
def yX12_dot : MethodName := ⟨RX12, "dot", "(III)I"⟩
abbrev cX12_key : ByteArray := prog_14_method_6_code
def yX12_key : MethodName := ⟨RX12, "key", "(IZ)I"⟩
abbrev cX12_set : ByteArray := prog_14_method_7_code
def yX12_set : MethodName := ⟨RX12, "set", "(II)I"⟩
abbrev cX12_costOf : ByteArray := prog_14_method_8_code
def yX12_costOf : MethodName := ⟨RX12, "costOf", "(I)I"⟩
abbrev cX12_dotAt : ByteArray := prog_14_method_9_code
def yX12_dotAt : MethodName := ⟨RX12, "dotAt", "(II)I"⟩
abbrev cX12_held : ByteArray := prog_14_method_10_code
def yX12_held : MethodName := ⟨RX12, "held", "(I)I"⟩
abbrev cX12_openBy : ByteArray := prog_14_method_11_code
def yX12_openBy : MethodName := ⟨RX12, "openBy", "(IIII)I"⟩
abbrev cX12_cutFrame : ByteArray := prog_14_method_12_code
def yX12_cutFrame : MethodName := ⟨RX12, "cutFrame", "(I)V"⟩
abbrev cX12_cut : ByteArray := prog_14_method_13_code
def yX12_cut : MethodName := ⟨RX12, "cut", "(I)V"⟩
abbrev cX12_way : ByteArray := prog_14_method_14_code
def yX12_way : MethodName := ⟨RX12, "way", "(II)I"⟩
abbrev cX12_opened : ByteArray := prog_14_method_15_code
def yX12_opened : MethodName := ⟨RX12, "opened", "(II)I"⟩
abbrev cX12_unlike : ByteArray := prog_14_method_16_code
def yX12_unlike : MethodName := ⟨RX12, "unlike", "(I)I"⟩
abbrev cX12_isScene : ByteArray := prog_14_method_17_code
def yX12_isScene : MethodName := ⟨RX12, "isScene", "(I)Z"⟩
abbrev cX12_isStill : ByteArray := prog_14_method_18_code
def yX12_isStill : MethodName := ⟨RX12, "isStill", "(I)Z"⟩
abbrev cX12_of : ByteArray := prog_14_method_19_code
def yX12_of : MethodName := ⟨RX12, "of", "(II)I"⟩
abbrev cX12_pieces : ByteArray := prog_14_method_20_code
def yX12_pieces : MethodName := ⟨RX12, "pieces", "(I)I"⟩
abbrev cX12_bits : ByteArray := prog_14_method_21_code
def yX12_bits : MethodName := ⟨RX12, "bits", "(III)I"⟩
abbrev cX12_doors : ByteArray := prog_14_method_22_code
def yX12_doors : MethodName := ⟨RX12, "doors", "(I)I"⟩
abbrev cX12_line : ByteArray := prog_14_method_23_code
def yX12_line : MethodName := ⟨RX12, "line", "(III)I"⟩
abbrev cX12_say : ByteArray := prog_14_method_24_code
def yX12_say : MethodName := ⟨RX12, "say", "(I)I"⟩
abbrev cX12_wipe : ByteArray := prog_14_method_25_code
def yX12_wipe : MethodName := ⟨RX12, "wipe", "()I"⟩
abbrev cX12_faultOf : ByteArray := prog_14_method_26_code
def yX12_faultOf : MethodName := ⟨RX12, "faultOf", "()I"⟩
abbrev cX12_fault : ByteArray := prog_14_method_27_code
def yX12_fault : MethodName := ⟨RX12, "fault", "()I"⟩
abbrev cX12_rule : ByteArray := prog_14_method_28_code
def yX12_rule : MethodName := ⟨RX12, "rule", "()I"⟩
abbrev cX12_pick : ByteArray := prog_14_method_29_code
def yX12_pick : MethodName := ⟨RX12, "pick", "(IIII)I"⟩
abbrev cX12_run : ByteArray := prog_14_method_30_code
def yX12_run : MethodName := ⟨RX12, "run", "(Z)V"⟩
abbrev cX12_tell : ByteArray := prog_14_method_31_code
def yX12_tell : MethodName := ⟨RX12, "tell", "(I)I"⟩
abbrev cX12_isTold : ByteArray := prog_14_method_32_code
def yX12_isTold : MethodName := ⟨RX12, "isTold", "(I)Z"⟩
abbrev cX12_show : ByteArray := prog_14_method_33_code
def yX12_show : MethodName := ⟨RX12, "show", "(I)I"⟩
abbrev cX12_wish : ByteArray := prog_14_method_34_code
def yX12_wish : MethodName := ⟨RX12, "wish", "(I)V"⟩
abbrev cX12_best : ByteArray := prog_14_method_35_code
def yX12_best : MethodName := ⟨RX12, "best", "(I)I"⟩
abbrev cX12_isTown : ByteArray := prog_14_method_36_code
def yX12_isTown : MethodName := ⟨RX12, "isTown", "(I)Z"⟩
abbrev cX12_isFilm : ByteArray := prog_14_method_37_code
def yX12_isFilm : MethodName := ⟨RX12, "isFilm", "(I)Z"⟩
abbrev cX12_isSeer : ByteArray := prog_14_method_38_code
def yX12_isSeer : MethodName := ⟨RX12, "isSeer", "(I)Z"⟩
abbrev cX12_town : ByteArray := prog_14_method_39_code
def yX12_town : MethodName := ⟨RX12, "town", "(III)I"⟩
abbrev cX12_weight : ByteArray := prog_14_method_40_code
def yX12_weight : MethodName := ⟨RX12, "weight", "(II)I"⟩
abbrev cX12_ask : ByteArray := prog_14_method_41_code
def yX12_ask : MethodName := ⟨RX12, "ask", "(III)I"⟩
abbrev cX12_kept : ByteArray := prog_14_method_42_code
def yX12_kept : MethodName := ⟨RX12, "kept", "(II)I"⟩
abbrev cX12_right : ByteArray := prog_14_method_43_code
def yX12_right : MethodName := ⟨RX12, "right", "(IIIII)I"⟩
abbrev cX12_land : ByteArray := prog_14_method_44_code
def yX12_land : MethodName := ⟨RX12, "land", "(II)I"⟩
abbrev cX12_mayIt : ByteArray := prog_14_method_45_code
def yX12_mayIt : MethodName := ⟨RX12, "mayIt", "(III)Z"⟩
abbrev cX12_may : ByteArray := prog_14_method_46_code
def yX12_may : MethodName := ⟨RX12, "may", "(III)I"⟩
abbrev cX12_see : ByteArray := prog_14_method_47_code
def yX12_see : MethodName := ⟨RX12, "see", "(IIIII)I"⟩
abbrev cX12_seenOf : ByteArray := prog_14_method_48_code
def yX12_seenOf : MethodName := ⟨RX12, "seenOf", "(II)I"⟩
abbrev cX12_seen : ByteArray := prog_14_method_49_code
def yX12_seen : MethodName := ⟨RX12, "seen", "(III)I"⟩
abbrev cX12_owed : ByteArray := prog_14_method_50_code
def yX12_owed : MethodName := ⟨RX12, "owed", "(I)I"⟩
abbrev cX12_mark : ByteArray := prog_14_method_51_code
def yX12_mark : MethodName := ⟨RX12, "mark", "(II)I"⟩
abbrev cX12_blame : ByteArray := prog_14_method_52_code
def yX12_blame : MethodName := ⟨RX12, "blame", "(III)I"⟩
abbrev cX12_isGroup : ByteArray := prog_14_method_53_code
def yX12_isGroup : MethodName := ⟨RX12, "isGroup", "(I)Z"⟩
abbrev cX12_put : ByteArray := prog_14_method_54_code
def yX12_put : MethodName := ⟨RX12, "put", "(III)I"⟩
abbrev cX12_sum : ByteArray := prog_14_method_55_code
def yX12_sum : MethodName := ⟨RX12, "sum", "(II)I"⟩
abbrev cX12_restore : ByteArray := prog_14_method_56_code
def yX12_restore : MethodName := ⟨RX12, "restore", "(III)I"⟩
abbrev cX12_isNode : ByteArray := prog_14_method_57_code
def yX12_isNode : MethodName := ⟨RX12, "isNode", "(I)Z"⟩
abbrev cX12_hungOn : ByteArray := prog_14_method_58_code
def yX12_hungOn : MethodName := ⟨RX12, "hungOn", "(II)I"⟩
abbrev cX12_hang : ByteArray := prog_14_method_59_code
def yX12_hang : MethodName := ⟨RX12, "hang", "(III)I"⟩
abbrev cX12_behindOf : ByteArray := prog_14_method_60_code
def yX12_behindOf : MethodName := ⟨RX12, "behindOf", "(I)I"⟩
abbrev cX12_behind : ByteArray := prog_14_method_61_code
def yX12_behind : MethodName := ⟨RX12, "behind", "(I)I"⟩
abbrev cX12_isBelow : ByteArray := prog_14_method_62_code
def yX12_isBelow : MethodName := ⟨RX12, "isBelow", "(II)Z"⟩
abbrev cX12_fall : ByteArray := prog_14_method_63_code
def yX12_fall : MethodName := ⟨RX12, "fall", "(I)I"⟩
abbrev cX12_tree : ByteArray := prog_14_method_64_code
def yX12_tree : MethodName := ⟨RX12, "tree", "(I)I"⟩
abbrev cX12_told : ByteArray := prog_14_method_65_code
def yX12_told : MethodName := ⟨RX12, "told", "(I)I"⟩
def RJ6 : String := "java/lang/Integer"
def TJ6 : u_T := fun k => match k with
  | _ => ("", "", "", false)
def tyJ6 : Nat → FieldType := fun k => match k with
  | _ => .int
abbrev wsJ60 : List Cond := u_ws RJ6 TJ6 0
theorem nmJ6 : ∀ a, a < 0 → ∀ b, b < 0 → a ≠ b → (TJ6 a).2.1 ≠ (TJ6 b).2.1 := by decide +kernel
theorem tyJ6_ok : ∀ k, k < 0 → parseFieldDescriptor (TJ6 k).2.2.1 = some (tyJ6 k) := by decide +kernel
abbrev cJ6_bitCount_0f7a4 : ByteArray := prog_15_method_49_code
def yJ6_bitCount_0f7a4 : MethodName := ⟨RJ6, "bitCount", "(I)I"⟩
def RJ13 : String := "java/lang/Long"
def TJ13 : u_T := fun k => match k with
  | _ => ("", "", "", false)
def tyJ13 : Nat → FieldType := fun k => match k with
  | _ => .int
abbrev wsJ130 : List Cond := u_ws RJ13 TJ13 0
theorem nmJ13 : ∀ a, a < 0 → ∀ b, b < 0 → a ≠ b → (TJ13 a).2.1 ≠ (TJ13 b).2.1 := by decide +kernel
theorem tyJ13_ok : ∀ k, k < 0 → parseFieldDescriptor (TJ13 k).2.2.1 = some (tyJ13 k) := by decide +kernel
abbrev cJ13_bitCount_95d88 : ByteArray := prog_16_method_50_code
def yJ13_bitCount_95d88 : MethodName := ⟨RJ13, "bitCount", "(J)I"⟩
def RJ9 : String := "java/lang/Math"
def TJ9 : u_T := fun k => match k with
  | _ => ("", "", "", false)
def tyJ9 : Nat → FieldType := fun k => match k with
  | _ => .int
abbrev wsJ90 : List Cond := u_ws RJ9 TJ9 0
theorem nmJ9 : ∀ a, a < 0 → ∀ b, b < 0 → a ≠ b → (TJ9 a).2.1 ≠ (TJ9 b).2.1 := by decide +kernel
theorem tyJ9_ok : ∀ k, k < 0 → parseFieldDescriptor (TJ9 k).2.2.1 = some (tyJ9 k) := by decide +kernel
abbrev cJ9_abs_0f7a4 : ByteArray := prog_17_method_59_code
def yJ9_abs_0f7a4 : MethodName := ⟨RJ9, "abs", "(I)I"⟩
abbrev cJ9_max_7cf53 : ByteArray := prog_17_method_65_code
def yJ9_max_7cf53 : MethodName := ⟨RJ9, "max", "(II)I"⟩
abbrev cJ9_min_7cf53 : ByteArray := prog_17_method_69_code
def yJ9_min_7cf53 : MethodName := ⟨RJ9, "min", "(II)I"⟩
def RJ10 : String := "java/lang/System"
def TJ10 : u_T := fun k => match k with
  | _ => ("", "", "", false)
def tyJ10 : Nat → FieldType := fun k => match k with
  | _ => .int
abbrev wsJ100 : List Cond := u_ws RJ10 TJ10 0
theorem nmJ10 : ∀ a, a < 0 → ∀ b, b < 0 → a ≠ b → (TJ10 a).2.1 ≠ (TJ10 b).2.1 := by decide +kernel
theorem tyJ10_ok : ∀ k, k < 0 → parseFieldDescriptor (TJ10 k).2.2.1 = some (tyJ10 k) := by decide +kernel
def RL : String := "FilmLinesLaw"
abbrev cL_law : ByteArray := code
def yL_law : MethodName := ⟨RL, "law", "([I)Z"⟩
abbrev classes : List vw_C := [(RX0, TX0, 11), (RX1, TX1, 8), (RX2, TX2, 4), (RX3, TX3, 9), (RX4, TX4, 1), (RX5, TX5, 1), (RX6, TX6, 3), (RX7, TX7, 9), (RX8, TX8, 8), (RX9, TX9, 7), (RX10, TX10, 4), (RX11, TX11, 13), (RX12, TX12, 37)]
theorem inX0 : ∀ w ∈ u_ws RX0 TX0 11, w ∈ lw_tbl := by decide +kernel
theorem inX1 : ∀ w ∈ u_ws RX1 TX1 8, w ∈ lw_tbl := by decide +kernel
theorem inX2 : ∀ w ∈ u_ws RX2 TX2 4, w ∈ lw_tbl := by decide +kernel
theorem inX3 : ∀ w ∈ u_ws RX3 TX3 9, w ∈ lw_tbl := by decide +kernel
theorem inX4 : ∀ w ∈ u_ws RX4 TX4 1, w ∈ lw_tbl := by decide +kernel
theorem inX5 : ∀ w ∈ u_ws RX5 TX5 1, w ∈ lw_tbl := by decide +kernel
theorem inX6 : ∀ w ∈ u_ws RX6 TX6 3, w ∈ lw_tbl := by decide +kernel
theorem inX7 : ∀ w ∈ u_ws RX7 TX7 9, w ∈ lw_tbl := by decide +kernel
theorem inX8 : ∀ w ∈ u_ws RX8 TX8 8, w ∈ lw_tbl := by decide +kernel
theorem inX9 : ∀ w ∈ u_ws RX9 TX9 7, w ∈ lw_tbl := by decide +kernel
theorem inX10 : ∀ w ∈ u_ws RX10 TX10 4, w ∈ lw_tbl := by decide +kernel
theorem inX11 : ∀ w ∈ u_ws RX11 TX11 13, w ∈ lw_tbl := by decide +kernel
theorem inX12 : ∀ w ∈ u_ws RX12 TX12 37, w ∈ lw_tbl := by decide +kernel
end
section
/-! ===== the abstract machine: values, shapes, memory ===== -/
abbrev AV : Type := Int ⊕ (Int64 ⊕ (Nat ⊕ (Nat ⊕ Bool)))
abbrev aI (z : Int) : AV := Sum.inl z
abbrev aL (x : Int64) : AV := Sum.inr (Sum.inl x)
abbrev aR (k : Nat) : AV := Sum.inr (Sum.inr (Sum.inl k))
abbrev aS (j : Nat) : AV := Sum.inr (Sum.inr (Sum.inr (Sum.inl j)))
abbrev aN : AV := Sum.inr (Sum.inr (Sum.inr (Sum.inr false)))
abbrev aU : AV := Sum.inr (Sum.inr (Sum.inr (Sum.inr true)))
/-- lo, static arrays' addresses, class numbers and slots, array classes, the script -/
abbrev KX : Type := Nat × (Nat → Nat) × va_G × (Nat → ClassId) × Nat × (Nat → Int32)
def cvA (κ : KX) : AV → Value
  | .inl z => .int (Int32.ofInt z)
  | .inr (.inl x) => .long x
  | .inr (.inr (.inl k)) => .ref (κ.1 + k)
  | .inr (.inr (.inr (.inl j))) => .ref (κ.2.1 j)
  | .inr (.inr (.inr (.inr _))) => .null
/-- a shape: an array (0 int, 1 boolean, 2 long; its length), or an object (its class; its fields: none an int, some a reference) -/
abbrev SH : Type := (Nat × Nat) ⊕ (Nat × List (Option AV))
abbrev MM : Type := Nat → Int → Int
abbrev ML : Type := Nat → Int → Int64
def up (μ : MM) (c : Nat) (i v : Int) : MM := fun c' i' => if c' = c ∧ i' = i then v else μ c' i'
def upL (ν : ML) (c : Nat) (i : Int) (v : Int64) : ML := fun c' i' => if c' = c ∧ i' = i then v else ν c' i'
def rdF (κ : KX) (μ : MM) (k i : Nat) (f : Option AV) : Value := match f with
  | none => .int (Int32.ofInt (μ k i))
  | some v => cvA κ v
def rdA (ν : ML) (μ : MM) (k t : Nat) : (Nat → Int32) ⊕ (Nat → Int64) ⊕ (Nat → UInt32) ⊕ (Nat → UInt64) ⊕ (Nat → Option Nat) :=
  if t = 2 then .inr (.inl (fun j => ν k (j : Int))) else .inl (fun j => Int32.ofInt (μ k (j : Int)))
def rdC (κ : KX) (μ : MM) (ν : ML) (k : Nat) (sh : SH) : va_E := match sh with
  | .inl (t, n) => .inl (κ.2.2.2.1 t, n, rdA ν μ k t)
  | .inr (ci, fs) => .inr (ci, fs.mapIdx (rdF κ μ k))
def wsA (κ : KX) (S : List SH) (μ : MM) (ν : ML) : va_W := S.mapIdx (fun k sh => (κ.1 + k, rdC κ μ ν k sh))
def Wl (κ : KX) (S : List SH) (μ : MM) (ν : ML) (H : Heap) : Prop := H.size = κ.1 + S.length ∧ va_P κ.2.2.1 classes (wsA κ S μ ν) H
abbrev lwA (κ : KX) : Nat → Prop := fun q => κ.1 ≤ q
def KK (κ : KX) (U : State) : Prop := va_K κ.2.2.1 classes [(κ.2.2.2.1 0, .int), (κ.2.2.2.1 1, .boolean), (κ.2.2.2.1 2, .long)] U
def stN : Nat → String × String
  | 0 => ("FilmLines", "SETTING_LEAST")
  | 1 => ("FilmLines", "SETTING_MOST")
  | 2 => ("FilmLines$Cutter", "WAY_BITS")
  | 3 => ("FilmLines$Cutter", "BLOCK_DOT")
  | _ => ("FilmLines$Cutter", "CORNER_DOT")
def stA : Nat → List Int
  | 0 => [0, 0, 1, 0, 0, 0, 1]
  | 1 => [80, 240, 8, 100, 60, 1000, 9]
  | 2 => [6, 6, 6, 6, 1, 6, 6, 6, 6, 5, 20]
  | 3 => [0, 2, 8, 10]
  | _ => [0, 1, 4, 5]
def stv (j : Nat) (i : Int) : Int := (stA j).getD i.toNat 0
def Stt (κ : KX) (U : State) : Prop := κ.1 ≤ U.heap.size ∧
  (∀ j, j < 5 → va_Z (stN j).1 (stN j).2 "[I" (.ref (κ.2.1 j)) (lwA κ) U U.heap ∧ va_T .int (κ.2.1 j) (stA j).length (fun n => .int (Int32.ofInt ((stA j).getD n 0))) (lwA κ) U U.heap) ∧
  va_X (κ.2.1 5) κ.2.2.2.2.1 κ.2.2.2.2.2 U U.heap ∧ κ.2.1 5 < κ.1
/-- the tables' words that every call may hand on -/
def lwg : List Cond := lw_tbl.filter goodWord
/-- a method: name, bytes, locals, what it returns -/
abbrev MX : Type := MethodName × ByteArray × Nat × Option FieldType
def Fx (κ : KX) (cx : MX) (p : Program) (s : State) (m : MethodId) (args : Array Value) (meth : Method) (c : Code) : Prop :=
  p.tables.exec = Jvm.exec ∧ c.code = cx.2.1 ∧ meth.sig.returnType = cx.2.2.2 ∧ c.maxLocals = cx.2.2.1 ∧ s.vm.findClass cx.1.cls = some m.cls ∧ (∀ w ∈ lwg, w.before args s = true) ∧ meth.locks = false ∧ meth.name = cx.1.name ∧ KK κ s ∧ Stt κ s
def LH (κ : KX) (n : Nat) (lsA : Array Slot) (ls : List AV) : Prop := lsA.size = n ∧ lv_wf lsA ∧ ls.length = n ∧ ∀ (i : Nat) (v : AV), ls[i]? = some v → v ≠ aU → lsA[i]? = some (.val (cvA κ v))
def gt {α : Type} : List α → Nat → Option α
  | [], _ => none
  | a :: _, 0 => some a
  | _ :: r, n + 1 => gt r n
theorem gt_eq {α : Type} : ∀ (l : List α) (n : Nat), gt l n = l[n]?
  | [], n => by simp [gt]
  | a :: r, 0 => by simp [gt]
  | a :: r, n + 1 => by simp [gt, gt_eq r n]
def isLg : Option AV → Bool
  | some (.inr (.inl _)) => true
  | _ => false
def lset (ls : List AV) (i : Nat) (v : AV) : Option (List AV) := match Nat.blt i ls.length && !(Nat.blt 0 i && isLg (gt ls (i - 1))) with
  | true => some (ls.set i v)
  | false => none
def lset2 (ls : List AV) (i : Nat) (v : AV) : Option (List AV) := match Nat.blt (i + 1) ls.length && !(Nat.blt 0 i && isLg (gt ls (i - 1))) with
  | true => some ((ls.set i v).set (i + 1) aU)
  | false => none
def bAnd (a b : Int) : Int := (Int32.ofInt a &&& Int32.ofInt b).toInt
def bOr (a b : Int) : Int := (Int32.ofInt a ||| Int32.ofInt b).toInt
def bXor (a b : Int) : Int := (Int32.ofInt a ^^^ Int32.ofInt b).toInt
def bShl (a b : Int) : Int := (Int32.ofInt a <<< (Int32.ofInt b &&& 31)).toInt
def bShr (a b : Int) : Int := (Int32.ofInt a >>> (Int32.ofInt b &&& 31)).toInt
def bUshr (a b : Int) : Int := (((Int32.ofInt a).toUInt32 >>> ((Int32.ofInt b).toUInt32 &&& Int32.toUInt32 31)).toInt32).toInt
def bDiv (a b : Int) : Int := (Int32.ofInt a / Int32.ofInt b).toInt
def bRem (a b : Int) : Int := (Int32.ofInt a - Int32.ofInt a / Int32.ofInt b * Int32.ofInt b).toInt
def lUshr (x : Int64) (b : Int) : Int64 := (x.toUInt64 >>> ((Int32.ofInt b).toInt64.toUInt64 &&& Int64.toUInt64 63)).toInt64
def lShl (x : Int64) (b : Int) : Int64 := x <<< ((Int32.ofInt b).toInt64 &&& 63)
/-- an instruction, and what it was resolved to: a number, a class, a field or target, a type, the place of its word in lwg -/
abbrev OP : Type := Instr × Int × Nat × Nat × Nat × Nat
abbrev oi (i : Instr) : OP := (i, 0, 0, 0, 0, 0)
abbrev BR : Type := Option (List AV × List AV × MM × ML × List (Int × Int))
def sstep (ins : Instr) (z : Int) (a b t : Nat) (ls st : List AV) (S : List SH) (μ : MM) (ν : ML) (cs : List (Int × Int)) : BR :=
  match ins with
  | .iconst n => some (ls, aI n :: st, μ, ν, cs)
  | .bipush n => some (ls, aI n :: st, μ, ν, cs)
  | .sipush n => some (ls, aI n :: st, μ, ν, cs)
  | .ldc _ => some (ls, aI z :: st, μ, ν, cs)
  | .ldc_w _ => some (ls, aI z :: st, μ, ν, cs)
  | .ldc2_w _ => some (ls, aL (Int64.ofInt z) :: st, μ, ν, cs)
  | .iload_n k => match gt ls k with
    | some (.inl x) => some (ls, aI x :: st, μ, ν, cs)
    | _ => none
  | .iload k => match gt ls k with
    | some (.inl x) => some (ls, aI x :: st, μ, ν, cs)
    | _ => none
  | .lload_n k => match gt ls k with
    | some (.inr (.inl x)) => some (ls, aL x :: st, μ, ν, cs)
    | _ => none
  | .lload k => match gt ls k with
    | some (.inr (.inl x)) => some (ls, aL x :: st, μ, ν, cs)
    | _ => none
  | .aload_n k => match gt ls k with
    | some (.inr (.inr (.inl x))) => some (ls, aR x :: st, μ, ν, cs)
    | some (.inr (.inr (.inr (.inl x)))) => some (ls, aS x :: st, μ, ν, cs)
    | _ => none
  | .aload k => match gt ls k with
    | some (.inr (.inr (.inl x))) => some (ls, aR x :: st, μ, ν, cs)
    | some (.inr (.inr (.inr (.inl x)))) => some (ls, aS x :: st, μ, ν, cs)
    | _ => none
  | .istore_n k => match st with
    | .inl x :: r => match lset ls k (aI x) with
      | some ls' => some (ls', r, μ, ν, cs)
      | none => none
    | _ => none
  | .istore k => match st with
    | .inl x :: r => match lset ls k (aI x) with
      | some ls' => some (ls', r, μ, ν, cs)
      | none => none
    | _ => none
  | .lstore_n k => match st with
    | .inr (.inl x) :: r => match lset2 ls k (aL x) with
      | some ls' => some (ls', r, μ, ν, cs)
      | none => none
    | _ => none
  | .lstore k => match st with
    | .inr (.inl x) :: r => match lset2 ls k (aL x) with
      | some ls' => some (ls', r, μ, ν, cs)
      | none => none
    | _ => none
  | .astore_n k => match st with
    | .inr (.inr (.inl x)) :: r => match lset ls k (aR x) with
      | some ls' => some (ls', r, μ, ν, cs)
      | none => none
    | _ => none
  | .iinc k n => match gt ls k with
    | some (.inl x) => match lset ls k (aI (x + n)) with
      | some ls' => some (ls', st, μ, ν, cs)
      | none => none
    | _ => none
  | .iadd => match st with
    | .inl y :: .inl x :: r => some (ls, aI (x + y) :: r, μ, ν, cs)
    | _ => none
  | .isub => match st with
    | .inl y :: .inl x :: r => some (ls, aI (x - y) :: r, μ, ν, cs)
    | _ => none
  | .imul => match st with
    | .inl y :: .inl x :: r => some (ls, aI (x * y) :: r, μ, ν, cs)
    | _ => none
  | .ineg => match st with
    | .inl x :: r => some (ls, aI (-x) :: r, μ, ν, cs)
    | _ => none
  | .iand => match st with
    | .inl y :: .inl x :: r => some (ls, aI (bAnd x y) :: r, μ, ν, cs)
    | _ => none
  | .ior => match st with
    | .inl y :: .inl x :: r => some (ls, aI (bOr x y) :: r, μ, ν, cs)
    | _ => none
  | .ixor => match st with
    | .inl y :: .inl x :: r => some (ls, aI (bXor x y) :: r, μ, ν, cs)
    | _ => none
  | .ishl => match st with
    | .inl y :: .inl x :: r => some (ls, aI (bShl x y) :: r, μ, ν, cs)
    | _ => none
  | .ishr => match st with
    | .inl y :: .inl x :: r => some (ls, aI (bShr x y) :: r, μ, ν, cs)
    | _ => none
  | .iushr => match st with
    | .inl y :: .inl x :: r => some (ls, aI (bUshr x y) :: r, μ, ν, cs)
    | _ => none
  | .idiv => match st with
    | .inl y :: .inl x :: r => some (ls, aI (bDiv x y) :: r, μ, ν, (y - 1, 2147483647) :: cs)
    | _ => none
  | .irem => match st with
    | .inl y :: .inl x :: r => some (ls, aI (bRem x y) :: r, μ, ν, (y - 1, 2147483647) :: cs)
    | _ => none
  | .ladd => match st with
    | .inr (.inl y) :: .inr (.inl x) :: r => some (ls, aL (x + y) :: r, μ, ν, cs)
    | _ => none
  | .lsub => match st with
    | .inr (.inl y) :: .inr (.inl x) :: r => some (ls, aL (x - y) :: r, μ, ν, cs)
    | _ => none
  | .land => match st with
    | .inr (.inl y) :: .inr (.inl x) :: r => some (ls, aL (x &&& y) :: r, μ, ν, cs)
    | _ => none
  | .lor => match st with
    | .inr (.inl y) :: .inr (.inl x) :: r => some (ls, aL (x ||| y) :: r, μ, ν, cs)
    | _ => none
  | .lxor => match st with
    | .inr (.inl y) :: .inr (.inl x) :: r => some (ls, aL (x ^^^ y) :: r, μ, ν, cs)
    | _ => none
  | .lushr => match st with
    | .inl y :: .inr (.inl x) :: r => some (ls, aL (lUshr x y) :: r, μ, ν, cs)
    | _ => none
  | .lshl => match st with
    | .inl y :: .inr (.inl x) :: r => some (ls, aL (lShl x y) :: r, μ, ν, cs)
    | _ => none
  | .l2i => match st with
    | .inr (.inl x) :: r => some (ls, aI x.toInt32.toInt :: r, μ, ν, cs)
    | _ => none
  | .dup => match st with
    | .inl x :: r => some (ls, aI x :: aI x :: r, μ, ν, cs)
    | .inr (.inr (.inl x)) :: r => some (ls, aR x :: aR x :: r, μ, ν, cs)
    | _ => none
  | .dup2 => match st with
    | .inl y :: .inr (.inr (.inl x)) :: r => some (ls, aI y :: aR x :: aI y :: aR x :: r, μ, ν, cs)
    | _ => none
  | .goto _ => some (ls, st, μ, ν, cs)
  | .getstatic _ => some (ls, aS a :: st, μ, ν, cs)
  | .getfield _ => match st with
    | .inr (.inr (.inl x)) :: r => match gt S x with
      | some (.inr (ci, fs)) => match Nat.beq ci a with
        | true => match gt fs b with
          | some none => some (ls, aI (μ x z) :: r, μ, ν, cs)
          | some (some v) => some (ls, v :: r, μ, ν, cs)
          | none => none
        | false => none
      | _ => none
    | _ => none
  | .putfield _ => match st with
    | .inl y :: .inr (.inr (.inl x)) :: r => match gt S x with
      | some (.inr (ci, fs)) => match Nat.beq ci a with
        | true => match gt fs b with
          | some none => match t with
            | 0 => some (ls, r, up μ x z y, ν, cs)
            | _ => some (ls, r, up μ x z y, ν, (y, 2) :: cs)
          | _ => none
        | false => none
      | _ => none
    | _ => none
  | .iaload => match st with
    | .inl i :: .inr (.inr (.inl x)) :: r => match gt S x with
      | some (.inl (0, n)) => some (ls, aI (μ x i) :: r, μ, ν, (i, (n : Int)) :: cs)
      | _ => none
    | .inl i :: .inr (.inr (.inr (.inl j))) :: r => match Nat.blt j 5 with
      | true => some (ls, aI (stv j i) :: r, μ, ν, (i, ((stA j).length : Int)) :: cs)
      | false => none
    | _ => none
  | .baload => match st with
    | .inl i :: .inr (.inr (.inl x)) :: r => match gt S x with
      | some (.inl (1, n)) => some (ls, aI (μ x i) :: r, μ, ν, (i, (n : Int)) :: cs)
      | _ => none
    | _ => none
  | .laload => match st with
    | .inl i :: .inr (.inr (.inl x)) :: r => match gt S x with
      | some (.inl (2, n)) => some (ls, aL (ν x i) :: r, μ, ν, (i, (n : Int)) :: cs)
      | _ => none
    | _ => none
  | .iastore => match st with
    | .inl y :: .inl i :: .inr (.inr (.inl x)) :: r => match gt S x with
      | some (.inl (0, n)) => some (ls, r, up μ x i y, ν, (i, (n : Int)) :: cs)
      | _ => none
    | _ => none
  | .bastore => match st with
    | .inl y :: .inl i :: .inr (.inr (.inl x)) :: r => match gt S x with
      | some (.inl (1, n)) => some (ls, r, up μ x i y, ν, (y, 2) :: (i, (n : Int)) :: cs)
      | _ => none
    | _ => none
  | .lastore => match st with
    | .inr (.inl y) :: .inl i :: .inr (.inr (.inl x)) :: r => match gt S x with
      | some (.inl (2, n)) => some (ls, r, μ, upL ν x i y, (i, (n : Int)) :: cs)
      | _ => none
    | _ => none
  | _ => none
def iln : Instr → Nat
  | .bipush _ => 2
  | .sipush _ => 3
  | .ldc _ => 2
  | .ldc_w _ => 3
  | .ldc2_w _ => 3
  | .iload _ => 2
  | .lload _ => 2
  | .aload _ => 2
  | .istore _ => 2
  | .lstore _ => 2
  | .iinc _ _ => 3
  | .goto _ => 3
  | .getstatic _ => 3
  | .getfield _ => 3
  | .putfield _ => 3
  | _ => 1
def npc (ins : Instr) (b pc : Nat) : Nat := match ins with
  | .goto _ => b
  | i => pc + iln i
def brun : List OP → Nat → List AV → List AV → List SH → MM → ML → List (Int × Int) → Option (Nat × List AV × List AV × MM × ML × List (Int × Int))
  | [], pc, ls, st, _, μ, ν, cs => some (pc, ls, st, μ, ν, cs)
  | (ins, z, a, b, t, _) :: r, pc, ls, st, S, μ, ν, cs => match sstep ins z a b t ls st S μ ν cs with
    | some (ls', st', μ', ν', cs') => brun r (npc ins b pc) ls' st' S μ' ν' cs'
    | none => none
def CS : List (Int × Int) → Prop
  | [] => True
  | (i, n) :: r => (0 ≤ i ∧ i < n) ∧ CS r
def okL (pos : Nat) (w : Cond) : Bool := decide (lw_tbl[pos]? = some w) && goodWord w
def okX (cx : MX) (pc : Nat) (ins : Instr) (z : Int) (a b t pos : Nat) : Bool := match ins with
  | .bipush n => decide ((Int8.ofInt n).toInt32 = Int32.ofInt n)
  | .sipush n => decide ((Int16.ofInt n).toInt32 = Int32.ofInt n)
  | .ldc i => okL pos (.constant cx.1.cls i (Int32.ofInt z))
  | .ldc_w i => okL pos (.constant cx.1.cls i (Int32.ofInt z))
  | .ldc2_w i => okL pos (.constantLong cx.1.cls i (Int64.ofInt z))
  | .goto off => decide ((pc : Int) + off = (b : Int))
  | .getstatic i => decide (a < 5) && okL pos (.fieldLink cx.1.cls i (stN a).1 (stN a).2 "[I")
  | .getfield i => decide (z = (b : Int)) && (match classes[a]? with
    | some (_, T, N) => decide (b < N) && okL pos (.fieldLink cx.1.cls i (T b).1 (T b).2.1 (T b).2.2.1)
    | none => false)
  | .putfield i => decide (z = (b : Int)) && (match classes[a]? with
    | some (_, T, N) => decide (b < N) && okL pos (.fieldLink cx.1.cls i (T b).1 (T b).2.1 (T b).2.2.1) && decide ((T b).2.2.2 = false) && decide (parseFieldDescriptor (T b).2.2.1 = some (if t = 0 then .int else .boolean))
    | none => false)
  | _ => true
def okB (cx : MX) : Nat → List OP → Bool
  | _, [] => true
  | pc, (ins, z, a, b, t, pos) :: r => decide (decode cx.2.1 pc = .ok (ins, iln ins)) && okX cx pc ins z a b t pos && okB cx (npc ins b pc) r
end
section
/-! ===== the abstract machine's instructions are the machine's: one row each ===== -/
def MW (κ : KX) (cx : MX) (p : Program) (l : Launch) (e : Env) (R : Room) (s : State) (m : MethodId) (args : Array Value) (below : List Frame) (meth : Method) (c : Code) (cells slots : Nat) (Q : State → Prop) (S : List SH) (pc : Nat) (ls st : List AV) (μ : MM) (ν : ML) : Prop :=
  ∀ (H : Heap) (locs : List Loc) (lsA : Array Slot), va_S (lwA κ) s.heap H locs → Wl κ S μ ν H → LH κ cx.2.2.1 lsA ls → W p l e R s m args below meth c H locs cells slots Q (F0 m pc lsA (st.map (cvA κ)))
theorem wsA_at {κ : KX} {S : List SH} {μ : MM} {ν : ML} (k : Nat) : (wsA κ S μ ν)[k]? = (S[k]?).map (fun sh => (κ.1 + k, rdC κ μ ν k sh)) := by
  simp [wsA, List.getElem?_mapIdx]
theorem wsA_in {κ : KX} {S : List SH} {μ : MM} {ν : ML} {k : Nat} {sh : SH} (h : S[k]? = some sh) : (wsA κ S μ ν)[k]? = some (κ.1 + k, rdC κ μ ν k sh) := by
  rw [wsA_at, h]; rfl
theorem wsA_D {κ : KX} {S : List SH} {μ : MM} {ν : ML} : va_D (lwA κ) (wsA κ S μ ν) := by
  refine ⟨fun i j p q hp hq he => ?_, fun k q hq => ?_⟩
  · rw [wsA_at] at hp hq
    cases h1 : S[i]? with
    | none => rw [h1] at hp; cases hp
    | some x =>
      cases h2 : S[j]? with
      | none => rw [h2] at hq; cases hq
      | some y =>
        rw [h1] at hp; rw [h2] at hq
        cases hp; cases hq
        dsimp only at he
        omega
  · rw [wsA_at] at hq
    cases h1 : S[k]? with
    | none => rw [h1] at hq; cases hq
    | some x =>
      rw [h1] at hq
      cases hq
      exact Nat.le_add_right _ _
theorem Wl.put {κ : KX} {S : List SH} {μ μ' : MM} {ν ν' : ML} {H H1 : Heap} {k : Nat} {sh : SH} (hW : Wl κ S μ ν H) (hk : S[k]? = some sh) (z : H1.size = H.size) (oq : ∀ q : Nat, q ≠ κ.1 + k → H1[q]? = H[q]?) (he : va_at κ.2.2.1 classes (κ.1 + k, rdC κ μ' ν' k sh) H1)
    (ho : ∀ (k' : Nat) (sh' : SH), k' ≠ k → rdC κ μ' ν' k' sh' = rdC κ μ ν k' sh') : Wl κ S μ' ν' H1 := by
  refine ⟨z.trans hW.1, fun k' q hq => ?_⟩
  rw [wsA_at] at hq
  cases h1 : S[k']? with
  | none => rw [h1] at hq; cases hq
  | some x =>
    rw [h1] at hq
    cases hq
    by_cases hkk : k' = k
    · subst hkk
      cases hk.symm.trans h1
      exact he
    · dsimp only
      rw [ho k' x hkk]
      exact (hW.2 k' _ (wsA_in h1)).kept (oq _ (fun h => hkk (by omega)))
theorem up_cell {μ : MM} {c : Nat} {i v : Int} {c' : Nat} (h : c' ≠ c) : up μ c i v c' = μ c' := by
  funext j
  simp [up, h]
theorem upL_cell {ν : ML} {c : Nat} {i : Int} {v : Int64} {c' : Nat} (h : c' ≠ c) : upL ν c i v c' = ν c' := by
  funext j
  simp [upL, h]
theorem rdC_up {κ : KX} {μ : MM} {ν : ML} {c : Nat} {i v : Int} (k' : Nat) (sh : SH) (h : k' ≠ c) : rdC κ (up μ c i v) ν k' sh = rdC κ μ ν k' sh := by
  rcases sh with ⟨t, n⟩ | ⟨ci, fs⟩
  · simp only [rdC, rdA, up_cell h]
  · have e : rdF κ (up μ c i v) k' = rdF κ μ k' := by
      funext j f
      cases f <;> simp only [rdF, up_cell h]
    simp only [rdC, e]
theorem rdC_upL {κ : KX} {μ : MM} {ν : ML} {c : Nat} {i : Int} {v : Int64} (k' : Nat) (sh : SH) (h : k' ≠ c) : rdC κ μ (upL ν c i v) k' sh = rdC κ μ ν k' sh := by
  rcases sh with ⟨t, n⟩ | ⟨ci, fs⟩
  · simp only [rdC, rdA, upL_cell h]
  · rfl
theorem ix_in {i : Int} {n : Nat} (h0 : 0 ≤ i) (h1 : i < (n : Int)) (hn : n < 2147483648) : vp_in (Int32.ofInt i) n ∧ (Int32.ofInt i).toNatClampNeg = i.toNat := by
  have e : (Int32.ofInt i).toNatClampNeg = i.toNat := Int32.toNatClampNeg_ofInt_of_le (by omega) (by omega)
  refine ⟨fun h => ?_, e⟩
  rcases h with h | h
  · rw [Int32.lt_iff_toInt_lt, Int32.toInt_ofInt_of_le (by omega) (by omega)] at h
    simp at h
    omega
  · rw [e] at h
    omega
theorem in_g {C : String} {T : u_T} {N : Nat} (h : ∀ w ∈ u_ws C T N, w ∈ lw_tbl) : ∀ w ∈ u_ws C T N, w ∈ lwg := by
  intro w hw
  refine List.mem_filter.mpr ⟨h w hw, ?_⟩
  obtain ⟨k, -, rfl⟩ := List.mem_map.mp hw
  unfold u_lay
  split <;> rfl
theorem ty_all : ∀ (ci : Nat) (C : String) (T : u_T) (N : Nat), classes[ci]? = some (C, T, N) → (∀ w ∈ u_ws C T N, w ∈ lwg) ∧ (∃ ty0 : Nat → FieldType, ∀ k, k < N → parseFieldDescriptor (T k).2.2.1 = some (ty0 k)) ∧ ∀ a, a < N → ∀ b, b < N → a ≠ b → (T a).2.1 ≠ (T b).2.1 := by
  intro ci C T N h
  match ci, h with
  | 0, h => cases h; exact ⟨in_g inX0, ⟨tyX0, tyX0_ok⟩, nmX0⟩
  | 1, h => cases h; exact ⟨in_g inX1, ⟨tyX1, tyX1_ok⟩, nmX1⟩
  | 2, h => cases h; exact ⟨in_g inX2, ⟨tyX2, tyX2_ok⟩, nmX2⟩
  | 3, h => cases h; exact ⟨in_g inX3, ⟨tyX3, tyX3_ok⟩, nmX3⟩
  | 4, h => cases h; exact ⟨in_g inX4, ⟨tyX4, tyX4_ok⟩, nmX4⟩
  | 5, h => cases h; exact ⟨in_g inX5, ⟨tyX5, tyX5_ok⟩, nmX5⟩
  | 6, h => cases h; exact ⟨in_g inX6, ⟨tyX6, tyX6_ok⟩, nmX6⟩
  | 7, h => cases h; exact ⟨in_g inX7, ⟨tyX7, tyX7_ok⟩, nmX7⟩
  | 8, h => cases h; exact ⟨in_g inX8, ⟨tyX8, tyX8_ok⟩, nmX8⟩
  | 9, h => cases h; exact ⟨in_g inX9, ⟨tyX9, tyX9_ok⟩, nmX9⟩
  | 10, h => cases h; exact ⟨in_g inX10, ⟨tyX10, tyX10_ok⟩, nmX10⟩
  | 11, h => cases h; exact ⟨in_g inX11, ⟨tyX11, tyX11_ok⟩, nmX11⟩
  | 12, h => cases h; exact ⟨in_g inX12, ⟨tyX12, tyX12_ok⟩, nmX12⟩
  | n + 13, h => simp [classes] at h
/-! locals -/
def prs (κ : KX) (ls : List AV) : List (Nat × Value) := (List.range ls.length).filterMap (fun i => match ls[i]? with
  | some v => if v = aU then none else some (i, cvA κ v)
  | none => none)
theorem prs_mem {κ : KX} {ls : List AV} {i : Nat} {v : AV} (h : ls[i]? = some v) (hv : v ≠ aU) : (i, cvA κ v) ∈ prs κ ls := by
  refine List.mem_filterMap.mpr ⟨i, List.mem_range.mpr (List.getElem?_eq_some_iff.mp h).1, ?_⟩
  simp [h, hv]
theorem prs_of {κ : KX} {ls : List AV} {q : Nat × Value} (h : q ∈ prs κ ls) : ∃ v : AV, ls[q.1]? = some v ∧ v ≠ aU ∧ q.2 = cvA κ v := by
  obtain ⟨i, -, hi⟩ := List.mem_filterMap.mp h
  cases hl : ls[i]? with
  | none => simp [hl] at hi
  | some v =>
    simp only [hl] at hi
    by_cases hv : v = aU
    · simp [hv] at hi
    · rw [if_neg hv] at hi
      cases hi
      exact ⟨v, hl, hv, rfl⟩
theorem LH.has {κ : KX} {n : Nat} {lsA : Array Slot} {ls : List AV} (h : LH κ n lsA ls) : lv_has lsA n (prs κ ls) := by
  refine ⟨h.1, h.2.1, fun q hq => ?_⟩
  obtain ⟨v, h1, h2, h3⟩ := prs_of hq
  rw [h3]
  exact h.2.2.2 _ _ h1 h2
theorem LH.at {κ : KX} {n : Nat} {lsA : Array Slot} {ls : List AV} (h : LH κ n lsA ls) {i : Nat} {v : AV} (hv : gt ls i = some v) (hu : v ≠ aU) : lsA[i]? = some (.val (cvA κ v)) := h.2.2.2 i v (by rw [← gt_eq]; exact hv) hu
theorem lg_cat {κ : KX} {v : AV} (h : (cvA κ v).category = 2) : isLg (some v) = true := by
  rcases v with z | x | k | j | b <;> first | rfl | (exfalso; revert h; simp [cvA, Value.category])
theorem lset_spec {ls ls' : List AV} {i : Nat} {v : AV} (h : lset ls i v = some ls') : i < ls.length ∧ ls' = ls.set i v ∧ (0 < i → isLg ls[i - 1]? = false) := by
  unfold lset at h
  split at h
  · rename_i hb
    cases h
    simp only [Bool.and_eq_true, Bool.not_eq_true', Nat.blt_eq] at hb
    refine ⟨hb.1, rfl, fun h0 => ?_⟩
    have := hb.2
    rw [gt_eq] at this
    simpa [Nat.blt_eq, h0] using this
  · cases h
theorem lset2_spec {ls ls' : List AV} {i : Nat} {v : AV} (h : lset2 ls i v = some ls') : i + 1 < ls.length ∧ ls' = (ls.set i v).set (i + 1) aU ∧ (0 < i → isLg ls[i - 1]? = false) := by
  unfold lset2 at h
  split at h
  · rename_i hb
    cases h
    simp only [Bool.and_eq_true, Bool.not_eq_true', Nat.blt_eq] at hb
    refine ⟨hb.1, rfl, fun h0 => ?_⟩
    have := hb.2
    rw [gt_eq] at this
    simpa [Nat.blt_eq, h0] using this
  · cases h
theorem LH.set1 {κ : KX} {n : Nat} {lsA lsB : Array Slot} {ls ls' : List AV} {i : Nat} {v : AV} (h : LH κ n lsA ls) (hs : lset ls i v = some ls')
    (hB : lv_has lsB n ((i, cvA κ v) :: (prs κ ls).filter (fun q => !(q.1 == i) && !(q.1 + 1 == i && q.2.category == 2)))) : LH κ n lsB ls' := by
  obtain ⟨hi, rfl, hL⟩ := lset_spec hs
  refine ⟨hB.1, hB.2.1, by rw [List.length_set]; exact h.2.2.1, fun j u hj hu => ?_⟩
  by_cases hji : j = i
  · subst hji
    rw [List.getElem?_set_self hi] at hj
    cases hj
    exact hB.2.2 (j, cvA κ v) List.mem_cons_self
  · rw [List.getElem?_set_ne (Ne.symm hji)] at hj
    refine hB.2.2 (j, cvA κ u) (List.mem_cons_of_mem _ (List.mem_filter.mpr ⟨prs_mem hj hu, ?_⟩))
    simp only [Bool.and_eq_true, Bool.not_eq_true', beq_eq_false_iff_ne, ne_eq, hji, not_false_eq_true, true_and]
    rw [Bool.and_eq_false_iff]
    by_cases h1 : j + 1 = i
    · right
      have h2 := hL (by omega)
      rw [show i - 1 = j by omega, hj] at h2
      by_cases h3 : (cvA κ u).category = 2
      · rw [lg_cat h3] at h2
        cases h2
      · simpa using h3
    · left
      simpa using h1
theorem LH.set2 {κ : KX} {n : Nat} {lsA lsB : Array Slot} {ls ls' : List AV} {i : Nat} {v : AV} (h : LH κ n lsA ls) (hs : lset2 ls i v = some ls')
    (hB : lv_has lsB n ((i, cvA κ v) :: (prs κ ls).filter (fun q => !(q.1 == i) && (!(q.1 == i + 1) && !(q.1 + 1 == i && q.2.category == 2))))) : LH κ n lsB ls' := by
  obtain ⟨hi, rfl, hL⟩ := lset2_spec hs
  refine ⟨hB.1, hB.2.1, by rw [List.length_set, List.length_set]; exact h.2.2.1, fun j u hj hu => ?_⟩
  by_cases hj1 : j = i + 1
  · subst hj1
    rw [List.getElem?_set_self (by rw [List.length_set]; exact hi)] at hj
    cases hj
    exact absurd rfl hu
  · rw [List.getElem?_set_ne (Ne.symm hj1)] at hj
    by_cases hji : j = i
    · subst hji
      rw [List.getElem?_set_self (by omega)] at hj
      cases hj
      exact hB.2.2 (j, cvA κ v) List.mem_cons_self
    · rw [List.getElem?_set_ne (Ne.symm hji)] at hj
      refine hB.2.2 (j, cvA κ u) (List.mem_cons_of_mem _ (List.mem_filter.mpr ⟨prs_mem hj hu, ?_⟩))
      simp only [Bool.and_eq_true, Bool.not_eq_true', beq_eq_false_iff_ne, ne_eq, hji, hj1, not_false_eq_true, true_and]
      rw [Bool.and_eq_false_iff]
      by_cases h1 : j + 1 = i
      · right
        have h2 := hL (by omega)
        rw [show i - 1 = j by omega, hj] at h2
        by_cases h3 : (cvA κ u).category = 2
        · rw [lg_cat h3] at h2
          cases h2
        · simpa using h3
      · left
        simpa using h1
theorem nz_of {y : Int} (hy : 0 ≤ y - 1 ∧ y - 1 < 2147483647) : ¬ Int32.ofInt y = 0 := by
  intro h
  have h1 := congrArg Int32.toInt h
  rw [Int32.toInt_ofInt_of_le (by omega) (by omega)] at h1
  simp at h1
  omega
/-! instructions -/
section SND
variable {κ : KX} {cx : MX} {p : Program} {l : Launch} {e : Env} {R : Room} {s : State} {m : MethodId} {args : Array Value} {below : List Frame} {meth : Method} {c : Code} {cells slots : Nat} {Q : State → Prop} {S : List SH} {pc : Nat} {ls r : List AV} {μ : MM} {ν : ML}
theorem ss_iconst {n : Int} (F : Fx κ cx p s m args meth c) (hd : decode cx.2.1 pc = .ok (.iconst n, 1)) (k : MW κ cx p l e R s m args below meth c cells slots Q S (pc + 1) ls (aI n :: r) μ ν) : MW κ cx p l e R s m args below meth c cells slots Q S pc ls r μ ν := by
  intro H locs lsA hS hW hl
  exact lv_iconst F.1 F.2.1 hd rfl (k H locs lsA hS hW hl)
theorem ss_bipush {n : Int} (hn : (Int8.ofInt n).toInt32 = Int32.ofInt n) (F : Fx κ cx p s m args meth c) (hd : decode cx.2.1 pc = .ok (.bipush n, 2)) (k : MW κ cx p l e R s m args below meth c cells slots Q S (pc + 2) ls (aI n :: r) μ ν) : MW κ cx p l e R s m args below meth c cells slots Q S pc ls r μ ν := by
  intro H locs lsA hS hW hl
  exact lv_bipush F.1 F.2.1 hd hn (k H locs lsA hS hW hl)
theorem ss_sipush {n : Int} (hn : (Int16.ofInt n).toInt32 = Int32.ofInt n) (F : Fx κ cx p s m args meth c) (hd : decode cx.2.1 pc = .ok (.sipush n, 3)) (k : MW κ cx p l e R s m args below meth c cells slots Q S (pc + 3) ls (aI n :: r) μ ν) : MW κ cx p l e R s m args below meth c cells slots Q S pc ls r μ ν := by
  intro H locs lsA hS hW hl
  exact lv_sipush F.1 F.2.1 hd hn (k H locs lsA hS hW hl)
theorem ss_ldc {n : Int} {i : Nat} (hn : Cond.constant cx.1.cls i (Int32.ofInt n) ∈ lwg) (F : Fx κ cx p s m args meth c) (hd : decode cx.2.1 pc = .ok (.ldc i, 2)) (k : MW κ cx p l e R s m args below meth c cells slots Q S (pc + 2) ls (aI n :: r) μ ν) : MW κ cx p l e R s m args below meth c cells slots Q S pc ls r μ ν := by
  intro H locs lsA hS hW hl
  exact lv_ldc F.1 F.2.1 F.2.2.2.2.1 (F.2.2.2.2.2.1 _ hn) hd (k H locs lsA hS hW hl)
theorem ss_ldcw {n : Int} {i : Nat} (hn : Cond.constant cx.1.cls i (Int32.ofInt n) ∈ lwg) (F : Fx κ cx p s m args meth c) (hd : decode cx.2.1 pc = .ok (.ldc_w i, 3)) (k : MW κ cx p l e R s m args below meth c cells slots Q S (pc + 3) ls (aI n :: r) μ ν) : MW κ cx p l e R s m args below meth c cells slots Q S pc ls r μ ν := by
  intro H locs lsA hS hW hl
  exact lv_ldcw F.1 F.2.1 F.2.2.2.2.1 (F.2.2.2.2.2.1 _ hn) hd (k H locs lsA hS hW hl)
theorem ss_ldc2 {n : Int64} {i : Nat} (hn : Cond.constantLong cx.1.cls i n ∈ lwg) (F : Fx κ cx p s m args meth c) (hd : decode cx.2.1 pc = .ok (.ldc2_w i, 3)) (k : MW κ cx p l e R s m args below meth c cells slots Q S (pc + 3) ls (aL n :: r) μ ν) : MW κ cx p l e R s m args below meth c cells slots Q S pc ls r μ ν := by
  intro H locs lsA hS hW hl
  exact lv_ldc2 F.1 F.2.1 F.2.2.2.2.1 (F.2.2.2.2.2.1 _ hn) hd (k H locs lsA hS hW hl)
theorem ss_iload_n {i : Fin 4} {x : Int} (hg : gt ls i = some (aI x)) (F : Fx κ cx p s m args meth c) (hd : decode cx.2.1 pc = .ok (.iload_n i, 1)) (k : MW κ cx p l e R s m args below meth c cells slots Q S (pc + 1) ls (aI x :: r) μ ν) : MW κ cx p l e R s m args below meth c cells slots Q S pc ls r μ ν := by
  intro H locs lsA hS hW hl
  exact lv_iload_n F.1 F.2.1 hd rfl (hl.at hg (by simp)) (k H locs lsA hS hW hl)
theorem ss_iload {i : Nat} {x : Int} (hg : gt ls i = some (aI x)) (F : Fx κ cx p s m args meth c) (hd : decode cx.2.1 pc = .ok (.iload i, 2)) (k : MW κ cx p l e R s m args below meth c cells slots Q S (pc + 2) ls (aI x :: r) μ ν) : MW κ cx p l e R s m args below meth c cells slots Q S pc ls r μ ν := by
  intro H locs lsA hS hW hl
  exact lv_iload F.1 F.2.1 hd (hl.at hg (by simp)) (k H locs lsA hS hW hl)
theorem ss_lload_n {i : Fin 4} {x : Int64} (hg : gt ls i = some (aL x)) (F : Fx κ cx p s m args meth c) (hd : decode cx.2.1 pc = .ok (.lload_n i, 1)) (k : MW κ cx p l e R s m args below meth c cells slots Q S (pc + 1) ls (aL x :: r) μ ν) : MW κ cx p l e R s m args below meth c cells slots Q S pc ls r μ ν := by
  intro H locs lsA hS hW hl
  exact lv_lload_n F.1 F.2.1 hd rfl (hl.at hg (by simp)) (k H locs lsA hS hW hl)
theorem ss_lload {i : Nat} {x : Int64} (hg : gt ls i = some (aL x)) (F : Fx κ cx p s m args meth c) (hd : decode cx.2.1 pc = .ok (.lload i, 2)) (k : MW κ cx p l e R s m args below meth c cells slots Q S (pc + 2) ls (aL x :: r) μ ν) : MW κ cx p l e R s m args below meth c cells slots Q S pc ls r μ ν := by
  intro H locs lsA hS hW hl
  exact lv_lload F.1 F.2.1 hd (hl.at hg (by simp)) (k H locs lsA hS hW hl)
theorem ss_aload_n {i : Fin 4} {x : Nat} (hg : gt ls i = some (aR x)) (F : Fx κ cx p s m args meth c) (hd : decode cx.2.1 pc = .ok (.aload_n i, 1)) (k : MW κ cx p l e R s m args below meth c cells slots Q S (pc + 1) ls (aR x :: r) μ ν) : MW κ cx p l e R s m args below meth c cells slots Q S pc ls r μ ν := by
  intro H locs lsA hS hW hl
  exact lv_aload_n F.1 F.2.1 hd rfl (hl.at hg (by simp)) (k H locs lsA hS hW hl)
theorem ss_aload {i : Nat} {x : Nat} (hg : gt ls i = some (aR x)) (F : Fx κ cx p s m args meth c) (hd : decode cx.2.1 pc = .ok (.aload i, 2)) (k : MW κ cx p l e R s m args below meth c cells slots Q S (pc + 2) ls (aR x :: r) μ ν) : MW κ cx p l e R s m args below meth c cells slots Q S pc ls r μ ν := by
  intro H locs lsA hS hW hl
  exact lv_aload F.1 F.2.1 hd (hl.at hg (by simp)) (k H locs lsA hS hW hl)
theorem ss_aloadS_n {i : Fin 4} {x : Nat} (hg : gt ls i = some (aS x)) (F : Fx κ cx p s m args meth c) (hd : decode cx.2.1 pc = .ok (.aload_n i, 1)) (k : MW κ cx p l e R s m args below meth c cells slots Q S (pc + 1) ls (aS x :: r) μ ν) : MW κ cx p l e R s m args below meth c cells slots Q S pc ls r μ ν := by
  intro H locs lsA hS hW hl
  exact lv_aload_n F.1 F.2.1 hd rfl (hl.at hg (by simp)) (k H locs lsA hS hW hl)
theorem ss_aloadS {i : Nat} {x : Nat} (hg : gt ls i = some (aS x)) (F : Fx κ cx p s m args meth c) (hd : decode cx.2.1 pc = .ok (.aload i, 2)) (k : MW κ cx p l e R s m args below meth c cells slots Q S (pc + 2) ls (aS x :: r) μ ν) : MW κ cx p l e R s m args below meth c cells slots Q S pc ls r μ ν := by
  intro H locs lsA hS hW hl
  exact lv_aload F.1 F.2.1 hd (hl.at hg (by simp)) (k H locs lsA hS hW hl)
theorem ss_istore_n {i : Fin 4} {x : Int} {ls' : List AV} (hg : lset ls i (aI x) = some ls') (F : Fx κ cx p s m args meth c) (hd : decode cx.2.1 pc = .ok (.istore_n i, 1)) (k : MW κ cx p l e R s m args below meth c cells slots Q S (pc + 1) ls' r μ ν) : MW κ cx p l e R s m args below meth c cells slots Q S pc ls (aI x :: r) μ ν := by
  intro H locs lsA hS hW hl
  exact lv_istore_n F.1 F.2.1 hd rfl hl.has (by rw [← hl.2.2.1]; exact (lset_spec hg).1) rfl (fun lsB hB => k H locs lsB hS hW (hl.set1 hg hB))
theorem ss_istore {i : Nat} {x : Int} {ls' : List AV} (hg : lset ls i (aI x) = some ls') (F : Fx κ cx p s m args meth c) (hd : decode cx.2.1 pc = .ok (.istore i, 2)) (k : MW κ cx p l e R s m args below meth c cells slots Q S (pc + 2) ls' r μ ν) : MW κ cx p l e R s m args below meth c cells slots Q S pc ls (aI x :: r) μ ν := by
  intro H locs lsA hS hW hl
  exact lv_istore F.1 F.2.1 hd hl.has (by rw [← hl.2.2.1]; exact (lset_spec hg).1) rfl (fun lsB hB => k H locs lsB hS hW (hl.set1 hg hB))
theorem ss_astore_n {i : Fin 4} {x : Nat} {ls' : List AV} (hg : lset ls i (aR x) = some ls') (F : Fx κ cx p s m args meth c) (hd : decode cx.2.1 pc = .ok (.astore_n i, 1)) (k : MW κ cx p l e R s m args below meth c cells slots Q S (pc + 1) ls' r μ ν) : MW κ cx p l e R s m args below meth c cells slots Q S pc ls (aR x :: r) μ ν := by
  intro H locs lsA hS hW hl
  exact lv_astore_n F.1 F.2.1 hd rfl hl.has (by rw [← hl.2.2.1]; exact (lset_spec hg).1) rfl (fun lsB hB => k H locs lsB hS hW (hl.set1 hg hB))
theorem ss_astore {i : Nat} {x : Nat} {ls' : List AV} (hg : lset ls i (aR x) = some ls') (F : Fx κ cx p s m args meth c) (hd : decode cx.2.1 pc = .ok (.astore i, 2)) (k : MW κ cx p l e R s m args below meth c cells slots Q S (pc + 2) ls' r μ ν) : MW κ cx p l e R s m args below meth c cells slots Q S pc ls (aR x :: r) μ ν := by
  intro H locs lsA hS hW hl
  exact lv_astore F.1 F.2.1 hd hl.has (by rw [← hl.2.2.1]; exact (lset_spec hg).1) rfl (fun lsB hB => k H locs lsB hS hW (hl.set1 hg hB))
theorem ss_lstore_n {i : Fin 4} {x : Int64} {ls' : List AV} (hg : lset2 ls i (aL x) = some ls') (F : Fx κ cx p s m args meth c) (hd : decode cx.2.1 pc = .ok (.lstore_n i, 1)) (k : MW κ cx p l e R s m args below meth c cells slots Q S (pc + 1) ls' r μ ν) : MW κ cx p l e R s m args below meth c cells slots Q S pc ls (aL x :: r) μ ν := by
  intro H locs lsA hS hW hl
  exact lv_lstore_n F.1 F.2.1 hd rfl hl.has (by rw [← hl.2.2.1]; exact (lset2_spec hg).1) rfl (fun lsB hB => k H locs lsB hS hW (hl.set2 hg hB))
theorem ss_lstore {i : Nat} {x : Int64} {ls' : List AV} (hg : lset2 ls i (aL x) = some ls') (F : Fx κ cx p s m args meth c) (hd : decode cx.2.1 pc = .ok (.lstore i, 2)) (k : MW κ cx p l e R s m args below meth c cells slots Q S (pc + 2) ls' r μ ν) : MW κ cx p l e R s m args below meth c cells slots Q S pc ls (aL x :: r) μ ν := by
  intro H locs lsA hS hW hl
  exact lv_lstore F.1 F.2.1 hd hl.has (by rw [← hl.2.2.1]; exact (lset2_spec hg).1) rfl (fun lsB hB => k H locs lsB hS hW (hl.set2 hg hB))
theorem ss_iinc {i : Nat} {n x : Int} {ls' : List AV} (hx : gt ls i = some (aI x)) (hg : lset ls i (aI (x + n)) = some ls') (F : Fx κ cx p s m args meth c) (hd : decode cx.2.1 pc = .ok (.iinc i n, 3)) (k : MW κ cx p l e R s m args below meth c cells slots Q S (pc + 3) ls' r μ ν) : MW κ cx p l e R s m args below meth c cells slots Q S pc ls r μ ν := by
  intro H locs lsA hS hW hl
  obtain ⟨j, hj⟩ := List.getElem?_of_mem (prs_mem (κ := κ) (by rw [← gt_eq]; exact hx) (show aI x ≠ aU by simp))
  exact lv_iinc (k := j) (v := Int32.ofInt (x + n)) F.1 F.2.1 hd hl.has hj (Int32.ofInt_add x n).symm (by rw [← hl.2.2.1]; exact (lset_spec hg).1) rfl (fun lsB hB => k H locs lsB hS hW (hl.set1 hg hB))
theorem ss_iadd {x y : Int} (F : Fx κ cx p s m args meth c) (hd : decode cx.2.1 pc = .ok (.iadd, 1)) (k : MW κ cx p l e R s m args below meth c cells slots Q S (pc + 1) ls (aI (x + y) :: r) μ ν) : MW κ cx p l e R s m args below meth c cells slots Q S pc ls (aI y :: aI x :: r) μ ν := by
  intro H locs lsA hS hW hl
  refine lv_iadd F.1 F.2.1 hd ?_
  rw [← Int32.ofInt_add]
  exact k H locs lsA hS hW hl
theorem ss_isub {x y : Int} (F : Fx κ cx p s m args meth c) (hd : decode cx.2.1 pc = .ok (.isub, 1)) (k : MW κ cx p l e R s m args below meth c cells slots Q S (pc + 1) ls (aI (x - y) :: r) μ ν) : MW κ cx p l e R s m args below meth c cells slots Q S pc ls (aI y :: aI x :: r) μ ν := by
  intro H locs lsA hS hW hl
  refine lv_isub F.1 F.2.1 hd ?_
  rw [← Int32.ofInt_sub]
  exact k H locs lsA hS hW hl
theorem ss_imul {x y : Int} (F : Fx κ cx p s m args meth c) (hd : decode cx.2.1 pc = .ok (.imul, 1)) (k : MW κ cx p l e R s m args below meth c cells slots Q S (pc + 1) ls (aI (x * y) :: r) μ ν) : MW κ cx p l e R s m args below meth c cells slots Q S pc ls (aI y :: aI x :: r) μ ν := by
  intro H locs lsA hS hW hl
  refine lv_imul F.1 F.2.1 hd ?_
  rw [← Int32.ofInt_mul]
  exact k H locs lsA hS hW hl
theorem ss_ineg {x : Int} (F : Fx κ cx p s m args meth c) (hd : decode cx.2.1 pc = .ok (.ineg, 1)) (k : MW κ cx p l e R s m args below meth c cells slots Q S (pc + 1) ls (aI (-x) :: r) μ ν) : MW κ cx p l e R s m args below meth c cells slots Q S pc ls (aI x :: r) μ ν := by
  intro H locs lsA hS hW hl
  refine lv_ineg F.1 F.2.1 hd ?_
  rw [← Int32.ofInt_neg]
  exact k H locs lsA hS hW hl
theorem ss_iand {x y : Int} (F : Fx κ cx p s m args meth c) (hd : decode cx.2.1 pc = .ok (.iand, 1)) (k : MW κ cx p l e R s m args below meth c cells slots Q S (pc + 1) ls (aI (bAnd x y) :: r) μ ν) : MW κ cx p l e R s m args below meth c cells slots Q S pc ls (aI y :: aI x :: r) μ ν := by
  intro H locs lsA hS hW hl
  refine lv_iand F.1 F.2.1 hd ?_
  have k1 := k H locs lsA hS hW hl
  simp only [List.map, cvA, bAnd, Int32.ofInt_toInt] at k1
  exact k1
theorem ss_ior {x y : Int} (F : Fx κ cx p s m args meth c) (hd : decode cx.2.1 pc = .ok (.ior, 1)) (k : MW κ cx p l e R s m args below meth c cells slots Q S (pc + 1) ls (aI (bOr x y) :: r) μ ν) : MW κ cx p l e R s m args below meth c cells slots Q S pc ls (aI y :: aI x :: r) μ ν := by
  intro H locs lsA hS hW hl
  refine lv_ior F.1 F.2.1 hd ?_
  have k1 := k H locs lsA hS hW hl
  simp only [List.map, cvA, bOr, Int32.ofInt_toInt] at k1
  exact k1
theorem ss_ixor {x y : Int} (F : Fx κ cx p s m args meth c) (hd : decode cx.2.1 pc = .ok (.ixor, 1)) (k : MW κ cx p l e R s m args below meth c cells slots Q S (pc + 1) ls (aI (bXor x y) :: r) μ ν) : MW κ cx p l e R s m args below meth c cells slots Q S pc ls (aI y :: aI x :: r) μ ν := by
  intro H locs lsA hS hW hl
  refine lv_ixor F.1 F.2.1 hd ?_
  have k1 := k H locs lsA hS hW hl
  simp only [List.map, cvA, bXor, Int32.ofInt_toInt] at k1
  exact k1
theorem ss_ishl {x y : Int} (F : Fx κ cx p s m args meth c) (hd : decode cx.2.1 pc = .ok (.ishl, 1)) (k : MW κ cx p l e R s m args below meth c cells slots Q S (pc + 1) ls (aI (bShl x y) :: r) μ ν) : MW κ cx p l e R s m args below meth c cells slots Q S pc ls (aI y :: aI x :: r) μ ν := by
  intro H locs lsA hS hW hl
  refine lv_ishl F.1 F.2.1 hd ?_
  have k1 := k H locs lsA hS hW hl
  simp only [List.map, cvA, bShl, Int32.ofInt_toInt] at k1
  exact k1
theorem ss_ishr {x y : Int} (F : Fx κ cx p s m args meth c) (hd : decode cx.2.1 pc = .ok (.ishr, 1)) (k : MW κ cx p l e R s m args below meth c cells slots Q S (pc + 1) ls (aI (bShr x y) :: r) μ ν) : MW κ cx p l e R s m args below meth c cells slots Q S pc ls (aI y :: aI x :: r) μ ν := by
  intro H locs lsA hS hW hl
  refine lv_ishr F.1 F.2.1 hd ?_
  have k1 := k H locs lsA hS hW hl
  simp only [List.map, cvA, bShr, Int32.ofInt_toInt] at k1
  exact k1
theorem ss_iushr {x y : Int} (F : Fx κ cx p s m args meth c) (hd : decode cx.2.1 pc = .ok (.iushr, 1)) (k : MW κ cx p l e R s m args below meth c cells slots Q S (pc + 1) ls (aI (bUshr x y) :: r) μ ν) : MW κ cx p l e R s m args below meth c cells slots Q S pc ls (aI y :: aI x :: r) μ ν := by
  intro H locs lsA hS hW hl
  refine lv_iushr F.1 F.2.1 hd rfl ?_
  have k1 := k H locs lsA hS hW hl
  simp only [List.map, cvA, bUshr, Int32.ofInt_toInt] at k1
  exact k1
theorem ss_idiv {x y : Int} (hy : 0 ≤ y - 1 ∧ y - 1 < 2147483647) (F : Fx κ cx p s m args meth c) (hd : decode cx.2.1 pc = .ok (.idiv, 1)) (k : MW κ cx p l e R s m args below meth c cells slots Q S (pc + 1) ls (aI (bDiv x y) :: r) μ ν) : MW κ cx p l e R s m args below meth c cells slots Q S pc ls (aI y :: aI x :: r) μ ν := by
  intro H locs lsA hS hW hl
  refine lv_idiv F.1 F.2.1 hd (nz_of hy) ?_
  have k1 := k H locs lsA hS hW hl
  simp only [List.map, cvA, bDiv, Int32.ofInt_toInt] at k1
  exact k1
theorem ss_irem {x y : Int} (hy : 0 ≤ y - 1 ∧ y - 1 < 2147483647) (F : Fx κ cx p s m args meth c) (hd : decode cx.2.1 pc = .ok (.irem, 1)) (k : MW κ cx p l e R s m args below meth c cells slots Q S (pc + 1) ls (aI (bRem x y) :: r) μ ν) : MW κ cx p l e R s m args below meth c cells slots Q S pc ls (aI y :: aI x :: r) μ ν := by
  intro H locs lsA hS hW hl
  refine lv_irem F.1 F.2.1 hd (nz_of hy) ?_
  have k1 := k H locs lsA hS hW hl
  simp only [List.map, cvA, bRem, Int32.ofInt_toInt] at k1
  exact k1
theorem ss_ladd {x y : Int64} (F : Fx κ cx p s m args meth c) (hd : decode cx.2.1 pc = .ok (.ladd, 1)) (k : MW κ cx p l e R s m args below meth c cells slots Q S (pc + 1) ls (aL (x + y) :: r) μ ν) : MW κ cx p l e R s m args below meth c cells slots Q S pc ls (aL y :: aL x :: r) μ ν := by
  intro H locs lsA hS hW hl
  exact lv_ladd F.1 F.2.1 hd (k H locs lsA hS hW hl)
theorem ss_lsub {x y : Int64} (F : Fx κ cx p s m args meth c) (hd : decode cx.2.1 pc = .ok (.lsub, 1)) (k : MW κ cx p l e R s m args below meth c cells slots Q S (pc + 1) ls (aL (x - y) :: r) μ ν) : MW κ cx p l e R s m args below meth c cells slots Q S pc ls (aL y :: aL x :: r) μ ν := by
  intro H locs lsA hS hW hl
  exact lv_lsub F.1 F.2.1 hd (k H locs lsA hS hW hl)
theorem ss_land {x y : Int64} (F : Fx κ cx p s m args meth c) (hd : decode cx.2.1 pc = .ok (.land, 1)) (k : MW κ cx p l e R s m args below meth c cells slots Q S (pc + 1) ls (aL (x &&& y) :: r) μ ν) : MW κ cx p l e R s m args below meth c cells slots Q S pc ls (aL y :: aL x :: r) μ ν := by
  intro H locs lsA hS hW hl
  exact lv_land F.1 F.2.1 hd (k H locs lsA hS hW hl)
theorem ss_lor {x y : Int64} (F : Fx κ cx p s m args meth c) (hd : decode cx.2.1 pc = .ok (.lor, 1)) (k : MW κ cx p l e R s m args below meth c cells slots Q S (pc + 1) ls (aL (x ||| y) :: r) μ ν) : MW κ cx p l e R s m args below meth c cells slots Q S pc ls (aL y :: aL x :: r) μ ν := by
  intro H locs lsA hS hW hl
  exact lv_lor F.1 F.2.1 hd (k H locs lsA hS hW hl)
theorem ss_lxor {x y : Int64} (F : Fx κ cx p s m args meth c) (hd : decode cx.2.1 pc = .ok (.lxor, 1)) (k : MW κ cx p l e R s m args below meth c cells slots Q S (pc + 1) ls (aL (x ^^^ y) :: r) μ ν) : MW κ cx p l e R s m args below meth c cells slots Q S pc ls (aL y :: aL x :: r) μ ν := by
  intro H locs lsA hS hW hl
  exact lv_lxor F.1 F.2.1 hd (k H locs lsA hS hW hl)
theorem ss_lushr {x : Int64} {y : Int} (F : Fx κ cx p s m args meth c) (hd : decode cx.2.1 pc = .ok (.lushr, 1)) (k : MW κ cx p l e R s m args below meth c cells slots Q S (pc + 1) ls (aL (lUshr x y) :: r) μ ν) : MW κ cx p l e R s m args below meth c cells slots Q S pc ls (aI y :: aL x :: r) μ ν := by
  intro H locs lsA hS hW hl
  exact lv_lushr F.1 F.2.1 hd rfl (k H locs lsA hS hW hl)
theorem ss_lshl {x : Int64} {y : Int} (F : Fx κ cx p s m args meth c) (hd : decode cx.2.1 pc = .ok (.lshl, 1)) (k : MW κ cx p l e R s m args below meth c cells slots Q S (pc + 1) ls (aL (lShl x y) :: r) μ ν) : MW κ cx p l e R s m args below meth c cells slots Q S pc ls (aI y :: aL x :: r) μ ν := by
  intro H locs lsA hS hW hl
  exact lv_lshl F.1 F.2.1 hd rfl (k H locs lsA hS hW hl)
theorem ss_l2i {x : Int64} (F : Fx κ cx p s m args meth c) (hd : decode cx.2.1 pc = .ok (.l2i, 1)) (k : MW κ cx p l e R s m args below meth c cells slots Q S (pc + 1) ls (aI x.toInt32.toInt :: r) μ ν) : MW κ cx p l e R s m args below meth c cells slots Q S pc ls (aL x :: r) μ ν := by
  intro H locs lsA hS hW hl
  refine lv_l2i F.1 F.2.1 hd rfl ?_
  have k1 := k H locs lsA hS hW hl
  simp only [List.map, cvA, Int32.ofInt_toInt] at k1
  exact k1
theorem ss_dupI {x : Int} (F : Fx κ cx p s m args meth c) (hd : decode cx.2.1 pc = .ok (.dup, 1)) (k : MW κ cx p l e R s m args below meth c cells slots Q S (pc + 1) ls (aI x :: aI x :: r) μ ν) : MW κ cx p l e R s m args below meth c cells slots Q S pc ls (aI x :: r) μ ν := by
  intro H locs lsA hS hW hl
  exact lv_dup F.1 F.2.1 hd rfl (k H locs lsA hS hW hl)
theorem ss_dupR {x : Nat} (F : Fx κ cx p s m args meth c) (hd : decode cx.2.1 pc = .ok (.dup, 1)) (k : MW κ cx p l e R s m args below meth c cells slots Q S (pc + 1) ls (aR x :: aR x :: r) μ ν) : MW κ cx p l e R s m args below meth c cells slots Q S pc ls (aR x :: r) μ ν := by
  intro H locs lsA hS hW hl
  exact lv_dup F.1 F.2.1 hd rfl (k H locs lsA hS hW hl)
theorem ss_dup2 {x : Nat} {y : Int} (F : Fx κ cx p s m args meth c) (hd : decode cx.2.1 pc = .ok (.dup2, 1)) (k : MW κ cx p l e R s m args below meth c cells slots Q S (pc + 1) ls (aI y :: aR x :: aI y :: aR x :: r) μ ν) : MW κ cx p l e R s m args below meth c cells slots Q S pc ls (aI y :: aR x :: r) μ ν := by
  intro H locs lsA hS hW hl
  exact lv_dup2_11 F.1 F.2.1 hd rfl rfl (k H locs lsA hS hW hl)
theorem ss_goto {off : Int} {tgt : Nat} (ht : (pc : Int) + off = (tgt : Int)) (F : Fx κ cx p s m args meth c) (hd : decode cx.2.1 pc = .ok (.goto off, 3)) (k : MW κ cx p l e R s m args below meth c cells slots Q S tgt ls r μ ν) : MW κ cx p l e R s m args below meth c cells slots Q S pc ls r μ ν := by
  intro H locs lsA hS hW hl
  exact lv_goto F.1 F.2.1 hd ht (k H locs lsA hS hW hl)
theorem ss_getstatic {i a : Nat} (ha : a < 5) (hn : Cond.fieldLink cx.1.cls i (stN a).1 (stN a).2 "[I" ∈ lwg) (F : Fx κ cx p s m args meth c) (hd : decode cx.2.1 pc = .ok (.getstatic i, 3)) (k : MW κ cx p l e R s m args below meth c cells slots Q S (pc + 3) ls (aS a :: r) μ ν) : MW κ cx p l e R s m args below meth c cells slots Q S pc ls r μ ν := by
  intro H locs lsA hS hW hl
  obtain ⟨hx, hb, -, -, hown, hts, -, -, -, hst⟩ := F
  exact va_gets hx hb (hst.2.1 a ha).1 hS hown (hts _ hn) (fun _ h => h) hd (k H locs lsA hS hW hl)
theorem ss_getI {i a b x : Nat} {C : String} {T : u_T} {N : Nat} {fs : List (Option AV)} (hc : classes[a]? = some (C, T, N)) (hbN : b < N) (hn : Cond.fieldLink cx.1.cls i (T b).1 (T b).2.1 (T b).2.2.1 ∈ lwg) (hx : S[x]? = some (.inr (a, fs))) (hf : fs[b]? = some none) (F : Fx κ cx p s m args meth c) (hd : decode cx.2.1 pc = .ok (.getfield i, 3)) (k : MW κ cx p l e R s m args below meth c cells slots Q S (pc + 3) ls (aI (μ x (b : Int)) :: r) μ ν) : MW κ cx p l e R s m args below meth c cells slots Q S pc ls (aR x :: r) μ ν := by
  intro H locs lsA hS hW hl
  obtain ⟨hx0, hb, -, -, hown, hts, -, -, hK, -⟩ := F
  exact va_get hx0 hb hts (ty_all a C T N hc).1 hown hK hW.2 x (wsA_in hx) hc b hbN (hts _ hn) (fun _ h => h) (by rw [List.getElem?_mapIdx, hf]; rfl) hd (k H locs lsA hS hW hl)
theorem ss_getR {i a b x : Nat} {C : String} {T : u_T} {N : Nat} {fs : List (Option AV)} (hc : classes[a]? = some (C, T, N)) (hbN : b < N) (hn : Cond.fieldLink cx.1.cls i (T b).1 (T b).2.1 (T b).2.2.1 ∈ lwg) (hx : S[x]? = some (.inr (a, fs))) {v : AV} (hf : fs[b]? = some (some v)) (F : Fx κ cx p s m args meth c) (hd : decode cx.2.1 pc = .ok (.getfield i, 3)) (k : MW κ cx p l e R s m args below meth c cells slots Q S (pc + 3) ls (v :: r) μ ν) : MW κ cx p l e R s m args below meth c cells slots Q S pc ls (aR x :: r) μ ν := by
  intro H locs lsA hS hW hl
  obtain ⟨hx0, hb, -, -, hown, hts, -, -, hK, -⟩ := F
  exact va_get hx0 hb hts (ty_all a C T N hc).1 hown hK hW.2 x (wsA_in hx) hc b hbN (hts _ hn) (fun _ h => h) (by rw [List.getElem?_mapIdx, hf]; rfl) hd (k H locs lsA hS hW hl)
end SND
end
section
/-! ===== memory: arrays, fields, blocks ===== -/
theorem upd_up {μ : MM} {x : Nat} {i v : Int} (hi : 0 ≤ i) : upd (fun j : Nat => Int32.ofInt (μ x (j : Int))) i.toNat (Int32.ofInt v) = fun j : Nat => Int32.ofInt (up μ x i v x (j : Int)) := by
  funext j
  by_cases hj : j = i.toNat
  · subst hj
    have e : ((i.toNat : Nat) : Int) = i := Int.toNat_of_nonneg hi
    simp [upd, up, e]
  · have e : ¬ (j : Int) = i := fun h => hj (by omega)
    simp [upd, up, hj, e]
theorem updL_up {ν : ML} {x : Nat} {i : Int} {v : Int64} (hi : 0 ≤ i) : vp_updL (fun j : Nat => ν x (j : Int)) i.toNat v = fun j : Nat => upL ν x i v x (j : Int) := by
  funext j
  by_cases hj : j = i.toNat
  · subst hj
    have e : ((i.toNat : Nat) : Int) = i := Int.toNat_of_nonneg hi
    simp [vp_updL, upL, e]
  · have e : ¬ (j : Int) = i := fun h => hj (by omega)
    simp [vp_updL, upL, hj, e]
theorem upF_set {κ : KX} {μ : MM} {x b : Nat} {v : Int} {fs : List (Option AV)} (hf : fs[b]? = some none) : (fs.mapIdx (rdF κ μ x)).set b (.int (Int32.ofInt v)) = fs.mapIdx (rdF κ (up μ x (b : Int) v) x) := by
  apply List.ext_getElem?
  intro j
  by_cases hj : j = b
  · subst hj
    have hlt : j < (fs.mapIdx (rdF κ μ x)).length := by rw [List.length_mapIdx]; exact (List.getElem?_eq_some_iff.mp hf).1
    rw [List.getElem?_set_self hlt, List.getElem?_mapIdx, hf]
    simp [rdF, up]
  · rw [List.getElem?_set_ne (Ne.symm hj), List.getElem?_mapIdx, List.getElem?_mapIdx]
    cases fs[j]? with
    | none => rfl
    | some f =>
      have e : ¬ (j : Int) = (b : Int) := fun h => hj (by omega)
      cases f <;> simp [rdF, up, e]
section MEM
variable {κ : KX} {cx : MX} {p : Program} {l : Launch} {e : Env} {R : Room} {s : State} {m : MethodId} {args : Array Value} {below : List Frame} {meth : Method} {c : Code} {cells slots : Nat} {Q : State → Prop} {S : List SH} {pc : Nat} {ls r : List AV} {μ : MM} {ν : ML}
theorem ss_iald (F : Fx κ cx p s m args meth c) (hd : decode cx.2.1 pc = .ok (.iaload, 1)) {x n : Nat} {i : Int} (hx : S[x]? = some (.inl (0, n))) (h0 : 0 ≤ i) (h1 : i < (n : Int)) (hn : n < 2147483648) (k : MW κ cx p l e R s m args below meth c cells slots Q S (pc + 1) ls (aI (μ x i) :: r) μ ν) : MW κ cx p l e R s m args below meth c cells slots Q S pc ls (aI i :: aR x :: r) μ ν := by
  intro H locs lsA hS hW hl
  obtain ⟨hx0, hb, -, -, hown, hts, -, -, hK, -⟩ := F
  obtain ⟨hin, he⟩ := ix_in h0 h1 hn
  refine va_iald hx0 hb hK hW.2 x 0 (n := n) (f := fun j => Int32.ofInt (μ x (j : Int))) (wsA_in hx) rfl hin hd ?_
  rw [he, Int.toNat_of_nonneg h0]
  exact k H locs lsA hS hW hl
theorem ss_zald (F : Fx κ cx p s m args meth c) (hd : decode cx.2.1 pc = .ok (.baload, 1)) {x n : Nat} {i : Int} (hx : S[x]? = some (.inl (1, n))) (h0 : 0 ≤ i) (h1 : i < (n : Int)) (hn : n < 2147483648) (k : MW κ cx p l e R s m args below meth c cells slots Q S (pc + 1) ls (aI (μ x i) :: r) μ ν) : MW κ cx p l e R s m args below meth c cells slots Q S pc ls (aI i :: aR x :: r) μ ν := by
  intro H locs lsA hS hW hl
  obtain ⟨hx0, hb, -, -, hown, hts, -, -, hK, -⟩ := F
  obtain ⟨hin, he⟩ := ix_in h0 h1 hn
  refine va_zald hx0 hb hK hW.2 x 1 (n := n) (f := fun j => Int32.ofInt (μ x (j : Int))) (wsA_in hx) rfl hin hd ?_
  rw [he, Int.toNat_of_nonneg h0]
  exact k H locs lsA hS hW hl
theorem ss_lald (F : Fx κ cx p s m args meth c) (hd : decode cx.2.1 pc = .ok (.laload, 1)) {x n : Nat} {i : Int} (hx : S[x]? = some (.inl (2, n))) (h0 : 0 ≤ i) (h1 : i < (n : Int)) (hn : n < 2147483648) (k : MW κ cx p l e R s m args below meth c cells slots Q S (pc + 1) ls (aL (ν x i) :: r) μ ν) : MW κ cx p l e R s m args below meth c cells slots Q S pc ls (aI i :: aR x :: r) μ ν := by
  intro H locs lsA hS hW hl
  obtain ⟨hx0, hb, -, -, hown, hts, -, -, hK, -⟩ := F
  obtain ⟨hin, he⟩ := ix_in h0 h1 hn
  refine va_lald hx0 hb hK hW.2 x 2 (n := n) (f := fun j => ν x (j : Int)) (wsA_in hx) rfl hin hd ?_
  rw [he, Int.toNat_of_nonneg h0]
  exact k H locs lsA hS hW hl
theorem ss_sald (F : Fx κ cx p s m args meth c) (hd : decode cx.2.1 pc = .ok (.iaload, 1)) {j : Nat} {i : Int} (hj : j < 5) (h0 : 0 ≤ i) (h1 : i < ((stA j).length : Int)) (k : MW κ cx p l e R s m args below meth c cells slots Q S (pc + 1) ls (aI (stv j i) :: r) μ ν) : MW κ cx p l e R s m args below meth c cells slots Q S pc ls (aI i :: aS j :: r) μ ν := by
  intro H locs lsA hS hW hl
  obtain ⟨hx0, hb, -, -, hown, hts, -, -, hK, hst⟩ := F
  obtain ⟨cell, t1, t2, t3, t4, t5, t6, t7⟩ := (hst.2.1 j hj).2
  have hlen : (stA j).length < 2147483648 := by
    rcases (show j = 0 ∨ j = 1 ∨ j = 2 ∨ j = 3 ∨ j = 4 by omega) with rfl | rfl | rfl | rfl | rfl <;> decide
  obtain ⟨hin, he⟩ := ix_in h0 h1 hlen
  have hlt : i.toNat < (stA j).length := by omega
  refine W.iald (v := .int (Int32.ofInt (stv j i))) hx0 hb (cell := cell) (by rw [hS.2.1 _ (Array.getElem?_eq_some_iff.mp t1).1 t7]; exact t1) t2 t3 (fun h => hin (h.imp id (fun q => Nat.le_trans t4 q))) ?_ rfl rfl hd (k H locs lsA hS hW hl)
  rw [he, t6 _ hlt]
  rfl
theorem ss_iast (F : Fx κ cx p s m args meth c) (hd : decode cx.2.1 pc = .ok (.iastore, 1)) {x n : Nat} {i v : Int} (hx : S[x]? = some (.inl (0, n))) (h0 : 0 ≤ i) (h1 : i < (n : Int)) (hn : n < 2147483648) (k : MW κ cx p l e R s m args below meth c cells slots Q S (pc + 1) ls r (up μ x i v) ν) : MW κ cx p l e R s m args below meth c cells slots Q S pc ls (aI v :: aI i :: aR x :: r) μ ν := by
  intro H locs lsA hS hW hl
  obtain ⟨hx0, hb, -, -, hown, hts, -, -, hK, -⟩ := F
  obtain ⟨hin, he⟩ := ix_in h0 h1 hn
  refine W.iast hx0 hb (hW.2 x _ (wsA_in hx)) ((hK.2 0 _ rfl).1 n (fun j => .int (Int32.ofInt (μ x (j : Int))))) (fun q => by cases q) (by show ¬ (_ ∨ (arrV _ _ _).slots.size ≤ _); rw [arrV_size]; exact hin) rfl rfl hd fun H1 e1 z oq => ?_
  refine k H1 _ lsA (hS.put z oq (Nat.le_add_right _ _)) (hW.put hx z oq ?_ (fun k' sh' h => rdC_up k' sh' h)) hl
  show H1[κ.1 + x]? = some (vp_cell _ (n, rdA ν (up μ x i v) x 0))
  rw [e1, he]
  show some ((vp_cell _ (n, Sum.inl _)).setSlot _ _) = some (vp_cell _ (n, Sum.inl _))
  rw [vp_cell_i, vp_cell_i, arrV_store]
  have hq := upd_up (μ := μ) (x := x) (v := v) h0
  congr 2
  funext q
  have hq1 := congrFun hq q
  rw [← hq1]
  by_cases hqq : q = i.toNat
  · subst hqq; simp [updV, upd]
  · simp [updV, upd, hqq]
theorem nar_z {v : Int} (h0 : 0 ≤ v) (h1 : v < 2) : narrow .boolean (.int (Int32.ofInt v)) = .int (Int32.ofInt v) ∧ vp_nar .boolean (Int32.ofInt v) = Int32.ofInt v := by
  rcases (show v = 0 ∨ v = 1 by omega) with rfl | rfl <;> exact ⟨by decide, by decide⟩
theorem ss_zast (F : Fx κ cx p s m args meth c) (hd : decode cx.2.1 pc = .ok (.bastore, 1)) {x n : Nat} {i v : Int} (hx : S[x]? = some (.inl (1, n))) (h0 : 0 ≤ i) (h1 : i < (n : Int)) (hn : n < 2147483648) (hv0 : 0 ≤ v) (hv1 : v < 2) (k : MW κ cx p l e R s m args below meth c cells slots Q S (pc + 1) ls r (up μ x i v) ν) : MW κ cx p l e R s m args below meth c cells slots Q S pc ls (aI v :: aI i :: aR x :: r) μ ν := by
  intro H locs lsA hS hW hl
  obtain ⟨hx0, hb, -, -, hown, hts, -, -, hK, -⟩ := F
  obtain ⟨hin, he⟩ := ix_in h0 h1 hn
  have hnz := (nar_z hv0 hv1).1
  refine W.zast hx0 hb (hW.2 x _ (wsA_in hx)) ((hK.2 1 _ rfl).1 n (fun j => .int (Int32.ofInt (μ x (j : Int))))) (fun q => by cases q) (by show ¬ (_ ∨ (arrV _ _ _).slots.size ≤ _); rw [arrV_size]; exact hin) rfl rfl hd fun H1 e1 z oq => ?_
  refine k H1 _ lsA (hS.put z oq (Nat.le_add_right _ _)) (hW.put hx z oq ?_ (fun k' sh' h => rdC_up k' sh' h)) hl
  show H1[κ.1 + x]? = some (vp_cell _ (n, rdA ν (up μ x i v) x 1))
  rw [e1, he]
  show some ((vp_cell _ (n, Sum.inl _)).setSlot _ _) = some (vp_cell _ (n, Sum.inl _))
  rw [vp_cell_i, vp_cell_i, arrV_store]
  have hq := upd_up (μ := μ) (x := x) (v := v) h0
  congr 2
  funext q
  have hq1 := congrFun hq q
  rw [← hq1]
  by_cases hqq : q = i.toNat
  · subst hqq; simp [updV, upd, hnz]
  · simp [updV, upd, hqq]
theorem ss_last (F : Fx κ cx p s m args meth c) (hd : decode cx.2.1 pc = .ok (.lastore, 1)) {x n : Nat} {i : Int} {v : Int64} (hx : S[x]? = some (.inl (2, n))) (h0 : 0 ≤ i) (h1 : i < (n : Int)) (hn : n < 2147483648) (k : MW κ cx p l e R s m args below meth c cells slots Q S (pc + 1) ls r μ (upL ν x i v)) : MW κ cx p l e R s m args below meth c cells slots Q S pc ls (aL v :: aI i :: aR x :: r) μ ν := by
  intro H locs lsA hS hW hl
  obtain ⟨hx0, hb, -, -, hown, hts, -, -, hK, -⟩ := F
  obtain ⟨hin, he⟩ := ix_in h0 h1 hn
  refine W.last hx0 hb (hW.2 x _ (wsA_in hx)) ((hK.2 2 _ rfl).1 n (fun j => .long (ν x (j : Int)))) (fun q => by cases q) (by show ¬ (_ ∨ (arrV _ _ _).slots.size ≤ _); rw [arrV_size]; exact hin) rfl rfl hd fun H1 e1 z oq => ?_
  refine k H1 _ lsA (hS.put z oq (Nat.le_add_right _ _)) (hW.put hx z oq ?_ (fun k' sh' h => rdC_upL k' sh' h)) hl
  show H1[κ.1 + x]? = some (vp_cell _ (n, rdA (upL ν x i v) μ x 2))
  rw [e1, he]
  show some ((vp_cell _ (n, Sum.inr (Sum.inl _))).setSlot _ _) = some (vp_cell _ (n, Sum.inr (Sum.inl _)))
  rw [vp_cell_l, vp_cell_l, arrV_store]
  have hq := updL_up (ν := ν) (x := x) (v := v) h0
  congr 2
  funext q
  have hq1 := congrFun hq q
  rw [← hq1]
  by_cases hqq : q = i.toNat
  · subst hqq; simp [updV, vp_updL]
  · simp [updV, vp_updL, hqq]
theorem ss_putI (F : Fx κ cx p s m args meth c) {i a b x : Nat} {C : String} {T : u_T} {N : Nat} {fs : List (Option AV)} {v : Int} {ty : FieldType} (hd : decode cx.2.1 pc = .ok (.putfield i, 3)) (hc : classes[a]? = some (C, T, N)) (hbN : b < N) (hn : Cond.fieldLink cx.1.cls i (T b).1 (T b).2.1 (T b).2.2.1 ∈ lwg) (hfin : (T b).2.2.2 = false) (hty : parseFieldDescriptor (T b).2.2.1 = some ty)
    (hnar : narrow ty (.int (Int32.ofInt v)) = .int (Int32.ofInt v)) (hfit : fits ty (.int (Int32.ofInt v)) = true) (hx : S[x]? = some (.inr (a, fs))) (hf : fs[b]? = some none) (k : MW κ cx p l e R s m args below meth c cells slots Q S (pc + 3) ls r (up μ x (b : Int) v) ν) : MW κ cx p l e R s m args below meth c cells slots Q S pc ls (aI v :: aR x :: r) μ ν := by
  intro H locs lsA hS hW hl
  obtain ⟨hx0, hb, -, -, hown, hts, -, -, hK, -⟩ := F
  obtain ⟨hin, ⟨ty0, hty0⟩, hnm⟩ := ty_all a C T N hc
  have hap := va_apart (own := cx.1.cls) hts hin ty0 hty0 hnm hK hc
  obtain ⟨r1, h1, cell, q1, q2, q3, q4⟩ := hW.2 x _ (wsA_in hx)
  have hr : r1 = (C, T, N) := Option.some.inj (h1.symm.trans hc)
  subst hr
  obtain ⟨hSl, hfc, kC, hkC, hkind⟩ := hK.1 a _ hc
  obtain ⟨cf, kf, fi, f, hi, hsl⟩ := hSl b hbN
  have hlay := hts _ (hin _ (u_in_lay hbN))
  unfold u_lay at hlay
  rw [if_neg (by rw [hfin]; decide)] at hlay
  have hst := (u_facts hfc hkC (u_lays hts hin hbN) hi).1
  have h6 := u_store hfc hkC hkind hlay hi hty hnar hfit
  refine W.putK hx0 hb (f := f) ⟨hown, hts _ hn, ⟨_, _, _, hi⟩, hst⟩ (by rw [q2]; exact h6) q1 q3 (by rw [hsl]; exact k2_hasslot (q4 b hbN)) rfl rfl hd fun H' e1 e2 e3 => ?_
  rw [hsl] at e1 ⊢
  have hlen : b < (fs.mapIdx (rdF κ μ x)).length := by rw [List.length_mapIdx]; exact (List.getElem?_eq_some_iff.mp hf).1
  refine k H' _ lsA (hS.put e2 e3 (Nat.le_add_right _ _)) (hW.put hx e2 e3 ?_ (fun k' sh' h => rdC_up k' sh' h)) hl
  refine ⟨_, hc, t_OB.to (V := updV (vp_V (fs.mapIdx (rdF κ μ x))) b (.int (Int32.ofInt v))) ⟨_, e1, q2, q3, t_set q4 hap hbN (.int (Int32.ofInt v))⟩ (fun j _ => ?_)⟩
  rw [vp_updV_set hlen, upF_set hf]
end MEM
end
section
/-! ===== a block of instructions ===== -/
theorem okL_mem {pos : Nat} {w : Cond} (h : okL pos w = true) : w ∈ lwg := by
  simp only [okL, Bool.and_eq_true, decide_eq_true_eq] at h
  exact List.mem_filter.mpr ⟨List.mem_of_getElem? h.1, h.2⟩
def SmallS (S : List SH) : Prop := ∀ (x t n : Nat), S[x]? = some (.inl (t, n)) → n < 2147483648
theorem fit_z {v : Int} (h0 : 0 ≤ v) (h1 : v < 2) : fits .boolean (.int (Int32.ofInt v)) = true := by
  rcases (show v = 0 ∨ v = 1 by omega) with rfl | rfl <;> decide
section BLK
variable {κ : KX} {cx : MX} {p : Program} {l : Launch} {e : Env} {R : Room} {s : State} {m : MethodId} {args : Array Value} {below : List Frame} {meth : Method} {c : Code} {cells slots : Nat} {Q : State → Prop} {S : List SH}
set_option maxHeartbeats 4000000 in
theorem sstep_ok (F : Fx κ cx p s m args meth c) (hS : SmallS S) {ins : Instr} {z : Int} {a b t pos pc : Nat} {ls st ls' st' : List AV} {μ μ' : MM} {ν ν' : ML} {cs cs' : List (Int × Int)} (hd : decode cx.2.1 pc = .ok (ins, iln ins)) (hx : okX cx pc ins z a b t pos = true)
    (hs : sstep ins z a b t ls st S μ ν cs = some (ls', st', μ', ν', cs')) (hc : CS cs') (k : MW κ cx p l e R s m args below meth c cells slots Q S (npc ins b pc) ls' st' μ' ν') : CS cs ∧ MW κ cx p l e R s m args below meth c cells slots Q S pc ls st μ ν := by
  cases ins
  case iconst n => simp only [sstep] at hs; cases hs; exact ⟨hc, ss_iconst F hd k⟩
  case bipush n => simp only [sstep] at hs; cases hs; exact ⟨hc, ss_bipush (of_decide_eq_true hx) F hd k⟩
  case sipush n => simp only [sstep] at hs; cases hs; exact ⟨hc, ss_sipush (of_decide_eq_true hx) F hd k⟩
  case ldc i => simp only [sstep] at hs; cases hs; exact ⟨hc, ss_ldc (okL_mem hx) F hd k⟩
  case ldc_w i => simp only [sstep] at hs; cases hs; exact ⟨hc, ss_ldcw (okL_mem hx) F hd k⟩
  case ldc2_w i => simp only [sstep] at hs; cases hs; exact ⟨hc, ss_ldc2 (okL_mem hx) F hd k⟩
  case iload_n i =>
    simp only [sstep] at hs
    split at hs
    · rename_i x hg; cases hs; exact ⟨hc, ss_iload_n hg F hd k⟩
    · cases hs
  case iload i =>
    simp only [sstep] at hs
    split at hs
    · rename_i x hg; cases hs; exact ⟨hc, ss_iload hg F hd k⟩
    · cases hs
  case lload_n i =>
    simp only [sstep] at hs
    split at hs
    · rename_i x hg; cases hs; exact ⟨hc, ss_lload_n hg F hd k⟩
    · cases hs
  case lload i =>
    simp only [sstep] at hs
    split at hs
    · rename_i x hg; cases hs; exact ⟨hc, ss_lload hg F hd k⟩
    · cases hs
  case aload_n i =>
    simp only [sstep] at hs
    split at hs
    · rename_i x hg; cases hs; exact ⟨hc, ss_aload_n hg F hd k⟩
    · rename_i x hg; cases hs; exact ⟨hc, ss_aloadS_n hg F hd k⟩
    · cases hs
  case aload i =>
    simp only [sstep] at hs
    split at hs
    · rename_i x hg; cases hs; exact ⟨hc, ss_aload hg F hd k⟩
    · rename_i x hg; cases hs; exact ⟨hc, ss_aloadS hg F hd k⟩
    · cases hs
  case istore_n i =>
    simp only [sstep] at hs
    split at hs
    · split at hs
      · rename_i hg; cases hs; exact ⟨hc, ss_istore_n hg F hd k⟩
      · cases hs
    · cases hs
  case istore i =>
    simp only [sstep] at hs
    split at hs
    · split at hs
      · rename_i hg; cases hs; exact ⟨hc, ss_istore hg F hd k⟩
      · cases hs
    · cases hs
  case astore_n i =>
    simp only [sstep] at hs
    split at hs
    · split at hs
      · rename_i hg; cases hs; exact ⟨hc, ss_astore_n hg F hd k⟩
      · cases hs
    · cases hs
  case lstore_n i =>
    simp only [sstep] at hs
    split at hs
    · split at hs
      · rename_i hg; cases hs; exact ⟨hc, ss_lstore_n hg F hd k⟩
      · cases hs
    · cases hs
  case lstore i =>
    simp only [sstep] at hs
    split at hs
    · split at hs
      · rename_i hg; cases hs; exact ⟨hc, ss_lstore hg F hd k⟩
      · cases hs
    · cases hs
  case iinc i n =>
    simp only [sstep] at hs
    split at hs
    · rename_i x hx1
      split at hs
      · rename_i hg; cases hs; exact ⟨hc, ss_iinc hx1 hg F hd k⟩
      · cases hs
    · cases hs
  case iadd =>
    simp only [sstep] at hs
    split at hs
    · cases hs; exact ⟨hc, ss_iadd F hd k⟩
    · cases hs
  case isub =>
    simp only [sstep] at hs
    split at hs
    · cases hs; exact ⟨hc, ss_isub F hd k⟩
    · cases hs
  case imul =>
    simp only [sstep] at hs
    split at hs
    · cases hs; exact ⟨hc, ss_imul F hd k⟩
    · cases hs
  case ineg =>
    simp only [sstep] at hs
    split at hs
    · cases hs; exact ⟨hc, ss_ineg F hd k⟩
    · cases hs
  case iand =>
    simp only [sstep] at hs
    split at hs
    · cases hs; exact ⟨hc, ss_iand F hd k⟩
    · cases hs
  case ior =>
    simp only [sstep] at hs
    split at hs
    · cases hs; exact ⟨hc, ss_ior F hd k⟩
    · cases hs
  case ixor =>
    simp only [sstep] at hs
    split at hs
    · cases hs; exact ⟨hc, ss_ixor F hd k⟩
    · cases hs
  case ishl =>
    simp only [sstep] at hs
    split at hs
    · cases hs; exact ⟨hc, ss_ishl F hd k⟩
    · cases hs
  case ishr =>
    simp only [sstep] at hs
    split at hs
    · cases hs; exact ⟨hc, ss_ishr F hd k⟩
    · cases hs
  case iushr =>
    simp only [sstep] at hs
    split at hs
    · cases hs; exact ⟨hc, ss_iushr F hd k⟩
    · cases hs
  case ladd =>
    simp only [sstep] at hs
    split at hs
    · cases hs; exact ⟨hc, ss_ladd F hd k⟩
    · cases hs
  case lsub =>
    simp only [sstep] at hs
    split at hs
    · cases hs; exact ⟨hc, ss_lsub F hd k⟩
    · cases hs
  case land =>
    simp only [sstep] at hs
    split at hs
    · cases hs; exact ⟨hc, ss_land F hd k⟩
    · cases hs
  case lor =>
    simp only [sstep] at hs
    split at hs
    · cases hs; exact ⟨hc, ss_lor F hd k⟩
    · cases hs
  case lxor =>
    simp only [sstep] at hs
    split at hs
    · cases hs; exact ⟨hc, ss_lxor F hd k⟩
    · cases hs
  case lushr =>
    simp only [sstep] at hs
    split at hs
    · cases hs; exact ⟨hc, ss_lushr F hd k⟩
    · cases hs
  case lshl =>
    simp only [sstep] at hs
    split at hs
    · cases hs; exact ⟨hc, ss_lshl F hd k⟩
    · cases hs
  case l2i =>
    simp only [sstep] at hs
    split at hs
    · cases hs; exact ⟨hc, ss_l2i F hd k⟩
    · cases hs
  case dup2 =>
    simp only [sstep] at hs
    split at hs
    · cases hs; exact ⟨hc, ss_dup2 F hd k⟩
    · cases hs
  case idiv =>
    simp only [sstep] at hs
    split at hs
    · cases hs; exact ⟨hc.2, ss_idiv hc.1 F hd k⟩
    · cases hs
  case irem =>
    simp only [sstep] at hs
    split at hs
    · cases hs; exact ⟨hc.2, ss_irem hc.1 F hd k⟩
    · cases hs
  case dup =>
    simp only [sstep] at hs
    split at hs
    · cases hs; exact ⟨hc, ss_dupI F hd k⟩
    · cases hs; exact ⟨hc, ss_dupR F hd k⟩
    · cases hs
  case goto off => simp only [sstep] at hs; cases hs; exact ⟨hc, ss_goto (of_decide_eq_true hx) F hd k⟩
  case getstatic i =>
    simp only [sstep] at hs
    cases hs
    simp only [okX, Bool.and_eq_true] at hx
    exact ⟨hc, ss_getstatic (of_decide_eq_true hx.1) (okL_mem hx.2) F hd k⟩
  case getfield i =>
    simp only [sstep] at hs
    simp only [okX, Bool.and_eq_true, decide_eq_true_eq] at hx
    obtain ⟨rfl, hx⟩ := hx
    cases hcl : classes[a]? with
    | none => rw [hcl] at hx; cases hx
    | some q =>
      obtain ⟨C, T, N⟩ := q
      rw [hcl] at hx
      simp only [Bool.and_eq_true, decide_eq_true_eq] at hx
      split at hs
      · split at hs
        · rename_i hsh
          split at hs
          · rename_i hbeq
            have hbe := Nat.eq_of_beq_eq_true hbeq
            subst hbe
            rw [gt_eq] at hsh
            split at hs
            · rename_i hf
              rw [gt_eq] at hf
              cases hs
              exact ⟨hc, ss_getI hcl hx.1 (okL_mem hx.2) hsh hf F hd k⟩
            · rename_i hf
              rw [gt_eq] at hf
              cases hs
              exact ⟨hc, ss_getR hcl hx.1 (okL_mem hx.2) hsh hf F hd k⟩
            · cases hs
          · cases hs
        · cases hs
      · cases hs
  case putfield i =>
    simp only [sstep] at hs
    simp only [okX, Bool.and_eq_true, decide_eq_true_eq] at hx
    obtain ⟨rfl, hx⟩ := hx
    cases hcl : classes[a]? with
    | none => rw [hcl] at hx; cases hx
    | some q =>
      obtain ⟨C, T, N⟩ := q
      rw [hcl] at hx
      simp only [Bool.and_eq_true, decide_eq_true_eq] at hx
      obtain ⟨⟨⟨hx1, hx2⟩, hx3⟩, hx4⟩ := hx
      split at hs
      · split at hs
        · rename_i hsh
          split at hs
          · rename_i hbeq
            have hbe := Nat.eq_of_beq_eq_true hbeq
            subst hbe
            rw [gt_eq] at hsh
            split at hs
            · rename_i hf
              rw [gt_eq] at hf
              split at hs
              · cases hs
                exact ⟨hc, ss_putI F hd hcl hx1 (okL_mem hx2) hx3 hx4 rfl rfl hsh hf k⟩
              · rename_i ht
                cases hs
                rw [if_neg ht] at hx4
                exact ⟨hc.2, ss_putI F hd hcl hx1 (okL_mem hx2) hx3 hx4 (nar_z hc.1.1 hc.1.2).1 (fit_z hc.1.1 hc.1.2) hsh hf k⟩
            · cases hs
          · cases hs
        · cases hs
      · cases hs
  case iaload =>
    simp only [sstep] at hs
    split at hs
    · split at hs
      · rename_i hsh
        rw [gt_eq] at hsh
        cases hs
        exact ⟨hc.2, ss_iald F hd hsh hc.1.1 hc.1.2 (hS _ _ _ hsh) k⟩
      · cases hs
    · split at hs
      · rename_i hj
        cases hs
        exact ⟨hc.2, ss_sald F hd (by simpa using hj) hc.1.1 hc.1.2 k⟩
      · cases hs
    · cases hs
  case baload =>
    simp only [sstep] at hs
    split at hs
    · split at hs
      · rename_i hsh
        rw [gt_eq] at hsh
        cases hs
        exact ⟨hc.2, ss_zald F hd hsh hc.1.1 hc.1.2 (hS _ _ _ hsh) k⟩
      · cases hs
    · cases hs
  case laload =>
    simp only [sstep] at hs
    split at hs
    · split at hs
      · rename_i hsh
        rw [gt_eq] at hsh
        cases hs
        exact ⟨hc.2, ss_lald F hd hsh hc.1.1 hc.1.2 (hS _ _ _ hsh) k⟩
      · cases hs
    · cases hs
  case iastore =>
    simp only [sstep] at hs
    split at hs
    · split at hs
      · rename_i hsh
        rw [gt_eq] at hsh
        cases hs
        exact ⟨hc.2, ss_iast F hd hsh hc.1.1 hc.1.2 (hS _ _ _ hsh) k⟩
      · cases hs
    · cases hs
  case bastore =>
    simp only [sstep] at hs
    split at hs
    · split at hs
      · rename_i hsh
        rw [gt_eq] at hsh
        cases hs
        exact ⟨hc.2.2, ss_zast F hd hsh hc.2.1.1 hc.2.1.2 (hS _ _ _ hsh) hc.1.1 hc.1.2 k⟩
      · cases hs
    · cases hs
  case lastore =>
    simp only [sstep] at hs
    split at hs
    · split at hs
      · rename_i hsh
        rw [gt_eq] at hsh
        cases hs
        exact ⟨hc.2, ss_last F hd hsh hc.1.1 hc.1.2 (hS _ _ _ hsh) k⟩
      · cases hs
    · cases hs
  all_goals (exfalso; simp only [sstep] at hs; cases hs)
theorem brun_ok (F : Fx κ cx p s m args meth c) (hS : SmallS S) : ∀ (ops : List OP) {pc pc' : Nat} {ls st ls' st' : List AV} {μ μ' : MM} {ν ν' : ML} {cs cs' : List (Int × Int)}, okB cx pc ops = true → brun ops pc ls st S μ ν cs = some (pc', ls', st', μ', ν', cs') → CS cs' → MW κ cx p l e R s m args below meth c cells slots Q S pc' ls' st' μ' ν' → CS cs ∧ MW κ cx p l e R s m args below meth c cells slots Q S pc ls st μ ν
  | [], pc, pc', ls, st, ls', st', μ, μ', ν, ν', cs, cs', _, hr, hc, k => by
    simp only [brun] at hr
    cases hr
    exact ⟨hc, k⟩
  | (ins, z, a, b, t, pos) :: r, pc, pc', ls, st, ls', st', μ, μ', ν, ν', cs, cs', ho, hr, hc, k => by
    simp only [brun] at hr
    simp only [okB, Bool.and_eq_true] at ho
    split at hr
    · rename_i ls1 st1 μ1 ν1 cs1 hs
      obtain ⟨hc1, k1⟩ := brun_ok F hS r ho.2 hr hc k
      exact sstep_ok F hS (of_decide_eq_true ho.1.1) ho.1.2 hs hc1 k1
    · cases hr
end BLK
end
section
/-! ===== the abstract goal AW, branches, returns, calls, contracts ===== -/
abbrev R32 (x : Int) : Prop := -2147483648 ≤ x ∧ x < 2147483648
theorem ti32 {x : Int} (h : R32 x) : (Int32.ofInt x).toInt = x := Int32.toInt_ofInt_of_le (by omega) (by omega)
theorem lt32 {x y : Int} (hx : R32 x) (hy : R32 y) : Int32.ofInt x < Int32.ofInt y ↔ x < y := by rw [Int32.lt_iff_toInt_lt, ti32 hx, ti32 hy]
theorem le32 {x y : Int} (hx : R32 x) (hy : R32 y) : Int32.ofInt x ≤ Int32.ofInt y ↔ x ≤ y := by rw [Int32.le_iff_toInt_le, ti32 hx, ti32 hy]
theorem eq32 {x y : Int} (hx : R32 x) (hy : R32 y) : Int32.ofInt x = Int32.ofInt y ↔ x = y := by rw [← Int32.toInt_inj, ti32 hx, ti32 hy]
theorem z32 : (0 : Int32) = Int32.ofInt 0 := rfl
theorem r0 : R32 0 := by decide
def AW (κ : KX) (cx : MX) (R : Room) (Qf : List Frame → Array Value → State → State → Prop) (cells slots : Nat) (S : List SH) (pc : Nat) (ls st : List AV) (μ : MM) (ν : ML) : Prop :=
  SmallS S → ∀ (p : Program) (l : Launch) (e : Env) (s : State) (m : MethodId) (args : Array Value) (below : List Frame) (meth : Method) (c : Code), Fx κ cx p s m args meth c → MW κ cx p l e R s m args below meth c cells slots (Qf below args s) S pc ls st μ ν
def QQ (κ : KX) (Post : Option AV → List SH → MM → ML → Prop) : Array Value → State → Outcome → State → Prop := fun _ st oc t => (∃ (r : Option AV) (S : List SH) (μ : MM) (ν : ML), oc = .returned (r.map (cvA κ)) ∧ Post r S μ ν ∧ Wl κ S μ ν t.heap ∧ SmallS S) ∧ va_F (lwA κ) st t
def mq (κ : KX) (Post : Option AV → List SH → MM → ML → Prop) (mc ms : Nat) : List Frame → Array Value → State → State → Prop := fun below args s => MQ below (QQ κ Post) args s mc ms (lwA κ)
def wsM (cy : MX) : List Cond := Cond.code cy.1 cy.2.1 cy.2.2.1 cy.2.2.2 :: lwg
def rmv (d mc ms : Nat) : Room := { frames := d, cells := mc, slots := ms, locals := 64 * d }
def AMet (κ : KX) (d : Nat) (cy : MX) (As : List AV) (S : List SH) (μ : MM) (ν : ML) (Post : Option AV → List SH → MM → ML → Prop) (mc ms : Nat) : Prop :=
  SmallS S → ∀ l : Launch, Met l cy.1 (wsM cy) (rmv d mc ms) (va_Pc (As.map (cvA κ)) (fun U => KK κ U ∧ Stt κ U ∧ Wl κ S μ ν U.heap)) (QQ κ Post) mc ms (lwA κ)
section AWS
variable {κ : KX} {cx : MX} {R : Room} {Qf : List Frame → Array Value → State → State → Prop} {cells slots : Nat} {S : List SH} {pc : Nat} {ls r : List AV} {μ : MM} {ν : ML}
theorem aw_blk {ops : List OP} {pc' : Nat} {st ls' st' : List AV} {μ' : MM} {ν' : ML} {cs : List (Int × Int)} (ho : okB cx pc ops = true) (hr : brun ops pc ls st S μ ν [] = some (pc', ls', st', μ', ν', cs)) (hc : CS cs) (k : AW κ cx R Qf cells slots S pc' ls' st' μ' ν') : AW κ cx R Qf cells slots S pc ls st μ ν :=
  fun hS p l e s m args below meth c F => (brun_ok F hS ops ho hr hc (k hS p l e s m args below meth c F)).2
theorem aw_icmp_eq {x y off : Int} {tgt : Nat} (hd : decode cx.2.1 pc = .ok (.if_icmp .eq off, 3)) (ht : (pc : Int) + off = (tgt : Int)) (hx : R32 x) (hy : R32 y) (kt : x = y → AW κ cx R Qf cells slots S tgt ls r μ ν) (kf : ¬ x = y → AW κ cx R Qf cells slots S (pc + 3) ls r μ ν) : AW κ cx R Qf cells slots S pc ls (aI y :: aI x :: r) μ ν := by
  intro hS p l e s m args below meth c F H locs lsA hs hW hl
  exact lv_icmp_eq F.1 F.2.1 hd ht (fun h => kt ((eq32 hx hy).mp h) hS p l e s m args below meth c F H locs lsA hs hW hl) (fun h => kf (fun q => h ((eq32 hx hy).mpr q)) hS p l e s m args below meth c F H locs lsA hs hW hl)
theorem aw_if_eq {x off : Int} {tgt : Nat} (hd : decode cx.2.1 pc = .ok (.ifCond .eq off, 3)) (ht : (pc : Int) + off = (tgt : Int)) (hx : R32 x) (kt : x = 0 → AW κ cx R Qf cells slots S tgt ls r μ ν) (kf : ¬ x = 0 → AW κ cx R Qf cells slots S (pc + 3) ls r μ ν) : AW κ cx R Qf cells slots S pc ls (aI x :: r) μ ν := by
  intro hS p l e s m args below meth c F H locs lsA hs hW hl
  exact lv_if_eq F.1 F.2.1 hd ht (fun h => kt ((eq32 hx r0).mp h) hS p l e s m args below meth c F H locs lsA hs hW hl) (fun h => kf (fun q => h ((eq32 hx r0).mpr q)) hS p l e s m args below meth c F H locs lsA hs hW hl)
theorem aw_icmp_ne {x y off : Int} {tgt : Nat} (hd : decode cx.2.1 pc = .ok (.if_icmp .ne off, 3)) (ht : (pc : Int) + off = (tgt : Int)) (hx : R32 x) (hy : R32 y) (kt : ¬ x = y → AW κ cx R Qf cells slots S tgt ls r μ ν) (kf : x = y → AW κ cx R Qf cells slots S (pc + 3) ls r μ ν) : AW κ cx R Qf cells slots S pc ls (aI y :: aI x :: r) μ ν := by
  intro hS p l e s m args below meth c F H locs lsA hs hW hl
  exact lv_icmp_ne F.1 F.2.1 hd ht (fun h => kt (fun q => h ((eq32 hx hy).mpr q)) hS p l e s m args below meth c F H locs lsA hs hW hl) (fun h => kf ((eq32 hx hy).mp h) hS p l e s m args below meth c F H locs lsA hs hW hl)
theorem aw_if_ne {x off : Int} {tgt : Nat} (hd : decode cx.2.1 pc = .ok (.ifCond .ne off, 3)) (ht : (pc : Int) + off = (tgt : Int)) (hx : R32 x) (kt : ¬ x = 0 → AW κ cx R Qf cells slots S tgt ls r μ ν) (kf : x = 0 → AW κ cx R Qf cells slots S (pc + 3) ls r μ ν) : AW κ cx R Qf cells slots S pc ls (aI x :: r) μ ν := by
  intro hS p l e s m args below meth c F H locs lsA hs hW hl
  exact lv_if_ne F.1 F.2.1 hd ht (fun h => kt (fun q => h ((eq32 hx r0).mpr q)) hS p l e s m args below meth c F H locs lsA hs hW hl) (fun h => kf ((eq32 hx r0).mp h) hS p l e s m args below meth c F H locs lsA hs hW hl)
theorem aw_icmp_lt {x y off : Int} {tgt : Nat} (hd : decode cx.2.1 pc = .ok (.if_icmp .lt off, 3)) (ht : (pc : Int) + off = (tgt : Int)) (hx : R32 x) (hy : R32 y) (kt : x < y → AW κ cx R Qf cells slots S tgt ls r μ ν) (kf : ¬ x < y → AW κ cx R Qf cells slots S (pc + 3) ls r μ ν) : AW κ cx R Qf cells slots S pc ls (aI y :: aI x :: r) μ ν := by
  intro hS p l e s m args below meth c F H locs lsA hs hW hl
  exact lv_icmp_lt F.1 F.2.1 hd ht (fun h => kt ((lt32 hx hy).mp h) hS p l e s m args below meth c F H locs lsA hs hW hl) (fun h => kf (fun q => h ((lt32 hx hy).mpr q)) hS p l e s m args below meth c F H locs lsA hs hW hl)
theorem aw_if_lt {x off : Int} {tgt : Nat} (hd : decode cx.2.1 pc = .ok (.ifCond .lt off, 3)) (ht : (pc : Int) + off = (tgt : Int)) (hx : R32 x) (kt : x < 0 → AW κ cx R Qf cells slots S tgt ls r μ ν) (kf : ¬ x < 0 → AW κ cx R Qf cells slots S (pc + 3) ls r μ ν) : AW κ cx R Qf cells slots S pc ls (aI x :: r) μ ν := by
  intro hS p l e s m args below meth c F H locs lsA hs hW hl
  exact lv_if_lt F.1 F.2.1 hd ht (fun h => kt ((lt32 hx r0).mp h) hS p l e s m args below meth c F H locs lsA hs hW hl) (fun h => kf (fun q => h ((lt32 hx r0).mpr q)) hS p l e s m args below meth c F H locs lsA hs hW hl)
theorem aw_icmp_ge {x y off : Int} {tgt : Nat} (hd : decode cx.2.1 pc = .ok (.if_icmp .ge off, 3)) (ht : (pc : Int) + off = (tgt : Int)) (hx : R32 x) (hy : R32 y) (kt : y ≤ x → AW κ cx R Qf cells slots S tgt ls r μ ν) (kf : ¬ y ≤ x → AW κ cx R Qf cells slots S (pc + 3) ls r μ ν) : AW κ cx R Qf cells slots S pc ls (aI y :: aI x :: r) μ ν := by
  intro hS p l e s m args below meth c F H locs lsA hs hW hl
  exact lv_icmp_ge F.1 F.2.1 hd ht (fun h => kt ((le32 hy hx).mp h) hS p l e s m args below meth c F H locs lsA hs hW hl) (fun h => kf (fun q => h ((le32 hy hx).mpr q)) hS p l e s m args below meth c F H locs lsA hs hW hl)
theorem aw_if_ge {x off : Int} {tgt : Nat} (hd : decode cx.2.1 pc = .ok (.ifCond .ge off, 3)) (ht : (pc : Int) + off = (tgt : Int)) (hx : R32 x) (kt : 0 ≤ x → AW κ cx R Qf cells slots S tgt ls r μ ν) (kf : ¬ 0 ≤ x → AW κ cx R Qf cells slots S (pc + 3) ls r μ ν) : AW κ cx R Qf cells slots S pc ls (aI x :: r) μ ν := by
  intro hS p l e s m args below meth c F H locs lsA hs hW hl
  exact lv_if_ge F.1 F.2.1 hd ht (fun h => kt ((le32 r0 hx).mp h) hS p l e s m args below meth c F H locs lsA hs hW hl) (fun h => kf (fun q => h ((le32 r0 hx).mpr q)) hS p l e s m args below meth c F H locs lsA hs hW hl)
theorem aw_icmp_gt {x y off : Int} {tgt : Nat} (hd : decode cx.2.1 pc = .ok (.if_icmp .gt off, 3)) (ht : (pc : Int) + off = (tgt : Int)) (hx : R32 x) (hy : R32 y) (kt : y < x → AW κ cx R Qf cells slots S tgt ls r μ ν) (kf : ¬ y < x → AW κ cx R Qf cells slots S (pc + 3) ls r μ ν) : AW κ cx R Qf cells slots S pc ls (aI y :: aI x :: r) μ ν := by
  intro hS p l e s m args below meth c F H locs lsA hs hW hl
  exact lv_icmp_gt F.1 F.2.1 hd ht (fun h => kt ((lt32 hy hx).mp h) hS p l e s m args below meth c F H locs lsA hs hW hl) (fun h => kf (fun q => h ((lt32 hy hx).mpr q)) hS p l e s m args below meth c F H locs lsA hs hW hl)
theorem aw_if_gt {x off : Int} {tgt : Nat} (hd : decode cx.2.1 pc = .ok (.ifCond .gt off, 3)) (ht : (pc : Int) + off = (tgt : Int)) (hx : R32 x) (kt : 0 < x → AW κ cx R Qf cells slots S tgt ls r μ ν) (kf : ¬ 0 < x → AW κ cx R Qf cells slots S (pc + 3) ls r μ ν) : AW κ cx R Qf cells slots S pc ls (aI x :: r) μ ν := by
  intro hS p l e s m args below meth c F H locs lsA hs hW hl
  exact lv_if_gt F.1 F.2.1 hd ht (fun h => kt ((lt32 r0 hx).mp h) hS p l e s m args below meth c F H locs lsA hs hW hl) (fun h => kf (fun q => h ((lt32 r0 hx).mpr q)) hS p l e s m args below meth c F H locs lsA hs hW hl)
theorem aw_icmp_le {x y off : Int} {tgt : Nat} (hd : decode cx.2.1 pc = .ok (.if_icmp .le off, 3)) (ht : (pc : Int) + off = (tgt : Int)) (hx : R32 x) (hy : R32 y) (kt : x ≤ y → AW κ cx R Qf cells slots S tgt ls r μ ν) (kf : ¬ x ≤ y → AW κ cx R Qf cells slots S (pc + 3) ls r μ ν) : AW κ cx R Qf cells slots S pc ls (aI y :: aI x :: r) μ ν := by
  intro hS p l e s m args below meth c F H locs lsA hs hW hl
  exact lv_icmp_le F.1 F.2.1 hd ht (fun h => kt ((le32 hx hy).mp h) hS p l e s m args below meth c F H locs lsA hs hW hl) (fun h => kf (fun q => h ((le32 hx hy).mpr q)) hS p l e s m args below meth c F H locs lsA hs hW hl)
theorem aw_if_le {x off : Int} {tgt : Nat} (hd : decode cx.2.1 pc = .ok (.ifCond .le off, 3)) (ht : (pc : Int) + off = (tgt : Int)) (hx : R32 x) (kt : x ≤ 0 → AW κ cx R Qf cells slots S tgt ls r μ ν) (kf : ¬ x ≤ 0 → AW κ cx R Qf cells slots S (pc + 3) ls r μ ν) : AW κ cx R Qf cells slots S pc ls (aI x :: r) μ ν := by
  intro hS p l e s m args below meth c F H locs lsA hs hW hl
  exact lv_if_le F.1 F.2.1 hd ht (fun h => kt ((le32 hx r0).mp h) hS p l e s m args below meth c F H locs lsA hs hW hl) (fun h => kf (fun q => h ((le32 hx r0).mpr q)) hS p l e s m args below meth c F H locs lsA hs hW hl)
theorem aw_tswIn {x dflt lo hi off : Int} {offs : Array Int} {len tgt : Nat} (hd : decode cx.2.1 pc = .ok (.tableswitch dflt lo hi offs, len)) (hx : R32 x) (h1 : lo ≤ x) (h2 : x ≤ hi) (ho : offs[(x - lo).toNat]? = some off) (ht : (pc : Int) + off = (tgt : Int)) (k : AW κ cx R Qf cells slots S tgt ls r μ ν) : AW κ cx R Qf cells slots S pc ls (aI x :: r) μ ν := by
  intro hS p l e s m args below meth c F H locs lsA hs hW hl
  exact lv_tableIn F.1 F.2.1 hd (by rw [ti32 hx]; omega) (by rw [ti32 hx]; omega) (by rw [ti32 hx]; exact ho) ht (k hS p l e s m args below meth c F H locs lsA hs hW hl)
theorem aw_tswOut {x dflt lo hi : Int} {offs : Array Int} {len tgt : Nat} (hd : decode cx.2.1 pc = .ok (.tableswitch dflt lo hi offs, len)) (hx : R32 x) (h : x < lo ∨ hi < x) (ht : (pc : Int) + dflt = (tgt : Int)) (k : AW κ cx R Qf cells slots S tgt ls r μ ν) : AW κ cx R Qf cells slots S pc ls (aI x :: r) μ ν := by
  intro hS p l e s m args below meth c F H locs lsA hs hW hl
  exact lv_tableOut F.1 F.2.1 hd (by rw [ti32 hx]; exact h) ht (k hS p l e s m args below meth c F H locs lsA hs hW hl)
theorem aw_iret {Post : Option AV → List SH → MM → ML → Prop} {mc ms : Nat} {z : Int} (hd : decode cx.2.1 pc = .ok (.ireturn, 1)) (hret : cx.2.2.2 = some .int) (hc : cells ≤ mc) (hs : slots ≤ ms) (hp : Post (some (aI z)) S μ ν) : AW κ cx R (mq κ Post mc ms) cells slots S pc ls [aI z] μ ν := by
  intro hS p l e s m args below meth c F H locs lsA hs1 hW hl
  refine W.widen hc hs ?_
  exact W.iret F.1 F.2.1 (F.2.2.1.trans hret) (fun t ht _ => ⟨⟨some (aI z), S, μ, ν, rfl, hp, by rw [ht]; exact hW, hS⟩, hs1.F ht⟩) hs1.2.2 hd F.2.2.2.2.2.2.1
theorem aw_zret {Post : Option AV → List SH → MM → ML → Prop} {mc ms : Nat} {z : Int} (hd : decode cx.2.1 pc = .ok (.ireturn, 1)) (hret : cx.2.2.2 = some .boolean) (hz : 0 ≤ z ∧ z < 2) (hc : cells ≤ mc) (hs : slots ≤ ms) (hp : Post (some (aI z)) S μ ν) : AW κ cx R (mq κ Post mc ms) cells slots S pc ls [aI z] μ ν := by
  intro hS p l e s m args below meth c F H locs lsA hs1 hW hl
  refine W.widen hc hs ?_
  exact W.zret F.1 F.2.1 (F.2.2.1.trans hret) (nar_z hz.1 hz.2).1 (fun t ht _ => ⟨⟨some (aI z), S, μ, ν, rfl, hp, by rw [ht]; exact hW, hS⟩, hs1.F ht⟩) hs1.2.2 hd F.2.2.2.2.2.2.1
theorem aw_vret {Post : Option AV → List SH → MM → ML → Prop} {mc ms : Nat} (hd : decode cx.2.1 pc = .ok (.return_, 1)) (hret : cx.2.2.2 = none) (hc : cells ≤ mc) (hs : slots ≤ ms) (hp : Post none S μ ν) : AW κ cx R (mq κ Post mc ms) cells slots S pc ls [] μ ν := by
  intro hS p l e s m args below meth c F H locs lsA hs1 hW hl
  refine W.widen hc hs ?_
  exact W.vret F.1 F.2.1 (F.2.2.1.trans hret) (fun t ht _ => ⟨⟨none, S, μ, ν, rfl, hp, by rw [ht]; exact hW, hS⟩, hs1.F ht⟩) hs1.2.2 hd F.2.2.2.2.2.2.1
end AWS
theorem gAll : GoodIn lwg lwg := by
  exact fun w hw => ⟨hw, good_of_word (List.mem_filter.mp hw).2⟩
theorem Stt.moved {κ : KX} {s U : State} {H : Heap} {locs : List Loc} (h : Stt κ s) (hvm : s.vm.Alike U.vm) (hS : va_S (lwA κ) s.heap H locs) (hU : U.heap = H) : Stt κ U := by
  subst hU
  refine ⟨Nat.le_trans h.1 hS.1, fun j hj => ⟨((h.2.1 j hj).1.moved hvm).kept (fun a h1 h2 => hS.2.1 a h1 h2), ((h.2.1 j hj).2.moved hvm).kept (fun a h1 h2 => hS.2.1 a h1 h2)⟩, (h.2.2.1.moved hvm).kept (hS.2.1 _ (Nat.lt_of_lt_of_le h.2.2.2 h.1) (Nat.not_le.mpr h.2.2.2)), h.2.2.2⟩
theorem Pc_blind {κ : KX} {As : List AV} {S : List SH} {μ : MM} {ν : ML} : FrameBlind (va_Pc (As.map (cvA κ)) (fun U => KK κ U ∧ Stt κ U ∧ Wl κ S μ ν U.heap)) := by
  intro a U g mk h
  obtain ⟨h1, h2, h3, h4⟩ := h
  exact ⟨h1, va_K.moved (u := U) (U := U.calling g mk a) (Vm.Alike.refl U.vm) h2, Stt.moved (s := U) (U := U.calling g mk a) h3 (Vm.Alike.refl U.vm) (va_S.rf) rfl, h4⟩
theorem aw_run {κ : KX} {Post : Option AV → List SH → MM → ML → Prop} {p : Program} {l : Launch} {e : Env} {R : Room} {s : State} {m : MethodId} {args : Array Value} {below : List Frame} {meth : Method} {c : Code} {H : Heap} {locs : List Loc} {cells slots mc ms : Nat} {Q : State → Prop} {pc : Nat} {lsA : Array Slot} {st0 rest : List Value} {a : Array Value}
    (hr : va_Run p l e R s m args below meth c H locs cells slots mc ms (F0 m pc lsA st0) rest (QQ κ Post a) (lwA κ)) (hS : va_S (lwA κ) s.heap H locs)
    (kk : ∀ (r : Option AV) (S : List SH) (μ : MM) (ν : ML) (H1 : Heap) (locs1 : List Loc), Post r S μ ν → SmallS S → Wl κ S μ ν H1 → va_S (lwA κ) s.heap H1 locs1 → W p l e R s m args below meth c H1 locs1 (cells + mc) (slots + ms) Q (F0 m (pc + 3) lsA ((r.map (cvA κ)).toList ++ rest))) : W p l e R s m args below meth c H locs cells slots Q (F0 m pc lsA st0) := by
  intro T hT X
  obtain ⟨v, st₀, t, T', L, h0, X', hL, e1, e2, ⟨⟨r, S, μ, ν, hv, hp, hw, hsm⟩, hz, hk⟩, st⟩ := hr T hT X
  cases hv
  rw [h0] at hz hk
  obtain ⟨t2, a1, b1⟩ := kk r S μ ν T'.heap (locs ++ L) hp hsm (by rw [e1]; exact hw)
    ⟨Nat.le_trans hS.1 (by rw [e1]; exact hz), fun q h1 h2 => by rw [e1, hk q (Nat.lt_of_lt_of_le h1 hS.1) h2]; exact hS.2.1 q h1 h2, fun q hq => by
      rcases List.mem_append.mp hq with h | h
      · exact hS.2.2 q h
      · exact hL q h⟩ T' rfl X'
  exact ⟨t2, st t2 a1, b1⟩
/-- what the tables say of a method: n its parameters -/
def MokB (cy : MX) (n : Nat) : Prop := Cond.initialized cy.1.cls ∈ lwg ∧ Cond.code cy.1 cy.2.1 cy.2.2.1 cy.2.2.2 ∈ lwg ∧ (cy.1.cls ≠ "java/lang/invoke/MethodHandle" ∧ cy.1.cls ≠ "java/lang/invoke/VarHandle" ∧ (parseMethodDescriptor cy.1.desc).map (fun d => d.parameters.length) = some n) ∧ plainName cy.1.cls = true
def mokB (cy : MX) (n p1 p2 : Nat) : Bool := okL p1 (.initialized cy.1.cls) && okL p2 (.code cy.1 cy.2.1 cy.2.2.1 cy.2.2.2) && decide (cy.1.cls ≠ "java/lang/invoke/MethodHandle" ∧ cy.1.cls ≠ "java/lang/invoke/VarHandle" ∧ (parseMethodDescriptor cy.1.desc).map (fun d => d.parameters.length) = some n) && plainName cy.1.cls
theorem mokB_of {cy : MX} {n p1 p2 : Nat} (h : mokB cy n p1 p2 = true) : MokB cy n := by
  simp only [mokB, Bool.and_eq_true] at h
  exact ⟨okL_mem h.1.1.1, okL_mem h.1.1.2, of_decide_eq_true h.1.2, h.2⟩
def MokV (cy : MX) (n : Nat) : Prop := MokB cy n ∧ Cond.instanceMethod cy.1 ∈ lwg ∧ Cond.selects cy.1.cls cy.1 cy.1 ∈ lwg
def MokS (cy : MX) (n : Nat) : Prop := MokB cy n ∧ Cond.static cy.1 ∈ lwg
theorem mokV_of {cy : MX} {n p1 p2 p3 p4 : Nat} (h : mokB cy n p1 p2 = true) (h3 : okL p3 (.instanceMethod cy.1) = true) (h4 : okL p4 (.selects cy.1.cls cy.1 cy.1) = true) : MokV cy n := ⟨mokB_of h, okL_mem h3, okL_mem h4⟩
theorem mokS_of {cy : MX} {n p1 p2 p3 : Nat} (h : mokB cy n p1 p2 = true) (h3 : okL p3 (.static cy.1) = true) : MokS cy n := ⟨mokB_of h, okL_mem h3⟩
theorem gV {own : String} {idx n : Nat} {cy : MX} (h : MokV cy n) (hl : Cond.methodLink own idx cy.1 ∈ lwg) : GoodIn lwg (wsV own idx cy.1.cls cy.1 (wsM cy)) := by
  intro w hw
  refine gAll w ?_
  unfold wsV wsM at hw
  simp only [List.mem_append, List.mem_cons, List.not_mem_nil, or_false] at hw
  rcases hw with (rfl | rfl | rfl | rfl) | rfl | hw
  · exact hl
  · exact h.2.1
  · exact h.2.2
  · exact h.1.1
  · exact h.1.2.1
  · exact hw
theorem gS {own : String} {idx n : Nat} {cy : MX} (h : MokS cy n) (hl : Cond.methodLink own idx cy.1 ∈ lwg) : GoodIn lwg (va_wsS own idx cy.1 (wsM cy)) := by
  intro w hw
  refine gAll w ?_
  unfold va_wsS wsM at hw
  simp only [List.mem_append, List.mem_cons, List.not_mem_nil, or_false] at hw
  rcases hw with (rfl | rfl | rfl) | rfl | hw
  · exact hl
  · exact h.2
  · exact h.1.1
  · exact h.1.2.1
  · exact hw
section AWC
variable {κ : KX} {cx : MX} {R : Room} {Qf : List Frame → Array Value → State → State → Prop} {cells slots : Nat} {S : List SH} {pc : Nat} {ls r : List AV} {μ : MM} {ν : ML}
theorem rest_ok {κ : KX} {rest : List AV} {m : MethodId} {pc : Nat} {lsA : Array Slot} {st : List Value} (h : 2 * rest.length ≤ 8) : 2 * (F0 m pc lsA st).monitorRoom + ((rest.map (cvA κ)).map fun v => v.category).sum ≤ 8 := by
  refine lv_room ?_
  have : ∀ l : List AV, ((l.map (cvA κ)).map fun v => v.category).sum ≤ 2 * l.length := by
    intro l
    induction l with
    | nil => simp
    | cons a t ih =>
      simp only [List.map_cons, List.sum_cons, List.length_cons]
      have : (cvA κ a).category ≤ 2 := by rcases lv_cat (cvA κ a) with h | h <;> omega
      omega
  exact Nat.le_trans (this rest) h
theorem aw_callV {cy : MX} {d mc ms n idx b a p1 : Nat} {As rest : List AV} {fs : List (Option AV)} {Post : Option AV → List SH → MM → ML → Prop} (hM : AMet κ d cy (aR b :: As) S μ ν Post mc ms) (hm : MokV cy n) (hd : decode cx.2.1 pc = .ok (.invokevirtual idx, 3)) (hl : okL p1 (.methodLink cx.1.cls idx cy.1) = true) (hob : gt S b = some (.inr (a, fs))) (hcl : (gt classes a).map (fun q => q.1) = some cy.1.cls) (hn : As.length = n) (hrest : 2 * rest.length ≤ 8) (hR : d + 1 ≤ R.frames ∧ 8 + (cy.2.2.1 + 11) + 64 * d ≤ R.locals) (hf : cells + mc ≤ R.cells ∧ slots + ms ≤ R.slots)
    (k : ∀ (r : Option AV) (S' : List SH) (μ' : MM) (ν' : ML), Post r S' μ' ν' → AW κ cx R Qf (cells + mc) (slots + ms) S' (pc + 3) ls (r.toList ++ rest) μ' ν') : AW κ cx R Qf cells slots S pc ls (As.reverse ++ aR b :: rest) μ ν := by
  intro hS p l e s m args below meth c F H locs lsA hs hW hl0
  obtain ⟨hx, hb, -, hml, hown, hts, -, -, hK, hst⟩ := id F
  have hlink := okL_mem hl
  rw [gt_eq] at hob
  rw [gt_eq] at hcl
  cases hcc : classes[a]? with
  | none => rw [hcc] at hcl; cases hcl
  | some q =>
    rw [hcc] at hcl
    have hcl : q.1 = cy.1.cls := Option.some.inj hcl
    have hrecv := va_recv hK hW.2 hcc (wsA_in hob)
    rw [hcl] at hrecv
    refine aw_run (va_runV (As := As.map (cvA κ)) (rest := rest.map (cvA κ)) ⟨hx, hb, hml, hown, hts⟩ (hM hS l) (cwV n hts (gV hm hlink) rfl rfl rfl ⟨rfl, hm.1.2.2.1⟩ hR) ⟨Pc_blind, hrecv, fun U hU hWm => ⟨rfl, va_K.moved hWm.alike hK, hst.moved hWm.alike hs hU, by rw [hU]; exact hW⟩⟩ rfl (by rw [List.length_map]; exact hn) hl0.1 (by simp [List.map_append, List.map_reverse]; rfl) (rest_ok hrest) hd hf) hs (fun r S' μ' ν' H1 locs1 hp hsm hw1 hs1 => ?_)
    have := k r S' μ' ν' hp hsm p l e s m args below meth c F H1 locs1 lsA hs1 hw1 hl0
    rw [List.map_append] at this
    cases r <;> exact this
theorem aw_callS {cy : MX} {d mc ms n idx p1 : Nat} {As rest : List AV} {Post : Option AV → List SH → MM → ML → Prop} (hM : AMet κ d cy As S μ ν Post mc ms) (hm : MokS cy n) (hd : decode cx.2.1 pc = .ok (.invokestatic idx, 3)) (hl : okL p1 (.methodLink cx.1.cls idx cy.1) = true) (hn : As.length = n) (hrest : 2 * rest.length ≤ 8) (hR : d + 1 ≤ R.frames ∧ 8 + (cy.2.2.1 + 11) + 64 * d ≤ R.locals) (hf : cells + mc ≤ R.cells ∧ slots + ms ≤ R.slots)
    (k : ∀ (r : Option AV) (S' : List SH) (μ' : MM) (ν' : ML), Post r S' μ' ν' → AW κ cx R Qf (cells + mc) (slots + ms) S' (pc + 3) ls (r.toList ++ rest) μ' ν') : AW κ cx R Qf cells slots S pc ls (As.reverse ++ rest) μ ν := by
  intro hS p l e s m args below meth c F H locs lsA hs hW hl0
  obtain ⟨hx, hb, -, hml, hown, hts, -, -, hK, hst⟩ := id F
  have hlink := okL_mem hl
  refine aw_run (va_runS (As := As.map (cvA κ)) (rest := rest.map (cvA κ)) ⟨hx, hb, hml, hown, hts⟩ (hM hS l) (va_cwS n hts (gS hm hlink) rfl rfl rfl hm.1.2.2.1 hR) ⟨Pc_blind, fun U hU hWm => ⟨rfl, va_K.moved hWm.alike hK, hst.moved hWm.alike hs hU, by rw [hU]; exact hW⟩⟩ rfl (by rw [List.length_map]; exact hn) hl0.1 (by simp [List.map_append, List.map_reverse]) (rest_ok hrest) hd hf) hs (fun r S' μ' ν' H1 locs1 hp hsm hw1 hs1 => ?_)
  have := k r S' μ' ν' hp hsm p l e s m args below meth c F H1 locs1 lsA hs1 hw1 hl0
  rw [List.map_append] at this
  cases r <;> exact this
end AWC
/-! a contract out of a walk from the entry -/
def flatA : List AV → List AV
  | [] => []
  | .inr (.inl x) :: r => aL x :: aU :: flatA r
  | v :: r => v :: flatA r
def entL (As : List AV) (n : Nat) : List AV := flatA As ++ List.replicate (n - (flatA As).length) aU
theorem flat_len (κ : KX) : ∀ As : List AV, (lg_sl (As.map (cvA κ))).length = (flatA As).length
  | [] => rfl
  | .inl z :: r => by have := flat_len κ r; simp [lg_sl, flatA, cvA, Value.category] at this ⊢; exact this
  | .inr (.inl x) :: r => by have := flat_len κ r; simp [lg_sl, flatA, cvA, Value.category] at this ⊢; omega
  | .inr (.inr (.inl x)) :: r => by have := flat_len κ r; simp [lg_sl, flatA, cvA, Value.category] at this ⊢; exact this
  | .inr (.inr (.inr (.inl x))) :: r => by have := flat_len κ r; simp [lg_sl, flatA, cvA, Value.category] at this ⊢; exact this
  | .inr (.inr (.inr (.inr x))) :: r => by have := flat_len κ r; simp [lg_sl, flatA, cvA, Value.category] at this ⊢; exact this
theorem flat_at (κ : KX) : ∀ (As : List AV) (o i : Nat) (v : AV), (flatA As)[i]? = some v → v ≠ aU → (o + i, cvA κ v) ∈ lv_args o (As.map (cvA κ))
  | [], o, i, v, h, _ => by simp [flatA] at h
  | .inl z :: r, o, i, v, h, hv => by
    cases i with
    | zero => simp [flatA] at h; subst h; exact List.mem_cons_self
    | succ i =>
      simp [flatA] at h
      have := flat_at κ r (o + 1) i v h hv
      refine List.mem_cons_of_mem _ ?_
      rw [show o + (i + 1) = o + 1 + i by omega]
      simpa [cvA, Value.category] using this
  | .inr (.inl x) :: r, o, i, v, h, hv => by
    cases i with
    | zero => simp [flatA] at h; subst h; exact List.mem_cons_self
    | succ i =>
      cases i with
      | zero => simp [flatA] at h; exact absurd h.symm hv
      | succ i =>
        simp [flatA] at h
        have := flat_at κ r (o + 2) i v h hv
        refine List.mem_cons_of_mem _ ?_
        rw [show o + (i + 1 + 1) = o + 2 + i by omega]
        simpa [cvA, Value.category] using this
  | .inr (.inr w) :: r, o, i, v, h, hv => by
    cases i with
    | zero => simp [flatA] at h; subst h; exact List.mem_cons_self
    | succ i =>
      simp [flatA] at h
      have := flat_at κ r (o + 1) i v h hv
      refine List.mem_cons_of_mem _ ?_
      rw [show o + (i + 1) = o + 1 + i by omega]
      have hc : (cvA κ (.inr (.inr w))).category = 1 := by rcases w with w | w | w <;> rfl
      rw [if_neg (by rw [hc]; decide)]
      exact this
theorem LH.entry {κ : KX} {As : List AV} {n : Nat} (h : (flatA As).length ≤ n) : LH κ n ((lg_sl (As.map (cvA κ)) ++ List.replicate (n - (lg_sl (As.map (cvA κ))).length) Slot.unset).toArray) (entL As n) := by
  have hh := lv_entry (As.map (cvA κ)) (n := n) (by rw [flat_len]; exact h)
  refine ⟨hh.1, hh.2.1, by simp [entL]; omega, fun i v hi hv => ?_⟩
  unfold entL at hi
  by_cases hlt : i < (flatA As).length
  · rw [List.getElem?_append_left hlt] at hi
    have := flat_at κ As 0 i v hi hv
    rw [Nat.zero_add] at this
    exact hh.2.2 _ this
  · rw [List.getElem?_append_right (by omega), List.getElem?_replicate] at hi
    split at hi
    · exact absurd (Option.some.inj hi).symm hv
    · cases hi
theorem AMet.of {κ : KX} {d : Nat} {cy : MX} {As ls : List AV} {S : List SH} {μ : MM} {ν : ML} {Post : Option AV → List SH → MM → ML → Prop} {mc ms n : Nat} (hm : MokB cy n) (hle : (flatA As).length ≤ cy.2.2.1) (hls : entL As cy.2.2.1 = ls) (k : AW κ cy (rmv d mc ms) (mq κ Post mc ms) 0 0 S 0 ls [] μ ν) : AMet κ d cy As S μ ν Post mc ms := by
  intro hS l
  refine Met.ofW (cc := cy.2.1) (maxL := cy.2.2.1) (ret := cy.2.2.2) hm.2.2.2 rfl ?_
  intro p e s m args below meth c s₁ B hml hv
  obtain ⟨rfl, hK, hSt, hW⟩ := hv
  have hts := atoms_spec (ws := wsM cy) B.pre
  rw [lg_entry_eq]
  subst hls
  exact k hS p l e s m _ below meth c ⟨B.exec, B.bytes, B.returns, hml, findClass_of_methodNamed B.named, fun w hw => hts w (List.mem_cons_of_mem _ hw), B.notSynchronized, (name_of_methodNamed B.named B.method).1, hK, hSt⟩ s.heap [] _ va_S.rf hW (LH.entry hle)
end
section
/-! ===== making: new objects and arrays, references put into final fields, constructors called ===== -/
def clr (μ : MM) (n : Nat) : MM := fun c i => if c = n then 0 else μ c i
def clrL (ν : ML) (n : Nat) : ML := fun c i => if c = n then 0 else ν c i
def dflT (T : u_T) (N : Nat) : List (Option AV) := (List.range N).map (fun j => if (T j).2.2.1 = "I" ∨ (T j).2.2.1 = "Z" then none else some aN)
def dfl (ci : Nat) : List (Option AV) := match gt classes ci with
  | some (_, T, N) => dflT T N
  | none => []
def shSz (sh : SH) : Nat := match sh with
  | .inl (_, n) => n
  | .inr (_, fs) => fs.length
def szS : List SH → Nat
  | [] => 0
  | sh :: r => shSz sh + szS r
theorem szS_app (S : List SH) (sh : SH) : szS (S ++ [sh]) = szS S + shSz sh := by
  induction S with
  | nil => simp [szS]
  | cons a t ih => simp [szS, ih]; omega
theorem szS_set : ∀ (S : List SH) (x : Nat) (sh sh' : SH), S[x]? = some sh → shSz sh' = shSz sh → szS (S.set x sh') = szS S
  | [], _, _, _, h, _ => by simp at h
  | a :: t, 0, sh, sh', h, he => by simp at h; subst h; simp [szS, he]
  | a :: t, x + 1, sh, sh', h, he => by simp at h; simp [szS, szS_set t x sh sh' h he]
theorem rdC_clr {κ : KX} {μ : MM} {ν : ML} {n : Nat} (k' : Nat) (sh : SH) (h : k' ≠ n) : rdC κ (clr μ n) (clrL ν n) k' sh = rdC κ μ ν k' sh := by
  have e1 : clr μ n k' = μ k' := by funext i; simp [clr, h]
  have e2 : clrL ν n k' = ν k' := by funext i; simp [clrL, h]
  rcases sh with ⟨t, m⟩ | ⟨ci, fs⟩
  · simp only [rdC, rdA, e1, e2]
  · have e : rdF κ (clr μ n) k' = rdF κ μ k' := by
      funext j f
      cases f <;> simp only [rdF, e1]
    simp only [rdC, e]
theorem Wl.push {κ : KX} {S : List SH} {μ : MM} {ν : ML} {H H1 : Heap} {sh : SH} (hW : Wl κ S μ ν H) (z : H1.size = H.size + 1) (oq : ∀ q : Nat, q < H.size → H1[q]? = H[q]?) (he : va_at κ.2.2.1 classes (κ.1 + S.length, rdC κ (clr μ S.length) (clrL ν S.length) S.length sh) H1) : Wl κ (S ++ [sh]) (clr μ S.length) (clrL ν S.length) H1 := by
  refine ⟨by rw [z, hW.1]; simp; omega, fun k' q hq => ?_⟩
  rw [wsA_at] at hq
  by_cases hk : k' < S.length
  · rw [List.getElem?_append_left hk] at hq
    cases h1 : S[k']? with
    | none => rw [h1] at hq; cases hq
    | some x =>
      rw [h1] at hq
      cases hq
      dsimp only
      rw [rdC_clr k' x (by omega)]
      exact (hW.2 k' _ (wsA_in h1)).kept (oq _ (by rw [hW.1]; omega))
  · rw [List.getElem?_append_right (by omega)] at hq
    have hz : k' - S.length < 1 := by
      cases h1 : [sh][k' - S.length]? with
      | none => rw [h1] at hq; cases hq
      | some x => exact (List.getElem?_eq_some_iff.mp h1).1
    have hk2 : k' = S.length := by omega
    subst hk2
    rw [Nat.sub_self] at hq
    cases hq
    exact he
theorem dfl_ok : ∀ (ci : Nat) (C : String) (T : u_T) (N : Nat), classes[ci]? = some (C, T, N) → ∀ j, j < N → (parseFieldDescriptor (T j).2.2.1).map defaultValue = some (if (T j).2.2.1 = "I" ∨ (T j).2.2.1 = "Z" then Value.int 0 else Value.null) := by
  intro ci C T N h
  match ci, h with
  | 0, h => cases h; decide +kernel
  | 1, h => cases h; decide +kernel
  | 2, h => cases h; decide +kernel
  | 3, h => cases h; decide +kernel
  | 4, h => cases h; decide +kernel
  | 5, h => cases h; decide +kernel
  | 6, h => cases h; decide +kernel
  | 7, h => cases h; decide +kernel
  | 8, h => cases h; decide +kernel
  | 9, h => cases h; decide +kernel
  | 10, h => cases h; decide +kernel
  | 11, h => cases h; decide +kernel
  | 12, h => cases h; decide +kernel
  | n + 13, h => simp [classes] at h
section MK
variable {κ : KX} {cx : MX} {p : Program} {l : Launch} {e : Env} {R : Room} {s : State} {m : MethodId} {args : Array Value} {below : List Frame} {meth : Method} {c : Code} {cells slots : Nat} {Q : State → Prop} {S : List SH} {pc : Nat} {ls r : List AV} {μ : MM} {ν : ML}
theorem ss_new (F : Fx κ cx p s m args meth c) {i ci N : Nat} {C : String} {T : u_T} (hd : decode cx.2.1 pc = .ok (.new i, 3)) (hc : classes[ci]? = some (C, T, N)) (h1 : Cond.classLink cx.1.cls i C ∈ lwg) (h2 : Cond.instantiable C N ∈ lwg) (h3 : Cond.initialized C ∈ lwg) (hcells : cells + 1 ≤ R.cells) (hslots : slots + N ≤ R.slots)
    (k : MW κ cx p l e R s m args below meth c (cells + 1) (slots + N) Q (S ++ [.inr (ci, dflT T N)]) (pc + 3) ls (aR S.length :: r) (clr μ S.length) (clrL ν S.length)) : MW κ cx p l e R s m args below meth c cells slots Q S pc ls r μ ν := by
  intro H locs lsA hS hW hl
  obtain ⟨hx0, hb, -, -, hown, hts, -, -, hK, -⟩ := F
  obtain ⟨hin, ⟨ty0, hty0⟩, hnm⟩ := ty_all ci C T N hc
  have hKn := hK.1 ci _ hc
  refine W.newcK hx0 hb hown (hts _ h1) (hts _ h2) (hts _ h3) rfl hd hcells hslots hKn.2.1 hW.1 fun H1 kC hkC e1 z1 o1 => ?_
  refine k H1 locs lsA ⟨Nat.le_trans hS.1 (by rw [z1, ← hW.1]; exact Nat.le_succ _), fun x g1 g2 => (o1 x (by rw [← hW.1]; exact Nat.lt_of_lt_of_le g1 hS.1)).trans (hS.2.1 x g1 g2), hS.2.2⟩ (hW.push (by rw [z1, hW.1]) (fun q hq => o1 q (by rw [← hW.1]; exact hq)) ?_) hl
  refine ⟨_, hc, (u_born ty0 hts hin hKn hkC e1 hty0).to (fun j hj => ?_)⟩
  have hd1 := dfl_ok ci C T N hc j hj
  rw [hty0 j hj] at hd1
  have hd2 := Option.some.inj hd1
  rw [hd2]
  have hlen : j < (dflT T N).length := by simp [dflT, hj]
  simp only [vp_V, List.getD_eq_getElem?_getD, List.getElem?_mapIdx]
  have he : (dflT T N)[j]? = some (if (T j).2.2.1 = "I" ∨ (T j).2.2.1 = "Z" then none else some aN) := by simp [dflT, hj]
  rw [he]
  by_cases hI : (T j).2.2.1 = "I" ∨ (T j).2.2.1 = "Z"
  · simp only [if_pos hI]
    simp [rdF, clr]
  · simp only [if_neg hI]
    simp [rdF, cvA]
def atyp : Nat → ArrayType
  | 0 => .int
  | 1 => .boolean
  | _ => .long
theorem ss_newa (F : Fx κ cx p s m args meth c) {t : Nat} {n : Int} (ht : t < 3) (hd : decode cx.2.1 pc = .ok (.newarray (atyp t), 2)) (h1 : Cond.arrayClass (newarray.typeOf (atyp t)) ∈ lwg) (hn0 : 0 ≤ n) (hn1 : n < 10000) (hcells : cells + 1 ≤ R.cells) (hslots : slots + n.toNat ≤ R.slots)
    (k : MW κ cx p l e R s m args below meth c (cells + 1) (slots + n.toNat) Q (S ++ [.inl (t, n.toNat)]) (pc + 2) ls (aR S.length :: r) (clr μ S.length) (clrL ν S.length)) : MW κ cx p l e R s m args below meth c cells slots Q S pc ls (aI n :: r) μ ν := by
  intro H locs lsA hS hW hl
  obtain ⟨hx0, hb, -, -, hown, hts, -, -, hK, -⟩ := F
  have e32 : (Int32.ofInt n).toInt = n := Int32.toInt_ofInt_of_le (by omega) (by omega)
  have hneg : ¬ Int32.ofInt n < 0 := by rw [Int32.lt_iff_toInt_lt, e32]; simp; omega
  have hcl : (Int32.ofInt n).toNatClampNeg = n.toNat := Int32.toNatClampNeg_ofInt_of_le (by omega) (by omega)
  refine va_newaK hx0 hb (hts _ h1) rfl hd rfl hneg hcl ?_ hcells hslots hW.1 fun H1 cA e1 z1 o1 hAr hNm => ?_
  · have : componentBytes (newarray.typeOf (atyp t)) ≤ 8 := by
      rcases (show t = 0 ∨ t = 1 ∨ t = 2 by omega) with rfl | rfl | rfl <;> decide
    have h2 : n.toNat ≤ 10000 := by omega
    calc n.toNat * componentBytes (newarray.typeOf (atyp t)) ≤ 10000 * 8 := Nat.mul_le_mul h2 this
      _ ≤ 536870912 := by decide
  · refine k H1 locs lsA ⟨Nat.le_trans hS.1 (by rw [z1, ← hW.1]; exact Nat.le_succ _), fun x g1 g2 => (o1 x (by rw [← hW.1]; exact Nat.lt_of_lt_of_le g1 hS.1)).trans (hS.2.1 x g1 g2), hS.2.2⟩ (hW.push (by rw [z1, hW.1]) (fun q hq => o1 q (by rw [← hW.1]; exact hq)) ?_) hl
    have hcA : cA = κ.2.2.2.1 t := by
      rcases (show t = 0 ∨ t = 1 ∨ t = 2 by omega) with rfl | rfl | rfl
      · exact Option.some.inj (hNm.symm.trans (hK.2 0 _ rfl).2)
      · exact Option.some.inj (hNm.symm.trans (hK.2 1 _ rfl).2)
      · exact Option.some.inj (hNm.symm.trans (hK.2 2 _ rfl).2)
    subst hcA
    show H1[κ.1 + S.length]? = some (vp_cell (κ.2.2.2.1 t) (n.toNat, rdA (clrL ν S.length) (clr μ S.length) S.length t))
    rw [e1]
    congr 1
    rcases (show t = 0 ∨ t = 1 ∨ t = 2 by omega) with rfl | rfl | rfl
    · simp [rdA, vp_cell, clr]; rfl
    · simp [rdA, vp_cell, clr]; rfl
    · simp [rdA, vp_cell, clrL]; rfl
theorem rdC_set {κ : KX} {μ : MM} {x b : Nat} {v : AV} {fs : List (Option AV)} : (fs.mapIdx (rdF κ μ x)).set b (cvA κ v) = (fs.set b (some v)).mapIdx (rdF κ μ x) := by
  apply List.ext_getElem?
  intro j
  by_cases hj : j = b
  · subst hj
    by_cases hlt : j < fs.length
    · rw [List.getElem?_set_self (by rw [List.length_mapIdx]; exact hlt), List.getElem?_mapIdx, List.getElem?_set_self hlt]
      rfl
    · rw [List.getElem?_eq_none (by simp; omega), List.getElem?_eq_none (by simp; omega)]
  · rw [List.getElem?_set_ne (Ne.symm hj), List.getElem?_mapIdx, List.getElem?_mapIdx, List.getElem?_set_ne (Ne.symm hj)]
theorem Wl.setR {κ : KX} {S : List SH} {μ : MM} {ν : ML} {H H1 : Heap} {x : Nat} {sh sh' : SH} (hW : Wl κ S μ ν H) (hx : S[x]? = some sh) (z : H1.size = H.size) (oq : ∀ q : Nat, q ≠ κ.1 + x → H1[q]? = H[q]?) (he : va_at κ.2.2.1 classes (κ.1 + x, rdC κ μ ν x sh') H1) : Wl κ (S.set x sh') μ ν H1 := by
  refine ⟨by rw [z, hW.1, List.length_set], fun k' q hq => ?_⟩
  rw [wsA_at] at hq
  by_cases hkk : k' = x
  · subst hkk
    rw [List.getElem?_set_self (List.getElem?_eq_some_iff.mp hx).1] at hq
    cases hq
    exact he
  · rw [List.getElem?_set_ne (Ne.symm hkk)] at hq
    cases h1 : S[k']? with
    | none => rw [h1] at hq; cases hq
    | some y =>
      rw [h1] at hq
      cases hq
      exact (hW.2 k' _ (wsA_in h1)).kept (oq _ (fun h => hkk (by omega)))
theorem ss_putR (F : Fx κ cx p s m args meth c) {i a b x : Nat} {C : String} {T : u_T} {N : Nat} {fs : List (Option AV)} {v : AV} {ty : FieldType} (hd : decode cx.2.1 pc = .ok (.putfield i, 3)) (hc : classes[a]? = some (C, T, N)) (hbN : b < N) (hn : Cond.fieldLink cx.1.cls i (T b).1 (T b).2.1 (T b).2.2.1 ∈ lwg) (hfin : (T b).2.2.2 = true) (hinit : cx.1.name = "<init>") (hdecl : (T b).1 = cx.1.cls) (hty : parseFieldDescriptor (T b).2.2.1 = some ty)
    (hnar : narrow ty (cvA κ v) = cvA κ v) (hfit : fits ty (cvA κ v) = true) (hx : S[x]? = some (.inr (a, fs))) (hbl : b < fs.length) (k : MW κ cx p l e R s m args below meth c cells slots Q (S.set x (.inr (a, fs.set b (some v)))) (pc + 3) ls r μ ν) : MW κ cx p l e R s m args below meth c cells slots Q S pc ls (v :: aR x :: r) μ ν := by
  intro H locs lsA hS hW hl
  obtain ⟨hx0, hb, -, -, hown, hts, -, hmn, hK, -⟩ := F
  obtain ⟨hin, ⟨ty0, hty0⟩, hnm⟩ := ty_all a C T N hc
  have hap := va_apart (own := cx.1.cls) hts hin ty0 hty0 hnm hK hc
  obtain ⟨r1, h1, cell, q1, q2, q3, q4⟩ := hW.2 x _ (wsA_in hx)
  have hr : r1 = (C, T, N) := Option.some.inj (h1.symm.trans hc)
  subst hr
  obtain ⟨hSl, hfc, kC, hkC, hkind⟩ := hK.1 a _ hc
  obtain ⟨cf, kf, fi, f, hi, hsl⟩ := hSl b hbN
  have hlay := hts _ (hin _ (u_in_lay hbN))
  unfold u_lay at hlay
  rw [if_pos hfin] at hlay
  have hst := (u_facts hfc hkC (u_lays hts hin hbN) hi).1
  have hcf : m.cls = cf := by
    obtain ⟨_, _, c', _, _, _, -, -, hf', -, -, -, hown2, -⟩ := Cond.laysFinal_spec hlay
    have e1 : c' = cf := by have := hi.symm.trans hf'; simp at this; exact this.1.symm
    rw [hdecl] at hown2
    rw [← e1]; exact Option.some.inj (hown.symm.trans hown2)
  have h6 := u_fits hfc hkC hkind (Or.inr hlay) hi hty hnar hfit
  have hlen : b < (fs.mapIdx (rdF κ μ x)).length := by rw [List.length_mapIdx]; exact hbl
  refine W.putFinK hx0 hb hown (hts _ hn) hi hst hcf (hmn.trans hinit) (by rw [q2]; exact h6) q1 q3 (by rw [hsl]; exact k2_hasslot (q4 b hbN)) rfl rfl hd fun H' e1 e2 e3 => ?_
  rw [hsl] at e1 ⊢
  refine k H' _ lsA (hS.put e2 e3 (Nat.le_add_right _ _)) (hW.setR hx e2 e3 ?_) hl
  refine ⟨_, hc, t_OB.to (V := updV (vp_V (fs.mapIdx (rdF κ μ x))) b (cvA κ v)) ⟨_, e1, q2, q3, t_set q4 hap hbN (cvA κ v)⟩ (fun j _ => ?_)⟩
  rw [vp_updV_set hlen, rdC_set]
theorem ss_objInit (F : Fx κ cx p s m args meth c) {i x : Nat} (hd : decode cx.2.1 pc = .ok (.invokespecial i, 3)) (h1 : Cond.methodLink cx.1.cls i objectInit ∈ lwg) (h2 : Cond.instanceMethod objectInit ∈ lwg) (h3 : Cond.code objectInit ⟨#[0xb1]⟩ 1 none ∈ lwg) (hrest : 2 * r.length ≤ 8) (hfr : 1 ≤ R.frames) (hlo : 20 ≤ R.locals) (k : MW κ cx p l e R s m args below meth c cells slots Q S (pc + 3) ls r μ ν) : MW κ cx p l e R s m args below meth c cells slots Q S pc ls (aR x :: r) μ ν := by
  intro H locs lsA hS hW hl
  obtain ⟨hx0, hb, -, hml, hown, hts, -, -, hK, -⟩ := F
  refine W.objInit hx0 hb hown (hts _ h1) (hts _ h2) (hts _ h3) rfl (by rw [hml]; exact hl.1) rfl hd hfr ?_ (k H locs lsA hS hW hl)
  have := rest_ok (κ := κ) (m := m) (pc := pc) (lsA := lsA) (st := []) hrest
  exact Nat.le_trans (Nat.add_le_add_right this 12) hlo
theorem ss_callI (F : Fx κ cx p s m args meth c) (hSm : SmallS S) {cy : MX} {d mc ms i b : Nat} {rest : List AV} {Post : Option AV → List SH → MM → ML → Prop} (hM : AMet κ d cy [aR b] S μ ν Post mc ms) (hm : MokB cy 0) (hin : Cond.instanceMethod cy.1 ∈ lwg) (hnm : cy.1.name = "<init>") (hret : cy.2.2.2 = none) (hd : decode cx.2.1 pc = .ok (.invokespecial i, 3)) (hl : Cond.methodLink cx.1.cls i cy.1 ∈ lwg) (hrest : 2 * rest.length ≤ 8) (hR : d + 1 ≤ R.frames ∧ 8 + (cy.2.2.1 + 11) + 64 * d ≤ R.locals) (hf : cells + mc ≤ R.cells ∧ slots + ms ≤ R.slots)
    (k : ∀ (r : Option AV) (S' : List SH) (μ' : MM) (ν' : ML), Post r S' μ' ν' → SmallS S' → MW κ cx p l e R s m args below meth c (cells + mc) (slots + ms) Q S' (pc + 3) ls (r.toList ++ rest) μ' ν') : MW κ cx p l e R s m args below meth c cells slots Q S pc ls (aR b :: rest) μ ν := by
  intro H locs lsA hs hW hl0
  obtain ⟨hx, hb, -, hml, hown, hts, -, -, hK, hst⟩ := id F
  have hG : GoodIn lwg (wsM cy) := by
    intro w hw
    rcases List.mem_cons.mp hw with rfl | hw
    · exact gAll _ hm.2.1
    · exact gAll _ hw
  refine aw_run (va_runI (As := []) (rest := rest.map (cvA κ)) (bytes := cy.2.1) (maxL := cy.2.2.1) ⟨hx, hb, hml, hown, hts⟩ (hM hSm l) (cwI 0 hts hG (by unfold wsM; rw [hret]) rfl rfl (hts _ hm.1) (hts _ hl) (hts _ hin) hnm hm.2.2.1 hR) ⟨Pc_blind, fun U hU hWm => ⟨rfl, va_K.moved hWm.alike hK, hst.moved hWm.alike hs hU, by rw [hU]; exact hW⟩⟩ rfl rfl hl0.1 rfl (rest_ok hrest) hd hf) hs (fun r S' μ' ν' H1 locs1 hp hsm hw1 hs1 => ?_)
  have := k r S' μ' ν' hp hsm H1 locs1 lsA hs1 hw1 hl0
  rw [List.map_append] at this
  cases r <;> exact this
end MK
end
section
/-! ===== the constructors, run by an interpreter ===== -/
def cd0 : List (Nat × OP) := [
  (0, oi (.aload_n 0)),
  (1, (.invokespecial 3, 0, 999, 0, 0, 239)),
  (4, oi (.aload_n 0)),
  (5, (.new 9, 0, 9, 202, 46, 240)),
  (8, oi .dup),
  (9, (.invokespecial 11, 0, 9, 0, 0, 241)),
  (12, (.putfield 12, 0, 0, 0, 2, 242)),
  (15, oi (.aload_n 0)),
  (16, oi (.bipush 60)),
  (18, (.newarray .int, 0, 0, 0, 0, 103)),
  (20, (.putfield 20, 1, 0, 1, 2, 244)),
  (23, oi (.aload_n 0)),
  (24, oi (.bipush 8)),
  (26, (.newarray .int, 0, 0, 0, 0, 103)),
  (28, (.putfield 24, 2, 0, 2, 2, 245)),
  (31, oi (.aload_n 0)),
  (32, oi (.bipush 8)),
  (34, (.newarray .int, 0, 0, 0, 0, 103)),
  (36, (.putfield 27, 3, 0, 3, 2, 246)),
  (39, oi (.aload_n 0)),
  (40, oi (.bipush 8)),
  (42, (.newarray .int, 0, 0, 0, 0, 103)),
  (44, (.putfield 30, 4, 0, 4, 2, 247)),
  (47, oi (.aload_n 0)),
  (48, oi (.bipush 8)),
  (50, (.newarray .int, 0, 0, 0, 0, 103)),
  (52, (.putfield 33, 5, 0, 5, 2, 248)),
  (55, oi .return_)]
def cd1 : List (Nat × OP) := [
  (0, oi (.aload_n 0)),
  (1, (.invokespecial 1, 0, 999, 0, 0, 77)),
  (4, oi (.aload_n 0)),
  (5, oi (.bipush 44)),
  (7, (.newarray .int, 0, 0, 0, 0, 103)),
  (9, (.putfield 11, 0, 1, 0, 2, 78)),
  (12, oi (.aload_n 0)),
  (13, oi (.bipush 16)),
  (15, (.newarray .int, 0, 0, 0, 0, 103)),
  (17, (.putfield 15, 1, 1, 1, 2, 79)),
  (20, oi (.aload_n 0)),
  (21, oi (.iconst 4)),
  (22, (.newarray .int, 0, 0, 0, 0, 103)),
  (24, (.putfield 18, 2, 1, 2, 2, 80)),
  (27, oi (.aload_n 0)),
  (28, oi (.iconst 4)),
  (29, (.newarray .int, 0, 0, 0, 0, 103)),
  (31, (.putfield 21, 3, 1, 3, 2, 81)),
  (34, oi .return_)]
def cd2 : List (Nat × OP) := [
  (0, oi (.aload_n 0)),
  (1, (.invokespecial 1, 0, 999, 0, 0, 149)),
  (4, oi (.aload_n 0)),
  (5, oi (.bipush 60)),
  (7, (.newarray .int, 0, 0, 0, 0, 103)),
  (9, (.putfield 9, 0, 2, 0, 2, 150)),
  (12, oi (.aload_n 0)),
  (13, oi (.bipush 24)),
  (15, (.newarray .int, 0, 0, 0, 0, 103)),
  (17, (.putfield 13, 1, 2, 1, 2, 153)),
  (20, oi (.aload_n 0)),
  (21, oi (.bipush 8)),
  (23, (.putfield 16, 2, 2, 2, 0, 154)),
  (26, oi (.aload_n 0)),
  (27, oi (.sipush 255)),
  (30, (.putfield 20, 3, 2, 3, 0, 158)),
  (33, oi (.iconst 0)),
  (34, oi (.istore_n 1)),
  (35, oi (.iload_n 1)),
  (36, oi (.bipush 60)),
  (38, (.if_icmp .ge 17, 0, 0, 55, 0, 0)),
  (41, oi (.aload_n 0)),
  (42, (.getfield 9, 0, 2, 0, 2, 150)),
  (45, oi (.iload_n 1)),
  (46, oi (.bipush 40)),
  (48, oi .iastore),
  (49, oi (.iinc 1 1)),
  (52, (.goto (-17), 0, 0, 35, 0, 0)),
  (55, oi (.iconst 0)),
  (56, oi (.istore_n 1)),
  (57, oi (.iload_n 1)),
  (58, oi (.bipush 24)),
  (60, (.if_icmp .ge 21, 0, 0, 81, 0, 0)),
  (63, oi (.aload_n 0)),
  (64, (.getfield 13, 1, 2, 1, 2, 153)),
  (67, oi (.iload_n 1)),
  (68, oi (.bipush 20)),
  (70, oi (.iload_n 1)),
  (71, oi (.iconst 3)),
  (72, oi .irem),
  (73, oi .ishl),
  (74, oi .iastore),
  (75, oi (.iinc 1 1)),
  (78, (.goto (-21), 0, 0, 57, 0, 0)),
  (81, oi .return_)]
def cd3 : List (Nat × OP) := [
  (0, oi (.aload_n 0)),
  (1, (.invokespecial 1, 0, 999, 0, 0, 71)),
  (4, oi (.aload_n 0)),
  (5, oi (.sipush 160)),
  (8, (.newarray .int, 0, 0, 0, 0, 103)),
  (10, (.putfield 9, 0, 3, 0, 2, 105)),
  (13, oi (.aload_n 0)),
  (14, oi (.sipush 160)),
  (17, (.newarray .int, 0, 0, 0, 0, 103)),
  (19, (.putfield 13, 1, 3, 1, 2, 107)),
  (22, oi (.aload_n 0)),
  (23, oi (.bipush 10)),
  (25, (.newarray .boolean, 0, 0, 0, 1, 104)),
  (27, (.putfield 16, 2, 3, 2, 2, 110)),
  (30, oi (.aload_n 0)),
  (31, oi (.bipush 40)),
  (33, (.newarray .int, 0, 0, 0, 0, 103)),
  (35, (.putfield 20, 3, 3, 3, 2, 112)),
  (38, oi (.aload_n 0)),
  (39, oi (.bipush 10)),
  (41, (.newarray .int, 0, 0, 0, 0, 103)),
  (43, (.putfield 23, 4, 3, 4, 2, 115)),
  (46, oi (.aload_n 0)),
  (47, oi (.bipush 10)),
  (49, (.newarray .int, 0, 0, 0, 0, 103)),
  (51, (.putfield 26, 5, 3, 5, 2, 118)),
  (54, oi (.aload_n 0)),
  (55, (.new 29, 0, 1, 73, 43, 72)),
  (58, oi .dup),
  (59, (.invokespecial 31, 0, 1, 0, 0, 74)),
  (62, (.putfield 32, 6, 3, 6, 2, 121)),
  (65, oi .return_)]
def cd4 : List (Nat × OP) := [
  (0, oi (.aload_n 0)),
  (1, (.invokespecial 1, 0, 999, 0, 0, 347)),
  (4, oi (.aload_n 0)),
  (5, oi (.bipush 24)),
  (7, (.newarray .int, 0, 0, 0, 0, 103)),
  (9, (.putfield 9, 0, 4, 0, 2, 348)),
  (12, oi .return_)]
def cd5 : List (Nat × OP) := [
  (0, oi (.aload_n 0)),
  (1, (.invokespecial 3, 0, 999, 0, 0, 337)),
  (4, oi (.aload_n 0)),
  (5, oi (.bipush 8)),
  (7, (.newarray .int, 0, 0, 0, 0, 103)),
  (9, (.putfield 11, 0, 5, 0, 2, 338)),
  (12, oi .return_)]
def cd6 : List (Nat × OP) := [
  (0, oi (.aload_n 0)),
  (1, (.invokespecial 3, 0, 999, 0, 0, 357)),
  (4, oi (.aload_n 0)),
  (5, oi (.bipush 10)),
  (7, (.newarray .int, 0, 0, 0, 0, 103)),
  (9, oi .dup),
  (10, oi (.iconst 0)),
  (11, oi (.iconst 0)),
  (12, oi .iastore),
  (13, oi .dup),
  (14, oi (.iconst 1)),
  (15, oi (.iconst 0)),
  (16, oi .iastore),
  (17, oi .dup),
  (18, oi (.iconst 2)),
  (19, oi (.iconst 0)),
  (20, oi .iastore),
  (21, oi .dup),
  (22, oi (.iconst 3)),
  (23, oi (.iconst 1)),
  (24, oi .iastore),
  (25, oi .dup),
  (26, oi (.iconst 4)),
  (27, oi (.iconst 1)),
  (28, oi .iastore),
  (29, oi .dup),
  (30, oi (.iconst 5)),
  (31, oi (.iconst 2)),
  (32, oi .iastore),
  (33, oi .dup),
  (34, oi (.bipush 6)),
  (36, oi (.iconst 2)),
  (37, oi .iastore),
  (38, oi .dup),
  (39, oi (.bipush 7)),
  (41, oi (.iconst 3)),
  (42, oi .iastore),
  (43, oi .dup),
  (44, oi (.bipush 8)),
  (46, oi (.iconst 3)),
  (47, oi .iastore),
  (48, oi .dup),
  (49, oi (.bipush 9)),
  (51, oi (.iconst 4)),
  (52, oi .iastore),
  (53, (.putfield 9, 0, 6, 0, 2, 358)),
  (56, oi (.aload_n 0)),
  (57, oi (.bipush 10)),
  (59, (.newarray .int, 0, 0, 0, 0, 103)),
  (61, oi .dup),
  (62, oi (.iconst 0)),
  (63, oi (.iconst 0)),
  (64, oi .iastore),
  (65, oi .dup),
  (66, oi (.iconst 1)),
  (67, oi (.bipush 10)),
  (69, oi .iastore),
  (70, oi .dup),
  (71, oi (.iconst 2)),
  (72, oi (.bipush 10)),
  (74, oi .iastore),
  (75, oi .dup),
  (76, oi (.iconst 3)),
  (77, oi (.bipush 10)),
  (79, oi .iastore),
  (80, oi .dup),
  (81, oi (.iconst 4)),
  (82, oi (.bipush 10)),
  (84, oi .iastore),
  (85, oi .dup),
  (86, oi (.iconst 5)),
  (87, oi (.bipush 10)),
  (89, oi .iastore),
  (90, oi .dup),
  (91, oi (.bipush 6)),
  (93, oi (.bipush 10)),
  (95, oi .iastore),
  (96, oi .dup),
  (97, oi (.bipush 7)),
  (99, oi (.bipush 10)),
  (101, oi .iastore),
  (102, oi .dup),
  (103, oi (.bipush 8)),
  (105, oi (.bipush 10)),
  (107, oi .iastore),
  (108, oi .dup),
  (109, oi (.bipush 9)),
  (111, oi (.bipush 10)),
  (113, oi .iastore),
  (114, (.putfield 15, 1, 6, 1, 2, 359)),
  (117, oi (.aload_n 0)),
  (118, oi (.bipush 10)),
  (120, (.newarray .boolean, 0, 0, 0, 1, 104)),
  (122, (.putfield 18, 2, 6, 2, 2, 360)),
  (125, oi .return_)]
def cd7 : List (Nat × OP) := [
  (0, oi (.aload_n 0)),
  (1, (.invokespecial 1, 0, 999, 0, 0, 301)),
  (4, oi (.aload_n 0)),
  (5, oi (.bipush 12)),
  (7, (.newarray .int, 0, 0, 0, 0, 103)),
  (9, (.putfield 9, 0, 7, 0, 2, 302)),
  (12, oi (.aload_n 0)),
  (13, oi (.bipush 12)),
  (15, (.newarray .int, 0, 0, 0, 0, 103)),
  (17, (.putfield 13, 1, 7, 1, 2, 303)),
  (20, oi (.aload_n 0)),
  (21, oi (.bipush 12)),
  (23, (.newarray .int, 0, 0, 0, 0, 103)),
  (25, (.putfield 16, 2, 7, 2, 2, 304)),
  (28, oi (.aload_n 0)),
  (29, oi (.bipush 12)),
  (31, (.newarray .int, 0, 0, 0, 0, 103)),
  (33, (.putfield 19, 3, 7, 3, 2, 305)),
  (36, oi (.aload_n 0)),
  (37, oi (.bipush 12)),
  (39, (.newarray .int, 0, 0, 0, 0, 103)),
  (41, (.putfield 22, 4, 7, 4, 2, 306)),
  (44, oi (.aload_n 0)),
  (45, oi (.bipush 8)),
  (47, (.newarray .int, 0, 0, 0, 0, 103)),
  (49, (.putfield 25, 6, 7, 6, 2, 309)),
  (52, oi (.aload_n 0)),
  (53, oi (.bipush 48)),
  (55, (.newarray .long, 0, 0, 0, 2, 331)),
  (57, (.putfield 30, 7, 7, 7, 2, 310)),
  (60, oi (.aload_n 0)),
  (61, oi (.bipush 48)),
  (63, (.newarray .int, 0, 0, 0, 0, 103)),
  (65, (.putfield 34, 8, 7, 8, 2, 311)),
  (68, oi .return_)]
def cd8 : List (Nat × OP) := [
  (0, oi (.aload_n 0)),
  (1, (.invokespecial 5, 0, 999, 0, 0, 174)),
  (4, oi (.aload_n 0)),
  (5, oi (.bipush 40)),
  (7, (.newarray .int, 0, 0, 0, 0, 103)),
  (9, (.putfield 11, 0, 8, 0, 2, 175)),
  (12, oi (.aload_n 0)),
  (13, oi (.bipush 6)),
  (15, (.newarray .int, 0, 0, 0, 0, 103)),
  (17, (.putfield 15, 2, 8, 2, 2, 178)),
  (20, oi (.aload_n 0)),
  (21, oi (.bipush 6)),
  (23, (.newarray .boolean, 0, 0, 0, 1, 104)),
  (25, (.putfield 18, 3, 8, 3, 2, 179)),
  (28, oi (.aload_n 0)),
  (29, oi (.bipush 6)),
  (31, (.newarray .int, 0, 0, 0, 0, 103)),
  (33, (.putfield 22, 4, 8, 4, 2, 180)),
  (36, oi (.aload_n 0)),
  (37, oi (.bipush 6)),
  (39, (.newarray .int, 0, 0, 0, 0, 103)),
  (41, (.putfield 25, 5, 8, 5, 2, 181)),
  (44, oi .return_)]
def cd9 : List (Nat × OP) := [
  (0, oi (.aload_n 0)),
  (1, (.invokespecial 3, 0, 999, 0, 0, 206)),
  (4, oi (.aload_n 0)),
  (5, oi (.bipush 8)),
  (7, (.newarray .int, 0, 0, 0, 0, 103)),
  (9, (.putfield 11, 0, 9, 0, 2, 207)),
  (12, oi .return_)]
def cd10 : List (Nat × OP) := [
  (0, oi (.aload_n 0)),
  (1, (.invokespecial 1, 0, 999, 0, 0, 282)),
  (4, oi (.aload_n 0)),
  (5, oi (.iconst 4)),
  (6, (.newarray .int, 0, 0, 0, 0, 103)),
  (8, oi .dup),
  (9, oi (.iconst 0)),
  (10, oi (.bipush 10)),
  (12, oi .iastore),
  (13, oi .dup),
  (14, oi (.iconst 1)),
  (15, oi (.bipush 10)),
  (17, oi .iastore),
  (18, oi .dup),
  (19, oi (.iconst 2)),
  (20, oi (.bipush 10)),
  (22, oi .iastore),
  (23, oi .dup),
  (24, oi (.iconst 3)),
  (25, oi (.bipush 10)),
  (27, oi .iastore),
  (28, (.putfield 7, 0, 10, 0, 2, 283)),
  (31, oi (.aload_n 0)),
  (32, oi (.iconst 4)),
  (33, (.newarray .int, 0, 0, 0, 0, 103)),
  (35, oi .dup),
  (36, oi (.iconst 0)),
  (37, oi (.bipush 10)),
  (39, oi .iastore),
  (40, oi .dup),
  (41, oi (.iconst 1)),
  (42, oi (.bipush 10)),
  (44, oi .iastore),
  (45, oi .dup),
  (46, oi (.iconst 2)),
  (47, oi (.bipush 10)),
  (49, oi .iastore),
  (50, oi .dup),
  (51, oi (.iconst 3)),
  (52, oi (.bipush 10)),
  (54, oi .iastore),
  (55, (.putfield 13, 1, 10, 1, 2, 284)),
  (58, oi (.aload_n 0)),
  (59, oi (.bipush 6)),
  (61, (.newarray .int, 0, 0, 0, 0, 103)),
  (63, oi .dup),
  (64, oi (.iconst 0)),
  (65, oi (.iconst 5)),
  (66, oi .iastore),
  (67, oi .dup),
  (68, oi (.iconst 1)),
  (69, oi (.iconst 5)),
  (70, oi .iastore),
  (71, oi .dup),
  (72, oi (.iconst 2)),
  (73, oi (.iconst 5)),
  (74, oi .iastore),
  (75, oi .dup),
  (76, oi (.iconst 3)),
  (77, oi (.iconst 5)),
  (78, oi .iastore),
  (79, oi .dup),
  (80, oi (.iconst 4)),
  (81, oi (.iconst 5)),
  (82, oi .iastore),
  (83, oi .dup),
  (84, oi (.iconst 5)),
  (85, oi (.iconst 5)),
  (86, oi .iastore),
  (87, (.putfield 16, 2, 10, 2, 2, 285)),
  (90, oi (.aload_n 0)),
  (91, oi (.bipush 24)),
  (93, (.newarray .int, 0, 0, 0, 0, 103)),
  (95, (.putfield 19, 3, 10, 3, 2, 286)),
  (98, oi .return_)]
def cd11 : List (Nat × OP) := [
  (0, oi (.aload_n 0)),
  (1, (.invokespecial 1, 0, 999, 0, 0, 63)),
  (4, oi (.aload_n 0)),
  (5, oi (.bipush 7)),
  (7, (.newarray .int, 0, 0, 0, 0, 103)),
  (9, oi .dup),
  (10, oi (.iconst 0)),
  (11, oi (.bipush 30)),
  (13, oi .iastore),
  (14, oi .dup),
  (15, oi (.iconst 1)),
  (16, oi (.bipush 60)),
  (18, oi .iastore),
  (19, oi .dup),
  (20, oi (.iconst 2)),
  (21, oi (.iconst 2)),
  (22, oi .iastore),
  (23, oi .dup),
  (24, oi (.iconst 3)),
  (25, oi (.iconst 3)),
  (26, oi .iastore),
  (27, oi .dup),
  (28, oi (.iconst 4)),
  (29, oi (.iconst 5)),
  (30, oi .iastore),
  (31, oi .dup),
  (32, oi (.iconst 5)),
  (33, oi (.bipush 30)),
  (35, oi .iastore),
  (36, oi .dup),
  (37, oi (.bipush 6)),
  (39, oi (.iconst 2)),
  (40, oi .iastore),
  (41, (.putfield 7, 0, 11, 0, 2, 369)),
  (44, oi (.aload_n 0)),
  (45, (.new 13, 0, 3, 67, 42, 66)),
  (48, oi .dup),
  (49, (.invokespecial 15, 0, 3, 0, 0, 68)),
  (52, (.putfield 16, 1, 11, 1, 2, 370)),
  (55, oi (.aload_n 0)),
  (56, (.new 20, 0, 2, 145, 44, 144)),
  (59, oi .dup),
  (60, (.invokespecial 22, 0, 2, 0, 0, 146)),
  (63, (.putfield 23, 2, 11, 2, 2, 371)),
  (66, oi (.aload_n 0)),
  (67, (.new 27, 0, 8, 170, 45, 169)),
  (70, oi .dup),
  (71, (.invokespecial 29, 0, 8, 0, 0, 171)),
  (74, (.putfield 30, 3, 11, 3, 2, 372)),
  (77, oi (.aload_n 0)),
  (78, (.new 34, 0, 9, 202, 46, 201)),
  (81, oi .dup),
  (82, (.invokespecial 36, 0, 9, 0, 0, 203)),
  (85, (.putfield 37, 4, 11, 4, 2, 373)),
  (88, oi (.aload_n 0)),
  (89, (.new 41, 0, 0, 235, 47, 234)),
  (92, oi .dup),
  (93, (.invokespecial 43, 0, 0, 0, 0, 236)),
  (96, (.putfield 44, 5, 11, 5, 2, 374)),
  (99, oi (.aload_n 0)),
  (100, (.new 48, 0, 10, 278, 48, 277)),
  (103, oi .dup),
  (104, (.invokespecial 50, 0, 10, 0, 0, 279)),
  (107, (.putfield 51, 6, 11, 6, 2, 375)),
  (110, oi (.aload_n 0)),
  (111, (.new 55, 0, 7, 297, 49, 296)),
  (114, oi .dup),
  (115, (.invokespecial 57, 0, 7, 0, 0, 298)),
  (118, (.putfield 58, 7, 11, 7, 2, 376)),
  (121, oi (.aload_n 0)),
  (122, (.new 62, 0, 5, 333, 50, 332)),
  (125, oi .dup),
  (126, (.invokespecial 64, 0, 5, 0, 0, 334)),
  (129, (.putfield 65, 8, 11, 8, 2, 377)),
  (132, oi (.aload_n 0)),
  (133, (.new 69, 0, 4, 343, 51, 342)),
  (136, oi .dup),
  (137, (.invokespecial 71, 0, 4, 0, 0, 344)),
  (140, (.putfield 72, 9, 11, 9, 2, 378)),
  (143, oi (.aload_n 0)),
  (144, (.new 76, 0, 6, 353, 52, 352)),
  (147, oi .dup),
  (148, (.invokespecial 78, 0, 6, 0, 0, 354)),
  (151, (.putfield 79, 10, 11, 10, 2, 379)),
  (154, oi .return_)]
def cd12 : List (Nat × OP) := [
  (0, oi (.aload_n 0)),
  (1, (.invokespecial 1, 0, 999, 0, 0, 966)),
  (4, oi (.aload_n 0)),
  (5, oi (.sipush 160)),
  (8, (.newarray .int, 0, 0, 0, 0, 103)),
  (10, (.putfield 7, 1, 12, 1, 2, 968)),
  (13, oi (.aload_n 0)),
  (14, oi (.bipush 10)),
  (16, (.newarray .boolean, 0, 0, 0, 1, 104)),
  (18, (.putfield 13, 2, 12, 2, 2, 969)),
  (21, oi (.aload_n 0)),
  (22, oi (.bipush 7)),
  (24, (.newarray .int, 0, 0, 0, 0, 103)),
  (26, (.putfield 17, 3, 12, 3, 2, 970)),
  (29, oi (.aload_n 0)),
  (30, oi (.bipush 24)),
  (32, (.newarray .int, 0, 0, 0, 0, 103)),
  (34, (.putfield 20, 5, 12, 5, 2, 972)),
  (37, oi (.aload_n 0)),
  (38, oi (.bipush 60)),
  (40, (.newarray .int, 0, 0, 0, 0, 103)),
  (42, (.putfield 23, 7, 12, 7, 2, 974)),
  (45, oi (.aload_n 0)),
  (46, oi (.bipush 40)),
  (48, (.newarray .int, 0, 0, 0, 0, 103)),
  (50, (.putfield 26, 9, 12, 9, 2, 976)),
  (53, oi (.aload_n 0)),
  (54, oi (.bipush 40)),
  (56, (.newarray .int, 0, 0, 0, 0, 103)),
  (58, (.putfield 29, 11, 12, 11, 2, 978)),
  (61, oi (.aload_n 0)),
  (62, oi (.iconst 4)),
  (63, (.newarray .int, 0, 0, 0, 0, 103)),
  (65, (.putfield 32, 12, 12, 12, 2, 979)),
  (68, oi (.aload_n 0)),
  (69, oi (.iconst 4)),
  (70, (.newarray .int, 0, 0, 0, 0, 103)),
  (72, (.putfield 35, 13, 12, 13, 2, 980)),
  (75, oi (.aload_n 0)),
  (76, oi (.bipush 6)),
  (78, (.newarray .int, 0, 0, 0, 0, 103)),
  (80, (.putfield 38, 14, 12, 14, 2, 981)),
  (83, oi (.aload_n 0)),
  (84, oi (.bipush 24)),
  (86, (.newarray .int, 0, 0, 0, 0, 103)),
  (88, (.putfield 41, 15, 12, 15, 2, 982)),
  (91, oi (.aload_n 0)),
  (92, oi (.bipush 60)),
  (94, (.newarray .int, 0, 0, 0, 0, 103)),
  (96, (.putfield 44, 17, 12, 17, 2, 984)),
  (99, oi (.aload_n 0)),
  (100, oi (.bipush 8)),
  (102, (.newarray .int, 0, 0, 0, 0, 103)),
  (104, (.putfield 47, 18, 12, 18, 2, 985)),
  (107, oi (.aload_n 0)),
  (108, oi (.sipush 2880)),
  (111, (.newarray .boolean, 0, 0, 0, 1, 104)),
  (113, (.putfield 50, 19, 12, 19, 2, 986)),
  (116, oi (.aload_n 0)),
  (117, oi (.bipush 48)),
  (119, (.newarray .int, 0, 0, 0, 0, 103)),
  (121, (.putfield 53, 20, 12, 20, 2, 987)),
  (124, oi (.aload_n 0)),
  (125, oi (.bipush 8)),
  (127, (.newarray .int, 0, 0, 0, 0, 103)),
  (129, (.putfield 56, 21, 12, 21, 2, 988)),
  (132, oi (.aload_n 0)),
  (133, oi (.bipush 24)),
  (135, (.newarray .int, 0, 0, 0, 0, 103)),
  (137, (.putfield 59, 22, 12, 22, 2, 989)),
  (140, oi (.aload_n 0)),
  (141, oi (.bipush 10)),
  (143, (.newarray .int, 0, 0, 0, 0, 103)),
  (145, (.putfield 62, 23, 12, 23, 2, 990)),
  (148, oi (.aload_n 0)),
  (149, oi (.bipush 10)),
  (151, (.newarray .int, 0, 0, 0, 0, 103)),
  (153, (.putfield 65, 24, 12, 24, 2, 991)),
  (156, oi (.aload_n 0)),
  (157, oi (.bipush 10)),
  (159, (.newarray .boolean, 0, 0, 0, 1, 104)),
  (161, (.putfield 68, 25, 12, 25, 2, 992)),
  (164, oi (.aload_n 0)),
  (165, oi (.bipush 40)),
  (167, (.newarray .int, 0, 0, 0, 0, 103)),
  (169, (.putfield 71, 26, 12, 26, 2, 993)),
  (172, oi (.aload_n 0)),
  (173, oi (.sipush 160)),
  (176, (.newarray .int, 0, 0, 0, 0, 103)),
  (178, (.putfield 74, 27, 12, 27, 2, 994)),
  (181, oi (.aload_n 0)),
  (182, oi (.bipush 10)),
  (184, (.newarray .int, 0, 0, 0, 0, 103)),
  (186, (.putfield 77, 28, 12, 28, 2, 995)),
  (189, oi (.aload_n 0)),
  (190, oi (.bipush 10)),
  (192, (.newarray .int, 0, 0, 0, 0, 103)),
  (194, (.putfield 80, 29, 12, 29, 2, 996)),
  (197, oi (.aload_n 0)),
  (198, oi (.bipush 44)),
  (200, (.newarray .int, 0, 0, 0, 0, 103)),
  (202, (.putfield 83, 30, 12, 30, 2, 997)),
  (205, oi (.aload_n 0)),
  (206, oi (.bipush 8)),
  (208, (.newarray .int, 0, 0, 0, 0, 103)),
  (210, (.putfield 86, 35, 12, 35, 2, 1002)),
  (213, oi (.aload_n 0)),
  (214, oi (.bipush 8)),
  (216, (.newarray .int, 0, 0, 0, 0, 103)),
  (218, (.putfield 89, 36, 12, 36, 2, 1003)),
  (221, oi (.aload_n 0)),
  (222, (.getfield 17, 3, 12, 3, 2, 970)),
  (225, oi (.iconst 0)),
  (226, oi (.bipush 30)),
  (228, oi .iastore),
  (229, oi (.aload_n 0)),
  (230, (.getfield 17, 3, 12, 3, 2, 970)),
  (233, oi (.iconst 1)),
  (234, oi (.bipush 60)),
  (236, oi .iastore),
  (237, oi (.aload_n 0)),
  (238, (.getfield 17, 3, 12, 3, 2, 970)),
  (241, oi (.iconst 2)),
  (242, oi (.iconst 2)),
  (243, oi .iastore),
  (244, oi (.aload_n 0)),
  (245, (.getfield 17, 3, 12, 3, 2, 970)),
  (248, oi (.iconst 3)),
  (249, oi (.iconst 3)),
  (250, oi .iastore),
  (251, oi (.aload_n 0)),
  (252, (.getfield 17, 3, 12, 3, 2, 970)),
  (255, oi (.iconst 4)),
  (256, oi (.iconst 5)),
  (257, oi .iastore),
  (258, oi (.aload_n 0)),
  (259, (.getfield 17, 3, 12, 3, 2, 970)),
  (262, oi (.iconst 5)),
  (263, oi (.bipush 30)),
  (265, oi .iastore),
  (266, oi (.aload_n 0)),
  (267, (.getfield 17, 3, 12, 3, 2, 970)),
  (270, oi (.bipush 6)),
  (272, oi (.iconst 2)),
  (273, oi .iastore),
  (274, oi (.aload_n 0)),
  (275, oi (.bipush 8)),
  (277, (.putfield 92, 4, 12, 4, 0, 971)),
  (280, oi (.aload_n 0)),
  (281, oi (.sipush 255)),
  (284, (.putfield 96, 6, 12, 6, 0, 973)),
  (287, oi (.iconst 0)),
  (288, oi (.istore_n 1)),
  (289, oi (.iload_n 1)),
  (290, oi (.bipush 8)),
  (292, (.if_icmp .ge 43, 0, 0, 335, 0, 0)),
  (295, oi (.aload_n 0)),
  (296, (.getfield 20, 5, 12, 5, 2, 972)),
  (299, oi (.iconst 3)),
  (300, oi (.iload_n 1)),
  (301, oi .imul),
  (302, oi (.bipush 20)),
  (304, oi .iastore),
  (305, oi (.aload_n 0)),
  (306, (.getfield 20, 5, 12, 5, 2, 972)),
  (309, oi (.iconst 3)),
  (310, oi (.iload_n 1)),
  (311, oi .imul),
  (312, oi (.iconst 1)),
  (313, oi .iadd),
  (314, oi (.bipush 40)),
  (316, oi .iastore),
  (317, oi (.aload_n 0)),
  (318, (.getfield 20, 5, 12, 5, 2, 972)),
  (321, oi (.iconst 3)),
  (322, oi (.iload_n 1)),
  (323, oi .imul),
  (324, oi (.iconst 2)),
  (325, oi .iadd),
  (326, oi (.bipush 80)),
  (328, oi .iastore),
  (329, oi (.iinc 1 1)),
  (332, (.goto (-43), 0, 0, 289, 0, 0)),
  (335, oi (.iconst 0)),
  (336, oi (.istore_n 1)),
  (337, oi (.iload_n 1)),
  (338, oi (.bipush 60)),
  (340, (.if_icmp .ge 17, 0, 0, 357, 0, 0)),
  (343, oi (.aload_n 0)),
  (344, (.getfield 23, 7, 12, 7, 2, 974)),
  (347, oi (.iload_n 1)),
  (348, oi (.bipush 40)),
  (350, oi .iastore),
  (351, oi (.iinc 1 1)),
  (354, (.goto (-17), 0, 0, 337, 0, 0)),
  (357, oi (.iconst 0)),
  (358, oi (.istore_n 1)),
  (359, oi (.iload_n 1)),
  (360, oi (.iconst 4)),
  (361, (.if_icmp .ge 25, 0, 0, 386, 0, 0)),
  (364, oi (.aload_n 0)),
  (365, (.getfield 32, 12, 12, 12, 2, 979)),
  (368, oi (.iload_n 1)),
  (369, oi (.bipush 10)),
  (371, oi .iastore),
  (372, oi (.aload_n 0)),
  (373, (.getfield 35, 13, 12, 13, 2, 980)),
  (376, oi (.iload_n 1)),
  (377, oi (.bipush 10)),
  (379, oi .iastore),
  (380, oi (.iinc 1 1)),
  (383, (.goto (-24), 0, 0, 359, 0, 0)),
  (386, oi (.iconst 0)),
  (387, oi (.istore_n 1)),
  (388, oi (.iload_n 1)),
  (389, oi (.bipush 6)),
  (391, (.if_icmp .ge 16, 0, 0, 407, 0, 0)),
  (394, oi (.aload_n 0)),
  (395, (.getfield 38, 14, 12, 14, 2, 981)),
  (398, oi (.iload_n 1)),
  (399, oi (.iconst 5)),
  (400, oi .iastore),
  (401, oi (.iinc 1 1)),
  (404, (.goto (-16), 0, 0, 388, 0, 0)),
  (407, oi (.iconst 0)),
  (408, oi (.istore_n 1)),
  (409, oi (.iload_n 1)),
  (410, oi (.bipush 10)),
  (412, (.if_icmp .ge 37, 0, 0, 449, 0, 0)),
  (415, oi (.aload_n 0)),
  (416, (.getfield 62, 23, 12, 23, 2, 990)),
  (419, oi (.iload_n 1)),
  (420, oi (.iload_n 1)),
  (421, (.ifCond .ne 8, 0, 0, 429, 0, 0)),
  (424, oi (.bipush (-6))),
  (426, (.goto 8, 0, 0, 434, 0, 0)),
  (429, oi (.iload_n 1)),
  (430, oi (.iconst 1)),
  (431, oi .isub),
  (432, oi (.iconst 2)),
  (433, oi .idiv),
  (434, oi .iastore),
  (435, oi (.aload_n 0)),
  (436, (.getfield 65, 24, 12, 24, 2, 991)),
  (439, oi (.iload_n 1)),
  (440, oi (.bipush 10)),
  (442, oi .iastore),
  (443, oi (.iinc 1 1)),
  (446, (.goto (-37), 0, 0, 409, 0, 0)),
  (449, oi .return_)]
def ccd : Nat → List (Nat × OP)
  | 0 => cd0
  | 1 => cd1
  | 2 => cd2
  | 3 => cd3
  | 4 => cd4
  | 5 => cd5
  | 6 => cd6
  | 7 => cd7
  | 8 => cd8
  | 9 => cd9
  | 10 => cd10
  | 11 => cd11
  | _ => cd12
def cxC : Nat → MX
  | 0 => (yX0_init, cX0_init, 1, none)
  | 1 => (yX1_init, cX1_init, 1, none)
  | 2 => (yX2_init, cX2_init, 2, none)
  | 3 => (yX3_init, cX3_init, 1, none)
  | 4 => (yX4_init, cX4_init, 1, none)
  | 5 => (yX5_init, cX5_init, 1, none)
  | 6 => (yX6_init, cX6_init, 1, none)
  | 7 => (yX7_init, cX7_init, 1, none)
  | 8 => (yX8_init, cX8_init, 1, none)
  | 9 => (yX9_init, cX9_init, 1, none)
  | 10 => (yX10_init, cX10_init, 1, none)
  | 11 => (yX11_init, cX11_init, 1, none)
  | _ => (yX12_init, cX12_init, 2, none)
def cfind : List (Nat × OP) → Nat → Option OP
  | [], _ => none
  | (q, x) :: r, pc => match Nat.beq q pc with
    | true => some x
    | false => cfind r pc
def isRefTy : Option FieldType → Bool
  | some (.array _) => true
  | some (.object _) => true
  | _ => false
def okC (cx : MX) (pc : Nat) (ins : Instr) (z : Int) (a b t pos : Nat) : Bool := match ins with
  | .return_ => decide (decode cx.2.1 pc = .ok (.return_, 1))
  | .new i => decide (decode cx.2.1 pc = .ok (.new i, 3)) && (match gt classes a with
    | some (C, _, N) => okL pos (.classLink cx.1.cls i C) && okL b (.instantiable C N) && okL t (.initialized C)
    | none => false)
  | .newarray ty => decide (decode cx.2.1 pc = .ok (.newarray ty, 2)) && decide (ty = atyp t) && decide (t < 3) && okL pos (.arrayClass (newarray.typeOf ty))
  | .invokespecial i => decide (decode cx.2.1 pc = .ok (.invokespecial i, 3)) && (match Nat.beq a 999 with
    | true => okL pos (.methodLink cx.1.cls i objectInit)
    | false => okL pos (.methodLink cx.1.cls i (cxC a).1) && decide (a < 13))
  | .if_icmp c off => decide (decode cx.2.1 pc = .ok (.if_icmp c off, 3)) && decide ((pc : Int) + off = (b : Int))
  | .ifCond c off => decide (decode cx.2.1 pc = .ok (.ifCond c off, 3)) && decide ((pc : Int) + off = (b : Int))
  | .putfield i => match Nat.beq t 2 with
    | true => decide (decode cx.2.1 pc = .ok (.putfield i, 3)) && (match gt classes a with
      | some (_, T, N) => decide (b < N) && okL pos (.fieldLink cx.1.cls i (T b).1 (T b).2.1 (T b).2.2.1) && decide ((T b).2.2.2 = true) && decide (cx.1.name = "<init>") && decide ((T b).1 = cx.1.cls) && isRefTy (parseFieldDescriptor (T b).2.2.1)
      | none => false)
    | false => decide (decode cx.2.1 pc = .ok (ins, iln ins)) && okX cx pc ins z a b t pos
  | _ => decide (decode cx.2.1 pc = .ok (ins, iln ins)) && okX cx pc ins z a b t pos
def okCs (cx : MX) : List (Nat × OP) → Bool
  | [] => true
  | (pc, ins, z, a, b, t, pos) :: r => okC cx pc ins z a b t pos && okCs cx r
theorem okc0 : okCs (cxC 0) cd0 = true := by decide +kernel
theorem okc1 : okCs (cxC 1) cd1 = true := by decide +kernel
theorem okc2 : okCs (cxC 2) cd2 = true := by decide +kernel
theorem okc3 : okCs (cxC 3) cd3 = true := by decide +kernel
theorem okc4 : okCs (cxC 4) cd4 = true := by decide +kernel
theorem okc5 : okCs (cxC 5) cd5 = true := by decide +kernel
theorem okc6 : okCs (cxC 6) cd6 = true := by decide +kernel
theorem okc7 : okCs (cxC 7) cd7 = true := by decide +kernel
theorem okc8 : okCs (cxC 8) cd8 = true := by decide +kernel
theorem okc9 : okCs (cxC 9) cd9 = true := by decide +kernel
theorem okc10 : okCs (cxC 10) cd10 = true := by decide +kernel
theorem okc11 : okCs (cxC 11) cd11 = true := by decide +kernel
theorem okc12 : okCs (cxC 12) cd12 = true := by decide +kernel
theorem okc_all : ∀ mi, mi < 13 → okCs (cxC mi) (ccd mi) = true := by
  intro mi h
  match mi, h with
  | 0, _ => exact okc0
  | 1, _ => exact okc1
  | 2, _ => exact okc2
  | 3, _ => exact okc3
  | 4, _ => exact okc4
  | 5, _ => exact okc5
  | 6, _ => exact okc6
  | 7, _ => exact okc7
  | 8, _ => exact okc8
  | 9, _ => exact okc9
  | 10, _ => exact okc10
  | 11, _ => exact okc11
  | 12, _ => exact okc12
  | n + 13, h => omega
theorem okCs_find {cx : MX} : ∀ (l : List (Nat × OP)) {pc : Nat} {ins : Instr} {z : Int} {a b t pos : Nat}, okCs cx l = true → cfind l pc = some (ins, z, a, b, t, pos) → okC cx pc ins z a b t pos = true
  | [], _, _, _, _, _, _, _, _, h => by cases h
  | (q, i2, z2, a2, b2, t2, p2) :: r, pc, ins, z, a, b, t, pos, ho, h => by
    simp only [okCs, Bool.and_eq_true] at ho
    simp only [cfind] at h
    split at h
    · rename_i hq
      have := Nat.eq_of_beq_eq_true hq
      subst this
      cases h
      exact ho.1
    · exact okCs_find r ho.2 h
def mkI : Nat → Nat × Nat × Nat
  | 0 => (47, 238, 237)
  | 1 => (43, 76, 75)
  | 2 => (44, 148, 147)
  | 3 => (42, 70, 69)
  | 4 => (51, 346, 345)
  | 5 => (50, 336, 335)
  | 6 => (52, 356, 355)
  | 7 => (49, 300, 299)
  | 8 => (45, 173, 172)
  | 9 => (46, 205, 204)
  | 10 => (48, 281, 280)
  | 11 => (41, 62, 61)
  | _ => (53, 965, 964)
theorem mkI_ok : ∀ mi, mi < 13 → MokB (cxC mi) 0 ∧ Cond.instanceMethod (cxC mi).1 ∈ lwg ∧ (cxC mi).1.name = "<init>" ∧ (cxC mi).2.2.2 = none ∧ 8 + ((cxC mi).2.2.1 + 11) ≤ 64 ∧ 1 ≤ (cxC mi).2.2.1 := by
  intro mi h
  have hb : mokB (cxC mi) 0 (mkI mi).1 (mkI mi).2.1 = true ∧ okL (mkI mi).2.2 (.instanceMethod (cxC mi).1) = true ∧ (cxC mi).1.name = "<init>" ∧ (cxC mi).2.2.2 = none ∧ 8 + ((cxC mi).2.2.1 + 11) ≤ 64 ∧ 1 ≤ (cxC mi).2.2.1 := by
    revert mi
    decide +kernel
  exact ⟨mokB_of hb.1, okL_mem hb.2.1, hb.2.2⟩
def cmpb : Jvm.ClassFile.Cond → Int → Int → Bool
  | .eq, x, y => decide (x = y)
  | .ne, x, y => decide (¬ x = y)
  | .lt, x, y => decide (x < y)
  | .ge, x, y => decide (y ≤ x)
  | .gt, x, y => decide (y < x)
  | .le, x, y => decide (x ≤ y)
def r32b (x : Int) : Bool := decide (R32 x)
def csb : List (Int × Int) → Bool
  | [] => true
  | (i, n) :: r => decide (0 ≤ i) && decide (i < n) && csb r
theorem csb_ok : ∀ (l : List (Int × Int)), csb l = true → CS l
  | [], _ => trivial
  | (i, n) :: r, h => by
    simp only [csb, Bool.and_eq_true, decide_eq_true_eq] at h
    exact ⟨h.1, csb_ok r h.2⟩
def crun : Nat → Nat → Nat → Nat → List AV → List AV → List SH → MM → ML → Option (List SH × MM × ML)
  | 0, _, _, _, _, _, _, _, _ => none
  | f + 1, d, mi, pc, ls, st, S, μ, ν => match cfind (ccd mi) pc with
    | none => none
    | some (ins, z, a, b, t, _) => match ins with
      | .return_ => match st with
        | [] => some (S, μ, ν)
        | _ => none
      | .new _ => match gt classes a with
        | some (_, T, N) => crun f d mi (pc + 3) ls (aR S.length :: st) (S ++ [.inr (a, dflT T N)]) (clr μ S.length) (clrL ν S.length)
        | none => none
      | .newarray _ => match st with
        | .inl n :: r => match decide (0 ≤ n) && decide (n < 10000) with
          | true => crun f d mi (pc + 2) ls (aR S.length :: r) (S ++ [.inl (t, n.toNat)]) (clr μ S.length) (clrL ν S.length)
          | false => none
        | _ => none
      | .invokespecial _ => match st with
        | .inr (.inr (.inl x)) :: r => match Nat.ble (2 * r.length) 8 with
          | true => match d with
            | 0 => none
            | d' + 1 => match Nat.beq a 999 with
              | true => crun f (d' + 1) mi (pc + 3) ls r S μ ν
              | false => match crun f d' a 0 (entL [aR x] (cxC a).2.2.1) [] S μ ν with
                | some (S1, μ1, ν1) => crun f (d' + 1) mi (pc + 3) ls r S1 μ1 ν1
                | none => none
          | false => none
        | _ => none
      | .if_icmp c _ => match st with
        | .inl y :: .inl x :: r => match r32b x && r32b y with
          | true => crun f d mi (if cmpb c x y = true then b else pc + 3) ls r S μ ν
          | false => none
        | _ => none
      | .ifCond c _ => match st with
        | .inl x :: r => match r32b x with
          | true => crun f d mi (if cmpb c x 0 = true then b else pc + 3) ls r S μ ν
          | false => none
        | _ => none
      | .putfield i => match Nat.beq t 2 with
        | true => match st with
          | .inr (.inr (.inl y)) :: .inr (.inr (.inl x)) :: r => match gt S x with
            | some (.inr (ci, fs)) => match Nat.beq ci a && Nat.blt b fs.length with
              | true => crun f d mi (pc + 3) ls r (S.set x (.inr (a, fs.set b (some (aR y))))) μ ν
              | false => none
            | _ => none
          | _ => none
        | false => match sstep (.putfield i) z a b t ls st S μ ν [] with
          | some (ls', st', μ', ν', cs) => match csb cs with
            | true => crun f d mi (npc (.putfield i) b pc) ls' st' S μ' ν'
            | false => none
          | none => none
      | i => match sstep i z a b t ls st S μ ν [] with
        | some (ls', st', μ', ν', cs) => match csb cs with
          | true => crun f d mi (npc i b pc) ls' st' S μ' ν'
          | false => none
        | none => none
def PostEq (S1 : List SH) (μ1 : MM) (ν1 : ML) : Option AV → List SH → MM → ML → Prop := fun r S μ ν => r = none ∧ S = S1 ∧ μ = μ1 ∧ ν = ν1
theorem SmallS.push {S : List SH} {sh : SH} (h : SmallS S) (hs : ∀ t n, sh = .inl (t, n) → n < 2147483648) : SmallS (S ++ [sh]) := by
  intro x t n hx
  by_cases hl : x < S.length
  · rw [List.getElem?_append_left hl] at hx
    exact h x t n hx
  · rw [List.getElem?_append_right (by omega)] at hx
    have := List.mem_of_getElem? hx
    exact hs t n (List.mem_singleton.mp this).symm
theorem SmallS.set {S : List SH} {x ci : Nat} {fs : List (Option AV)} (h : SmallS S) : SmallS (S.set x (.inr (ci, fs))) := by
  intro y t n hy
  by_cases hxy : x = y
  · subst hxy
    by_cases hl : x < S.length
    · rw [List.getElem?_set_self hl] at hy
      cases hy
    · rw [List.getElem?_eq_none (by simp; omega)] at hy
      cases hy
  · rw [List.getElem?_set_ne hxy] at hy
    exact h y t n hy
set_option maxHeartbeats 4000000 in
theorem crun_ok (κ : KX) : ∀ (f d mi pc : Nat) (ls st : List AV) (S S1 : List SH) (μ μ1 : MM) (ν ν1 : ML), mi < 13 → crun f d mi pc ls st S μ ν = some (S1, μ1, ν1) → S.length ≤ S1.length ∧ szS S ≤ szS S1 ∧ ∀ cells slots mc ms : Nat, cells + (S1.length - S.length) = mc → slots + (szS S1 - szS S) = ms → AW κ (cxC mi) (rmv d mc ms) (mq κ (PostEq S1 μ1 ν1) mc ms) cells slots S pc ls st μ ν := by
  intro f
  induction f with
  | zero => intro d mi pc ls st S S1 μ μ1 ν ν1 _ h; cases h
  | succ f ih =>
    intro d mi pc ls st S S1 μ μ1 ν ν1 hmi h
    simp only [crun] at h
    split at h
    · cases h
    · rename_i ins z a b t pos hf
      have hok := okCs_find (ccd mi) (okc_all mi hmi) hf
      split at h
      · -- return
        split at h
        · cases h
          refine ⟨Nat.le_refl _, Nat.le_refl _, fun cells slots mc ms h1 h2 => ?_⟩
          exact aw_vret (of_decide_eq_true hok) (mkI_ok mi hmi).2.2.2.1 (by omega) (by omega) ⟨rfl, rfl, rfl, rfl⟩
        · cases h
      · -- new
        rename_i i
        simp only [okC, Bool.and_eq_true] at hok
        split at h
        · rename_i C T N hg
          rw [hg] at hok
          simp only [Bool.and_eq_true] at hok
          rw [gt_eq] at hg
          obtain ⟨h1, h2, h3⟩ := ih d mi _ _ _ _ _ _ _ _ _ hmi h
          have hz : szS (S ++ [Sum.inr (a, dflT T N)]) = szS S + N := by rw [szS_app]; simp [shSz, dflT]
          rw [hz] at h2
          rw [List.length_append, List.length_singleton] at h1
          refine ⟨by omega, by omega, fun cells slots mc ms hc hs => ?_⟩
          intro hSm p l e s m args below meth c F
          refine ss_new F (of_decide_eq_true hok.1) hg (okL_mem hok.2.1.1) (okL_mem hok.2.1.2) (okL_mem hok.2.2) (by show cells + 1 ≤ mc; omega) (by show slots + N ≤ ms; omega) ?_
          exact h3 (cells + 1) (slots + N) mc ms (by rw [List.length_append, List.length_singleton]; omega) (by rw [hz]; omega) (hSm.push (fun t n he => by cases he)) p l e s m args below meth c F
        · cases h
      · -- newarray
        rename_i ty
        simp only [okC, Bool.and_eq_true, decide_eq_true_eq] at hok
        obtain ⟨⟨⟨ho1, ho2⟩, ho3⟩, ho4⟩ := hok
        subst ho2
        split at h
        · rename_i n r
          split at h
          · rename_i hn
            simp only [Bool.and_eq_true, decide_eq_true_eq] at hn
            obtain ⟨h1, h2, h3⟩ := ih d mi _ _ _ _ _ _ _ _ _ hmi h
            have hz : szS (S ++ [Sum.inl (t, n.toNat)]) = szS S + n.toNat := by rw [szS_app]; simp [shSz]
            rw [hz] at h2
            rw [List.length_append, List.length_singleton] at h1
            refine ⟨by omega, by omega, fun cells slots mc ms hc hs => ?_⟩
            intro hSm p l e s m args below meth c F
            refine ss_newa F ho3 ho1 (okL_mem ho4) hn.1 hn.2 (by show cells + 1 ≤ mc; omega) (by show slots + n.toNat ≤ ms; omega) ?_
            exact h3 (cells + 1) (slots + n.toNat) mc ms (by rw [List.length_append, List.length_singleton]; omega) (by rw [hz]; omega) (hSm.push (fun t n he => by cases he; omega)) p l e s m args below meth c F
          · cases h
        · cases h
      · -- invokespecial
        rename_i i
        simp only [okC, Bool.and_eq_true, decide_eq_true_eq] at hok
        split at h
        · rename_i x r
          split at h
          · rename_i hr
            have hr := Nat.le_of_ble_eq_true hr
            split at h
            · cases h
            · rename_i d'
              split at h
              · rename_i ha
                rw [ha] at hok
                obtain ⟨h1, h2, h3⟩ := ih _ mi _ _ _ _ _ _ _ _ _ hmi h
                refine ⟨h1, h2, fun cells slots mc ms hc hs => ?_⟩
                intro hSm p l e s m args below meth c F
                refine ss_objInit F hok.1 (okL_mem hok.2) (okL_mem (pos := 64) (by decide +kernel)) (okL_mem (pos := 65) (by decide +kernel)) hr (by show 1 ≤ d' + 1; omega) (by show 20 ≤ 64 * (d' + 1); omega) ?_
                exact h3 cells slots mc ms hc hs hSm p l e s m args below meth c F
              · rename_i ha
                rw [ha] at hok
                simp only [Bool.and_eq_true, decide_eq_true_eq] at hok
                obtain ⟨hk1, hk2, hk3, hk4, hk5, hk6⟩ := mkI_ok a hok.2.2
                split at h
                · rename_i S2 μ2 ν2 hcall
                  obtain ⟨g1, g2, g3⟩ := ih _ a _ _ _ _ _ _ _ _ _ hok.2.2 hcall
                  obtain ⟨h1, h2, h3⟩ := ih _ mi _ _ _ _ _ _ _ _ _ hmi h
                  refine ⟨by omega, by omega, fun cells slots mc ms hc hs => ?_⟩
                  intro hSm p l e s m args below meth c F
                  have hM : AMet κ d' (cxC a) [aR x] S μ ν (PostEq S2 μ2 ν2) (S2.length - S.length) (szS S2 - szS S) := AMet.of hk1 (by simp [flatA]; exact hk6) rfl (g3 0 0 _ _ (by omega) (by omega))
                  refine ss_callI F hSm hM hk1 hk2 hk3 hk4 hok.1 (okL_mem hok.2.1) hr ⟨by show d' + 1 ≤ d' + 1; omega, by show 8 + ((cxC a).2.2.1 + 11) + 64 * d' ≤ 64 * (d' + 1); omega⟩ ⟨by show cells + _ ≤ mc; omega, by show slots + _ ≤ ms; omega⟩ ?_
                  intro r2 S3 μ3 ν3 hp hsm
                  obtain ⟨rfl, rfl, rfl, rfl⟩ := hp
                  exact h3 _ _ mc ms (by omega) (by omega) hsm p l e s m args below meth c F
                · cases h
          · cases h
        · cases h
      · -- if_icmp
        rename_i cc off
        simp only [okC, Bool.and_eq_true, decide_eq_true_eq] at hok
        split at h
        · rename_i y x r
          split at h
          · rename_i hr
            simp only [r32b, Bool.and_eq_true, decide_eq_true_eq] at hr
            obtain ⟨h1, h2, h3⟩ := ih d mi _ _ _ _ _ _ _ _ _ hmi h
            refine ⟨h1, h2, fun cells slots mc ms hc hs => ?_⟩
            have h4 := h3 cells slots mc ms hc hs
            cases cc
            · exact aw_icmp_eq hok.1 hok.2 hr.1 hr.2 (fun q => by simpa [cmpb, q] using h4) (fun q => by simpa [cmpb, q] using h4)
            · exact aw_icmp_ne hok.1 hok.2 hr.1 hr.2 (fun q => by simpa [cmpb, q] using h4) (fun q => by simpa [cmpb, q] using h4)
            · exact aw_icmp_lt hok.1 hok.2 hr.1 hr.2 (fun q => by simpa [cmpb, q] using h4) (fun q => by simp only [cmpb, q, decide_false, Bool.false_eq_true, if_false] at h4; exact h4)
            · exact aw_icmp_ge hok.1 hok.2 hr.1 hr.2 (fun q => by simpa [cmpb, q] using h4) (fun q => by simp only [cmpb, q, decide_false, Bool.false_eq_true, if_false] at h4; exact h4)
            · exact aw_icmp_gt hok.1 hok.2 hr.1 hr.2 (fun q => by simpa [cmpb, q] using h4) (fun q => by simp only [cmpb, q, decide_false, Bool.false_eq_true, if_false] at h4; exact h4)
            · exact aw_icmp_le hok.1 hok.2 hr.1 hr.2 (fun q => by simpa [cmpb, q] using h4) (fun q => by simp only [cmpb, q, decide_false, Bool.false_eq_true, if_false] at h4; exact h4)
          · cases h
        · cases h
      · -- ifCond
        rename_i cc off
        simp only [okC, Bool.and_eq_true, decide_eq_true_eq] at hok
        split at h
        · rename_i x r
          split at h
          · rename_i hr
            simp only [r32b, decide_eq_true_eq] at hr
            obtain ⟨h1, h2, h3⟩ := ih d mi _ _ _ _ _ _ _ _ _ hmi h
            refine ⟨h1, h2, fun cells slots mc ms hc hs => ?_⟩
            have h4 := h3 cells slots mc ms hc hs
            cases cc
            · exact aw_if_eq hok.1 hok.2 hr (fun q => by simpa [cmpb, q] using h4) (fun q => by simpa [cmpb, q] using h4)
            · exact aw_if_ne hok.1 hok.2 hr (fun q => by simpa [cmpb, q] using h4) (fun q => by simpa [cmpb, q] using h4)
            · exact aw_if_lt hok.1 hok.2 hr (fun q => by simpa [cmpb, q] using h4) (fun q => by simp only [cmpb, q, decide_false, Bool.false_eq_true, if_false] at h4; exact h4)
            · exact aw_if_ge hok.1 hok.2 hr (fun q => by simpa [cmpb, q] using h4) (fun q => by simp only [cmpb, q, decide_false, Bool.false_eq_true, if_false] at h4; exact h4)
            · exact aw_if_gt hok.1 hok.2 hr (fun q => by simpa [cmpb, q] using h4) (fun q => by simp only [cmpb, q, decide_false, Bool.false_eq_true, if_false] at h4; exact h4)
            · exact aw_if_le hok.1 hok.2 hr (fun q => by simpa [cmpb, q] using h4) (fun q => by simp only [cmpb, q, decide_false, Bool.false_eq_true, if_false] at h4; exact h4)
          · cases h
        · cases h
      · -- putfield
        rename_i i
        simp only [okC] at hok
        split at h
        · rename_i ht
          rw [ht] at hok
          simp only [Bool.and_eq_true, decide_eq_true_eq] at hok
          split at h
          · rename_i y x r
            split at h
            · rename_i ci fs hsh
              rw [gt_eq] at hsh
              split at h
              · rename_i hb
                simp only [Bool.and_eq_true, Nat.blt_eq] at hb
                have hci := Nat.eq_of_beq_eq_true hb.1
                subst hci
                cases hg : gt classes ci with
                | none => rw [hg] at hok; cases hok.2
                | some q =>
                  obtain ⟨C, T, N⟩ := q
                  rw [hg] at hok
                  simp only [Bool.and_eq_true, decide_eq_true_eq] at hok
                  rw [gt_eq] at hg
                  obtain ⟨ho1, ⟨⟨⟨⟨ho2, ho3⟩, ho4⟩, ho5⟩, ho6⟩, ho7⟩ := hok
                  obtain ⟨h1, h2, h3⟩ := ih d mi _ _ _ _ _ _ _ _ _ hmi h
                  rw [List.length_set] at h1
                  have hz : szS (S.set x (.inr (ci, fs.set b (some (aR y))))) = szS S := szS_set S x _ _ hsh (by simp [shSz])
                  rw [hz] at h2
                  refine ⟨h1, h2, fun cells slots mc ms hc hs => ?_⟩
                  intro hSm p l e s m args below meth c F
                  cases hty : parseFieldDescriptor (T b).2.2.1 with
                  | none => rw [hty] at ho7; cases ho7
                  | some ty =>
                    rw [hty] at ho7
                    have hnf : narrow ty (cvA κ (aR y)) = cvA κ (aR y) ∧ fits ty (cvA κ (aR y)) = true := by
                      cases ty <;> first | exact ⟨rfl, rfl⟩ | cases ho7
                    refine ss_putR F ho1 hg ho2 (okL_mem ho3) ho4 ho5 ho6 hty hnf.1 hnf.2 hsh hb.2 ?_
                    exact h3 cells slots mc ms (by rw [List.length_set]; exact hc) (by rw [hz]; exact hs) hSm.set p l e s m args below meth c F
              · cases h
            · cases h
          · cases h
        · rename_i ht
          rw [ht] at hok
          simp only [Bool.and_eq_true, decide_eq_true_eq] at hok
          split at h
          · rename_i ls2 st2 μ2 ν2 cs hs
            split at h
            · rename_i hcs
              obtain ⟨h1, h2, h3⟩ := ih d mi _ _ _ _ _ _ _ _ _ hmi h
              refine ⟨h1, h2, fun cells slots mc ms hc hsl => ?_⟩
              intro hSm p l e s m args below meth c F
              exact (sstep_ok F hSm hok.1 hok.2 hs (csb_ok cs hcs) (h3 cells slots mc ms hc hsl hSm p l e s m args below meth c F)).2
            · cases h
          · cases h
      · -- the rest
        rename_i h1 h2 h3 h4 h5 h6 h7
        have hok2 : decode (cxC mi).2.1 pc = .ok (ins, iln ins) ∧ okX (cxC mi) pc ins z a b t pos = true := by
          cases ins
          case return_ => exact absurd rfl h1
          case new i => exact absurd rfl (h2 i)
          case newarray i => exact absurd rfl (h3 i)
          case invokespecial i => exact absurd rfl (h4 i)
          case if_icmp i j => exact absurd rfl (h5 i j)
          case ifCond i j => exact absurd rfl (h6 i j)
          case putfield i => exact absurd rfl (h7 i)
          all_goals (simp only [okC, Bool.and_eq_true, decide_eq_true_eq] at hok; exact hok)
        split at h
        · rename_i ls2 st2 μ2 ν2 cs hs
          split at h
          · rename_i hcs
            obtain ⟨h1, h2, h3⟩ := ih d mi _ _ _ _ _ _ _ _ _ hmi h
            refine ⟨h1, h2, fun cells slots mc ms hc hsl => ?_⟩
            intro hSm p l e s m args below meth c F
            exact (sstep_ok F hSm hok2.1 hok2.2 hs (csb_ok cs hcs) (h3 cells slots mc ms hc hsl hSm p l e s m args below meth c F)).2
          · cases h
        · cases h
end
section
/-! ===== the heap behind the two constructors ===== -/
abbrev muZ : MM := fun _ _ => 0
abbrev nuZ : ML := fun _ _ => 0
def SX : List SH := [.inr (11, [some (aR 1), some (aR 2), some (aR 14), some (aR 17), some (aR 23), some (aR 25), some (aR 33), some (aR 38), some (aR 47), some (aR 49), some (aR 51), none, none]),
  .inl (0, 7),
  .inr (3, [some (aR 3), some (aR 4), some (aR 5), some (aR 6), some (aR 7), some (aR 8), some (aR 9), none, none]),
  .inl (0, 160),
  .inl (0, 160),
  .inl (1, 10),
  .inl (0, 40),
  .inl (0, 10),
  .inl (0, 10),
  .inr (1, [some (aR 10), some (aR 11), some (aR 12), some (aR 13), none, none, none, none]),
  .inl (0, 44),
  .inl (0, 16),
  .inl (0, 4),
  .inl (0, 4),
  .inr (2, [some (aR 15), some (aR 16), none, none]),
  .inl (0, 60),
  .inl (0, 24),
  .inr (8, [some (aR 18), none, some (aR 19), some (aR 20), some (aR 21), some (aR 22), none, none]),
  .inl (0, 40),
  .inl (0, 6),
  .inl (1, 6),
  .inl (0, 6),
  .inl (0, 6),
  .inr (9, [some (aR 24), none, none, none, none, none, none]),
  .inl (0, 8),
  .inr (0, [some (aR 26), some (aR 28), some (aR 29), some (aR 30), some (aR 31), some (aR 32), none, none, none, none, none]),
  .inr (9, [some (aR 27), none, none, none, none, none, none]),
  .inl (0, 8),
  .inl (0, 60),
  .inl (0, 8),
  .inl (0, 8),
  .inl (0, 8),
  .inl (0, 8),
  .inr (10, [some (aR 34), some (aR 35), some (aR 36), some (aR 37)]),
  .inl (0, 4),
  .inl (0, 4),
  .inl (0, 6),
  .inl (0, 24),
  .inr (7, [some (aR 39), some (aR 40), some (aR 41), some (aR 42), some (aR 43), none, some (aR 44), some (aR 45), some (aR 46)]),
  .inl (0, 12),
  .inl (0, 12),
  .inl (0, 12),
  .inl (0, 12),
  .inl (0, 12),
  .inl (0, 8),
  .inl (2, 48),
  .inl (0, 48),
  .inr (5, [some (aR 48)]),
  .inl (0, 8),
  .inr (4, [some (aR 50)]),
  .inl (0, 24),
  .inr (6, [some (aR 52), some (aR 53), some (aR 54)]),
  .inl (0, 10),
  .inl (0, 10),
  .inl (1, 10)]
def S0 : List SH := [.inr (11, [some (aR 1), some (aR 2), some (aR 14), some (aR 17), some (aR 23), some (aR 25), some (aR 33), some (aR 38), some (aR 47), some (aR 49), some (aR 51), none, none]),
  .inl (0, 7),
  .inr (3, [some (aR 3), some (aR 4), some (aR 5), some (aR 6), some (aR 7), some (aR 8), some (aR 9), none, none]),
  .inl (0, 160),
  .inl (0, 160),
  .inl (1, 10),
  .inl (0, 40),
  .inl (0, 10),
  .inl (0, 10),
  .inr (1, [some (aR 10), some (aR 11), some (aR 12), some (aR 13), none, none, none, none]),
  .inl (0, 44),
  .inl (0, 16),
  .inl (0, 4),
  .inl (0, 4),
  .inr (2, [some (aR 15), some (aR 16), none, none]),
  .inl (0, 60),
  .inl (0, 24),
  .inr (8, [some (aR 18), none, some (aR 19), some (aR 20), some (aR 21), some (aR 22), none, none]),
  .inl (0, 40),
  .inl (0, 6),
  .inl (1, 6),
  .inl (0, 6),
  .inl (0, 6),
  .inr (9, [some (aR 24), none, none, none, none, none, none]),
  .inl (0, 8),
  .inr (0, [some (aR 26), some (aR 28), some (aR 29), some (aR 30), some (aR 31), some (aR 32), none, none, none, none, none]),
  .inr (9, [some (aR 27), none, none, none, none, none, none]),
  .inl (0, 8),
  .inl (0, 60),
  .inl (0, 8),
  .inl (0, 8),
  .inl (0, 8),
  .inl (0, 8),
  .inr (10, [some (aR 34), some (aR 35), some (aR 36), some (aR 37)]),
  .inl (0, 4),
  .inl (0, 4),
  .inl (0, 6),
  .inl (0, 24),
  .inr (7, [some (aR 39), some (aR 40), some (aR 41), some (aR 42), some (aR 43), none, some (aR 44), some (aR 45), some (aR 46)]),
  .inl (0, 12),
  .inl (0, 12),
  .inl (0, 12),
  .inl (0, 12),
  .inl (0, 12),
  .inl (0, 8),
  .inl (2, 48),
  .inl (0, 48),
  .inr (5, [some (aR 48)]),
  .inl (0, 8),
  .inr (4, [some (aR 50)]),
  .inl (0, 24),
  .inr (6, [some (aR 52), some (aR 53), some (aR 54)]),
  .inl (0, 10),
  .inl (0, 10),
  .inl (1, 10),
  .inr (12, [none, some (aR 56), some (aR 57), some (aR 58), none, some (aR 59), none, some (aR 60), none, some (aR 61), none, some (aR 62), some (aR 63), some (aR 64), some (aR 65), some (aR 66), none, some (aR 67), some (aR 68), some (aR 69), some (aR 70), some (aR 71), some (aR 72), some (aR 73), some (aR 74), some (aR 75), some (aR 76), some (aR 77), some (aR 78), some (aR 79), some (aR 80), none, none, none, none, some (aR 81), some (aR 82)]),
  .inl (0, 160),
  .inl (1, 10),
  .inl (0, 7),
  .inl (0, 24),
  .inl (0, 60),
  .inl (0, 40),
  .inl (0, 40),
  .inl (0, 4),
  .inl (0, 4),
  .inl (0, 6),
  .inl (0, 24),
  .inl (0, 60),
  .inl (0, 8),
  .inl (1, 2880),
  .inl (0, 48),
  .inl (0, 8),
  .inl (0, 24),
  .inl (0, 10),
  .inl (0, 10),
  .inl (1, 10),
  .inl (0, 40),
  .inl (0, 160),
  .inl (0, 10),
  .inl (0, 10),
  .inl (0, 44),
  .inl (0, 8),
  .inl (0, 8)]
def run1 : Option (List SH × MM × ML) := crun 3000 5 11 0 [aR 0] [] [.inr (11, dflT TX11 13)] (clr muZ 0) (clrL nuZ 0)
def mu1 : MM := match run1 with
  | some (_, μ, _) => μ
  | none => muZ
def nu1 : ML := match run1 with
  | some (_, _, ν) => ν
  | none => nuZ
def run2 : Option (List SH × MM × ML) := crun 5000 5 12 0 [aR 55, aU] [] (SX ++ [.inr (12, dflT TX12 37)]) (clr mu1 55) (clrL nu1 55)
def mu0 : MM := match run2 with
  | some (_, μ, _) => μ
  | none => muZ
def nu0 : ML := match run2 with
  | some (_, _, ν) => ν
  | none => nuZ
def foEq (a b : Option AV) : Bool := decide (a = b)
def lEq {α : Type} (eq : α → α → Bool) : List α → List α → Bool
  | [], [] => true
  | a :: r, b :: t => eq a b && lEq eq r t
  | _, _ => false
theorem lEq_ok {α : Type} {eq : α → α → Bool} (h : ∀ a b, eq a b = true → a = b) : ∀ l t : List α, lEq eq l t = true → l = t
  | [], [], _ => rfl
  | a :: r, b :: t, q => by
    simp only [lEq, Bool.and_eq_true] at q
    rw [h a b q.1, lEq_ok h r t q.2]
  | [], b :: t, q => by cases q
  | a :: r, [], q => by cases q
def shEq : SH → SH → Bool
  | .inl (a, b), .inl (c, d) => Nat.beq a c && Nat.beq b d
  | .inr (a, b), .inr (c, d) => Nat.beq a c && lEq foEq b d
  | _, _ => false
theorem shEq_ok : ∀ a b : SH, shEq a b = true → a = b
  | .inl (a, b), .inl (c, d), q => by
    simp only [shEq, Bool.and_eq_true] at q
    rw [Nat.eq_of_beq_eq_true q.1, Nat.eq_of_beq_eq_true q.2]
  | .inr (a, b), .inr (c, d), q => by
    simp only [shEq, Bool.and_eq_true] at q
    rw [Nat.eq_of_beq_eq_true q.1, lEq_ok (fun x y h => of_decide_eq_true h) b d q.2]
  | .inl (a, b), .inr (c, d), q => by cases q
  | .inr (a, b), .inl (c, d), q => by cases q
def isS (x : Option (List SH × MM × ML)) (S : List SH) : Bool := match x with
  | some (T, _, _) => lEq shEq T S
  | none => false
theorem isS_ok {x : Option (List SH × MM × ML)} {S : List SH} (h : isS x S = true) : x.map (fun q => q.1) = some S := by
  unfold isS at h
  split at h
  · rw [lEq_ok shEq_ok _ _ h]; rfl
  · cases h
theorem run1_S : run1.map (fun q => q.1) = some SX := isS_ok (by decide +kernel)
theorem run2_S : run2.map (fun q => q.1) = some S0 := isS_ok (by decide +kernel)
theorem run1_eq : run1 = some (SX, mu1, nu1) := by
  have h := run1_S
  unfold mu1 nu1
  revert h
  cases run1 with
  | none => intro h; cases h
  | some q => obtain ⟨a, b, c⟩ := q; intro h; cases h; rfl
theorem run2_eq : run2 = some (S0, mu0, nu0) := by
  have h := run2_S
  unfold mu0 nu0
  revert h
  cases run2 with
  | none => intro h; cases h
  | some q => obtain ⟨a, b, c⟩ := q; intro h; cases h; rfl
end

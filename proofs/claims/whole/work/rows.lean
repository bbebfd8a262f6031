section
-- ===== PART A: goes FIRST, ahead of the names: the tables' words, and 'selects' of the private methods out of them =====
/-- a private method of a class that the tables say can be made, by its rows of tables_1 -/
def lw_okq (q : MethodName × Nat) : Prop := (q.1.cls ≠ "java/lang/invoke/MethodHandle" ∧ q.1.cls ≠ "java/lang/invoke/VarHandle") ∧ Cond.instantiable q.1.cls q.2 ∈ tables_1 ∧ Cond.privateMethod q.1 ∈ tables_1 ∧ Cond.instanceMethod q.1 ∈ tables_1
theorem lw_p0 : lw_okq (⟨"FilmLines", "forgetShows", "()V"⟩, 13) := ⟨⟨by decide +kernel, by decide +kernel⟩, List.mem_of_getElem? (i := 19) (by decide +kernel), List.mem_of_getElem? (i := 417) (by decide +kernel), List.mem_of_getElem? (i := 418) (by decide +kernel)⟩
theorem lw_p1 : lw_okq (⟨"FilmLines$Cutter", "gather", "(IZ)V"⟩, 8) := ⟨⟨by decide +kernel, by decide +kernel⟩, List.mem_of_getElem? (i := 33) (by decide +kernel), List.mem_of_getElem? (i := 449) (by decide +kernel), List.mem_of_getElem? (i := 450) (by decide +kernel)⟩
theorem lw_p2 : lw_okq (⟨"FilmLines$Cutter", "bestMoved", "(I)I"⟩, 8) := ⟨⟨by decide +kernel, by decide +kernel⟩, List.mem_of_getElem? (i := 33) (by decide +kernel), List.mem_of_getElem? (i := 453) (by decide +kernel), List.mem_of_getElem? (i := 454) (by decide +kernel)⟩
theorem lw_p3 : lw_okq (⟨"FilmLines$Cutter", "tryBlock", "(III)V"⟩, 8) := ⟨⟨by decide +kernel, by decide +kernel⟩, List.mem_of_getElem? (i := 33) (by decide +kernel), List.mem_of_getElem? (i := 464) (by decide +kernel), List.mem_of_getElem? (i := 465) (by decide +kernel)⟩
theorem lw_p4 : lw_okq (⟨"FilmLines$Cutter", "weigh", "(II)V"⟩, 8) := ⟨⟨by decide +kernel, by decide +kernel⟩, List.mem_of_getElem? (i := 33) (by decide +kernel), List.mem_of_getElem? (i := 468) (by decide +kernel), List.mem_of_getElem? (i := 469) (by decide +kernel)⟩
theorem lw_p5 : lw_okq (⟨"FilmLines$Cutter", "tryWay", "(IIII)V"⟩, 8) := ⟨⟨by decide +kernel, by decide +kernel⟩, List.mem_of_getElem? (i := 33) (by decide +kernel), List.mem_of_getElem? (i := 475) (by decide +kernel), List.mem_of_getElem? (i := 476) (by decide +kernel)⟩
theorem lw_p6 : lw_okq (⟨"FilmLines$Cutter", "open", "(LFilmLines$Frames;I)V"⟩, 8) := ⟨⟨by decide +kernel, by decide +kernel⟩, List.mem_of_getElem? (i := 33) (by decide +kernel), List.mem_of_getElem? (i := 479) (by decide +kernel), List.mem_of_getElem? (i := 480) (by decide +kernel)⟩
theorem lw_p7 : lw_okq (⟨"FilmLines$Rule", "takeSign", "(II)V"⟩, 8) := ⟨⟨by decide +kernel, by decide +kernel⟩, List.mem_of_getElem? (i := 130) (by decide +kernel), List.mem_of_getElem? (i := 576) (by decide +kernel), List.mem_of_getElem? (i := 577) (by decide +kernel)⟩
theorem lw_p8 : lw_okq (⟨"FilmLines$Show", "load", "(LFilmLines$Film;LFilmLines$Rule;I)V"⟩, 7) := ⟨⟨by decide +kernel, by decide +kernel⟩, List.mem_of_getElem? (i := 162) (by decide +kernel), List.mem_of_getElem? (i := 596) (by decide +kernel), List.mem_of_getElem? (i := 597) (by decide +kernel)⟩
theorem lw_p9 : lw_okq (⟨"FilmLines$Show", "begin", "(LFilmLines$Film;LFilmLines$Rule;II)V"⟩, 7) := ⟨⟨by decide +kernel, by decide +kernel⟩, List.mem_of_getElem? (i := 162) (by decide +kernel), List.mem_of_getElem? (i := 600) (by decide +kernel), List.mem_of_getElem? (i := 601) (by decide +kernel)⟩
theorem lw_p10 : lw_okq (⟨"FilmLines$Show", "watch", "(LFilmLines$Film;I)V"⟩, 7) := ⟨⟨by decide +kernel, by decide +kernel⟩, List.mem_of_getElem? (i := 162) (by decide +kernel), List.mem_of_getElem? (i := 616) (by decide +kernel), List.mem_of_getElem? (i := 617) (by decide +kernel)⟩
theorem lw_p11 : lw_okq (⟨"FilmLines$BestSearch", "placeFrom", "(LFilmLines$Film;III)V"⟩, 11) := ⟨⟨by decide +kernel, by decide +kernel⟩, List.mem_of_getElem? (i := 195) (by decide +kernel), List.mem_of_getElem? (i := 635) (by decide +kernel), List.mem_of_getElem? (i := 636) (by decide +kernel)⟩
theorem lw_p12 : lw_okq (⟨"FilmLines$BestSearch", "place", "(LFilmLines$Film;III)V"⟩, 11) := ⟨⟨by decide +kernel, by decide +kernel⟩, List.mem_of_getElem? (i := 195) (by decide +kernel), List.mem_of_getElem? (i := 640) (by decide +kernel), List.mem_of_getElem? (i := 641) (by decide +kernel)⟩
theorem lw_p13 : lw_okq (⟨"FilmLines$BestSearch", "secondOf", "(II)I"⟩, 11) := ⟨⟨by decide +kernel, by decide +kernel⟩, List.mem_of_getElem? (i := 195) (by decide +kernel), List.mem_of_getElem? (i := 645) (by decide +kernel), List.mem_of_getElem? (i := 646) (by decide +kernel)⟩
theorem lw_p14 : lw_okq (⟨"FilmLines$BestSearch", "judge", "(LFilmLines$Film;I)V"⟩, 11) := ⟨⟨by decide +kernel, by decide +kernel⟩, List.mem_of_getElem? (i := 195) (by decide +kernel), List.mem_of_getElem? (i := 650) (by decide +kernel), List.mem_of_getElem? (i := 651) (by decide +kernel)⟩
theorem lw_p15 : lw_okq (⟨"FilmLines$BestSearch", "watch", "(LFilmLines$Film;I)V"⟩, 11) := ⟨⟨by decide +kernel, by decide +kernel⟩, List.mem_of_getElem? (i := 195) (by decide +kernel), List.mem_of_getElem? (i := 654) (by decide +kernel), List.mem_of_getElem? (i := 655) (by decide +kernel)⟩
def lw_privs_1 : List (MethodName × Nat) := [(⟨"FilmLines", "forgetShows", "()V"⟩, 13), (⟨"FilmLines$Cutter", "gather", "(IZ)V"⟩, 8), (⟨"FilmLines$Cutter", "bestMoved", "(I)I"⟩, 8), (⟨"FilmLines$Cutter", "tryBlock", "(III)V"⟩, 8), (⟨"FilmLines$Cutter", "weigh", "(II)V"⟩, 8), (⟨"FilmLines$Cutter", "tryWay", "(IIII)V"⟩, 8), (⟨"FilmLines$Cutter", "open", "(LFilmLines$Frames;I)V"⟩, 8), (⟨"FilmLines$Rule", "takeSign", "(II)V"⟩, 8), (⟨"FilmLines$Show", "load", "(LFilmLines$Film;LFilmLines$Rule;I)V"⟩, 7), (⟨"FilmLines$Show", "begin", "(LFilmLines$Film;LFilmLines$Rule;II)V"⟩, 7), (⟨"FilmLines$Show", "watch", "(LFilmLines$Film;I)V"⟩, 7), (⟨"FilmLines$BestSearch", "placeFrom", "(LFilmLines$Film;III)V"⟩, 11), (⟨"FilmLines$BestSearch", "place", "(LFilmLines$Film;III)V"⟩, 11), (⟨"FilmLines$BestSearch", "secondOf", "(II)I"⟩, 11), (⟨"FilmLines$BestSearch", "judge", "(LFilmLines$Film;I)V"⟩, 11), (⟨"FilmLines$BestSearch", "watch", "(LFilmLines$Film;I)V"⟩, 11)]
theorem lw_r1 : ∀ q ∈ lw_privs_1, lw_okq q := List.forall_mem_cons.mpr ⟨lw_p0, List.forall_mem_cons.mpr ⟨lw_p1, List.forall_mem_cons.mpr ⟨lw_p2, List.forall_mem_cons.mpr ⟨lw_p3, List.forall_mem_cons.mpr ⟨lw_p4, List.forall_mem_cons.mpr ⟨lw_p5, List.forall_mem_cons.mpr ⟨lw_p6, List.forall_mem_cons.mpr ⟨lw_p7, List.forall_mem_cons.mpr ⟨lw_p8, List.forall_mem_cons.mpr ⟨lw_p9, List.forall_mem_cons.mpr ⟨lw_p10, List.forall_mem_cons.mpr ⟨lw_p11, List.forall_mem_cons.mpr ⟨lw_p12, List.forall_mem_cons.mpr ⟨lw_p13, List.forall_mem_cons.mpr ⟨lw_p14, List.forall_mem_cons.mpr ⟨lw_p15, fun _ h => absurd h List.not_mem_nil⟩⟩⟩⟩⟩⟩⟩⟩⟩⟩⟩⟩⟩⟩⟩⟩
theorem lw_p16 : lw_okq (⟨"FilmLines$BestSearch", "isNoWorse", "()Z"⟩, 11) := ⟨⟨by decide +kernel, by decide +kernel⟩, List.mem_of_getElem? (i := 195) (by decide +kernel), List.mem_of_getElem? (i := 658) (by decide +kernel), List.mem_of_getElem? (i := 659) (by decide +kernel)⟩
theorem lw_p17 : lw_okq (⟨"FilmLines$BestSearch", "keep", "(I)V"⟩, 11) := ⟨⟨by decide +kernel, by decide +kernel⟩, List.mem_of_getElem? (i := 195) (by decide +kernel), List.mem_of_getElem? (i := 662) (by decide +kernel), List.mem_of_getElem? (i := 663) (by decide +kernel)⟩
theorem lw_p18 : lw_okq (⟨"FilmLines$BestSearch", "mayBeNoWorse", "(LFilmLines$Film;I)Z"⟩, 11) := ⟨⟨by decide +kernel, by decide +kernel⟩, List.mem_of_getElem? (i := 195) (by decide +kernel), List.mem_of_getElem? (i := 666) (by decide +kernel), List.mem_of_getElem? (i := 667) (by decide +kernel)⟩
theorem lw_p19 : lw_okq (⟨"FilmLines$Towns", "weightOf", "(I)I"⟩, 4) := ⟨⟨by decide +kernel, by decide +kernel⟩, List.mem_of_getElem? (i := 238) (by decide +kernel), List.mem_of_getElem? (i := 713) (by decide +kernel), List.mem_of_getElem? (i := 714) (by decide +kernel)⟩
theorem lw_p20 : lw_okq (⟨"FilmLines$Marks", "unlike", "(III)I"⟩, 1) := ⟨⟨by decide +kernel, by decide +kernel⟩, List.mem_of_getElem? (i := 293) (by decide +kernel), List.mem_of_getElem? (i := 799) (by decide +kernel), List.mem_of_getElem? (i := 800) (by decide +kernel)⟩
theorem lw_p21 : lw_okq (⟨"FilmLines$Marks", "isPair", "(IIII)Z"⟩, 1) := ⟨⟨by decide +kernel, by decide +kernel⟩, List.mem_of_getElem? (i := 293) (by decide +kernel), List.mem_of_getElem? (i := 807) (by decide +kernel), List.mem_of_getElem? (i := 808) (by decide +kernel)⟩
theorem lw_p22 : lw_okq (⟨"FilmLines$Nodes", "newParent", "(II)I"⟩, 3) := ⟨⟨by decide +kernel, by decide +kernel⟩, List.mem_of_getElem? (i := 313) (by decide +kernel), List.mem_of_getElem? (i := 886) (by decide +kernel), List.mem_of_getElem? (i := 887) (by decide +kernel)⟩
theorem lw_p23 : lw_okq (⟨"FilmLinesModel", "isFrame", "(I)Z"⟩, 37) := ⟨⟨by decide +kernel, by decide +kernel⟩, List.mem_of_getElem? (i := 922) (by decide +kernel), List.mem_of_getElem? (i := 1048) (by decide +kernel), List.mem_of_getElem? (i := 1049) (by decide +kernel)⟩
theorem lw_p24 : lw_okq (⟨"FilmLinesModel", "cut", "(I)V"⟩, 37) := ⟨⟨by decide +kernel, by decide +kernel⟩, List.mem_of_getElem? (i := 922) (by decide +kernel), List.mem_of_getElem? (i := 1067) (by decide +kernel), List.mem_of_getElem? (i := 1068) (by decide +kernel)⟩
theorem lw_p25 : lw_okq (⟨"FilmLinesModel", "cutFrame", "(I)V"⟩, 37) := ⟨⟨by decide +kernel, by decide +kernel⟩, List.mem_of_getElem? (i := 922) (by decide +kernel), List.mem_of_getElem? (i := 1071) (by decide +kernel), List.mem_of_getElem? (i := 1072) (by decide +kernel)⟩
theorem lw_p26 : lw_okq (⟨"FilmLinesModel", "openBy", "(IIII)I"⟩, 37) := ⟨⟨by decide +kernel, by decide +kernel⟩, List.mem_of_getElem? (i := 922) (by decide +kernel), List.mem_of_getElem? (i := 1075) (by decide +kernel), List.mem_of_getElem? (i := 1076) (by decide +kernel)⟩
theorem lw_p27 : lw_okq (⟨"FilmLinesModel", "unlike", "(I)I"⟩, 37) := ⟨⟨by decide +kernel, by decide +kernel⟩, List.mem_of_getElem? (i := 922) (by decide +kernel), List.mem_of_getElem? (i := 1097) (by decide +kernel), List.mem_of_getElem? (i := 1098) (by decide +kernel)⟩
theorem lw_p28 : lw_okq (⟨"FilmLinesModel", "isScene", "(I)Z"⟩, 37) := ⟨⟨by decide +kernel, by decide +kernel⟩, List.mem_of_getElem? (i := 922) (by decide +kernel), List.mem_of_getElem? (i := 1101) (by decide +kernel), List.mem_of_getElem? (i := 1102) (by decide +kernel)⟩
theorem lw_p29 : lw_okq (⟨"FilmLinesModel", "isStill", "(I)Z"⟩, 37) := ⟨⟨by decide +kernel, by decide +kernel⟩, List.mem_of_getElem? (i := 922) (by decide +kernel), List.mem_of_getElem? (i := 1105) (by decide +kernel), List.mem_of_getElem? (i := 1106) (by decide +kernel)⟩
theorem lw_p30 : lw_okq (⟨"FilmLinesModel", "faultOf", "()I"⟩, 37) := ⟨⟨by decide +kernel, by decide +kernel⟩, List.mem_of_getElem? (i := 922) (by decide +kernel), List.mem_of_getElem? (i := 1137) (by decide +kernel), List.mem_of_getElem? (i := 1138) (by decide +kernel)⟩
theorem lw_p31 : lw_okq (⟨"FilmLinesModel", "run", "(Z)V"⟩, 37) := ⟨⟨by decide +kernel, by decide +kernel⟩, List.mem_of_getElem? (i := 922) (by decide +kernel), List.mem_of_getElem? (i := 1152) (by decide +kernel), List.mem_of_getElem? (i := 1153) (by decide +kernel)⟩
def lw_privs_2 : List (MethodName × Nat) := [(⟨"FilmLines$BestSearch", "isNoWorse", "()Z"⟩, 11), (⟨"FilmLines$BestSearch", "keep", "(I)V"⟩, 11), (⟨"FilmLines$BestSearch", "mayBeNoWorse", "(LFilmLines$Film;I)Z"⟩, 11), (⟨"FilmLines$Towns", "weightOf", "(I)I"⟩, 4), (⟨"FilmLines$Marks", "unlike", "(III)I"⟩, 1), (⟨"FilmLines$Marks", "isPair", "(IIII)Z"⟩, 1), (⟨"FilmLines$Nodes", "newParent", "(II)I"⟩, 3), (⟨"FilmLinesModel", "isFrame", "(I)Z"⟩, 37), (⟨"FilmLinesModel", "cut", "(I)V"⟩, 37), (⟨"FilmLinesModel", "cutFrame", "(I)V"⟩, 37), (⟨"FilmLinesModel", "openBy", "(IIII)I"⟩, 37), (⟨"FilmLinesModel", "unlike", "(I)I"⟩, 37), (⟨"FilmLinesModel", "isScene", "(I)Z"⟩, 37), (⟨"FilmLinesModel", "isStill", "(I)Z"⟩, 37), (⟨"FilmLinesModel", "faultOf", "()I"⟩, 37), (⟨"FilmLinesModel", "run", "(Z)V"⟩, 37)]
theorem lw_r2 : ∀ q ∈ lw_privs_2, lw_okq q := List.forall_mem_cons.mpr ⟨lw_p16, List.forall_mem_cons.mpr ⟨lw_p17, List.forall_mem_cons.mpr ⟨lw_p18, List.forall_mem_cons.mpr ⟨lw_p19, List.forall_mem_cons.mpr ⟨lw_p20, List.forall_mem_cons.mpr ⟨lw_p21, List.forall_mem_cons.mpr ⟨lw_p22, List.forall_mem_cons.mpr ⟨lw_p23, List.forall_mem_cons.mpr ⟨lw_p24, List.forall_mem_cons.mpr ⟨lw_p25, List.forall_mem_cons.mpr ⟨lw_p26, List.forall_mem_cons.mpr ⟨lw_p27, List.forall_mem_cons.mpr ⟨lw_p28, List.forall_mem_cons.mpr ⟨lw_p29, List.forall_mem_cons.mpr ⟨lw_p30, List.forall_mem_cons.mpr ⟨lw_p31, fun _ h => absurd h List.not_mem_nil⟩⟩⟩⟩⟩⟩⟩⟩⟩⟩⟩⟩⟩⟩⟩⟩
theorem lw_p32 : lw_okq (⟨"FilmLinesModel", "pick", "(IIII)I"⟩, 37) := ⟨⟨by decide +kernel, by decide +kernel⟩, List.mem_of_getElem? (i := 922) (by decide +kernel), List.mem_of_getElem? (i := 1156) (by decide +kernel), List.mem_of_getElem? (i := 1157) (by decide +kernel)⟩
theorem lw_p33 : lw_okq (⟨"FilmLinesModel", "tell", "(I)I"⟩, 37) := ⟨⟨by decide +kernel, by decide +kernel⟩, List.mem_of_getElem? (i := 922) (by decide +kernel), List.mem_of_getElem? (i := 1160) (by decide +kernel), List.mem_of_getElem? (i := 1161) (by decide +kernel)⟩
theorem lw_p34 : lw_okq (⟨"FilmLinesModel", "wish", "(I)V"⟩, 37) := ⟨⟨by decide +kernel, by decide +kernel⟩, List.mem_of_getElem? (i := 922) (by decide +kernel), List.mem_of_getElem? (i := 1168) (by decide +kernel), List.mem_of_getElem? (i := 1169) (by decide +kernel)⟩
theorem lw_p35 : lw_okq (⟨"FilmLinesModel", "mayIt", "(III)Z"⟩, 37) := ⟨⟨by decide +kernel, by decide +kernel⟩, List.mem_of_getElem? (i := 922) (by decide +kernel), List.mem_of_getElem? (i := 1209) (by decide +kernel), List.mem_of_getElem? (i := 1210) (by decide +kernel)⟩
theorem lw_p36 : lw_okq (⟨"FilmLinesModel", "seenOf", "(II)I"⟩, 37) := ⟨⟨by decide +kernel, by decide +kernel⟩, List.mem_of_getElem? (i := 922) (by decide +kernel), List.mem_of_getElem? (i := 1221) (by decide +kernel), List.mem_of_getElem? (i := 1222) (by decide +kernel)⟩
theorem lw_p37 : lw_okq (⟨"FilmLinesModel", "hungOn", "(II)I"⟩, 37) := ⟨⟨by decide +kernel, by decide +kernel⟩, List.mem_of_getElem? (i := 922) (by decide +kernel), List.mem_of_getElem? (i := 1260) (by decide +kernel), List.mem_of_getElem? (i := 1261) (by decide +kernel)⟩
theorem lw_p38 : lw_okq (⟨"FilmLinesModel", "behindOf", "(I)I"⟩, 37) := ⟨⟨by decide +kernel, by decide +kernel⟩, List.mem_of_getElem? (i := 922) (by decide +kernel), List.mem_of_getElem? (i := 1268) (by decide +kernel), List.mem_of_getElem? (i := 1269) (by decide +kernel)⟩
theorem lw_p39 : lw_okq (⟨"FilmLinesModel", "isBelow", "(II)Z"⟩, 37) := ⟨⟨by decide +kernel, by decide +kernel⟩, List.mem_of_getElem? (i := 922) (by decide +kernel), List.mem_of_getElem? (i := 1276) (by decide +kernel), List.mem_of_getElem? (i := 1277) (by decide +kernel)⟩
def lw_privs_3 : List (MethodName × Nat) := [(⟨"FilmLinesModel", "pick", "(IIII)I"⟩, 37), (⟨"FilmLinesModel", "tell", "(I)I"⟩, 37), (⟨"FilmLinesModel", "wish", "(I)V"⟩, 37), (⟨"FilmLinesModel", "mayIt", "(III)Z"⟩, 37), (⟨"FilmLinesModel", "seenOf", "(II)I"⟩, 37), (⟨"FilmLinesModel", "hungOn", "(II)I"⟩, 37), (⟨"FilmLinesModel", "behindOf", "(I)I"⟩, 37), (⟨"FilmLinesModel", "isBelow", "(II)Z"⟩, 37)]
theorem lw_r3 : ∀ q ∈ lw_privs_3, lw_okq q := List.forall_mem_cons.mpr ⟨lw_p32, List.forall_mem_cons.mpr ⟨lw_p33, List.forall_mem_cons.mpr ⟨lw_p34, List.forall_mem_cons.mpr ⟨lw_p35, List.forall_mem_cons.mpr ⟨lw_p36, List.forall_mem_cons.mpr ⟨lw_p37, List.forall_mem_cons.mpr ⟨lw_p38, List.forall_mem_cons.mpr ⟨lw_p39, fun _ h => absurd h List.not_mem_nil⟩⟩⟩⟩⟩⟩⟩⟩
def lw_privs : List (MethodName × Nat) := lw_privs_1 ++ (lw_privs_2 ++ (lw_privs_3))
def lw_tbl : List Cond := k2_sels lw_privs ++ tables_1
theorem lw_privs_ok : ∀ q ∈ lw_privs, lw_okq q := by
  show ∀ q ∈ lw_privs_1 ++ (lw_privs_2 ++ (lw_privs_3)), lw_okq q
  exact List.forall_mem_append.mpr ⟨lw_r1, List.forall_mem_append.mpr ⟨lw_r2, lw_r3⟩⟩
end
section
def RX0 : String := "FilmLines$BestSearch"
def TX0 : u_T := fun k => match k with
  | 0 => ("FilmLines$BestSearch", "found", "LFilmLines$Show;", true)
  | 1 => ("FilmLines$BestSearch", "come", "[I", true)
  | 2 => ("FilmLines$BestSearch", "row", "[I", true)
  | 3 => ("FilmLines$BestSearch", "wholeAt", "[I", true)
  | 4 => ("FilmLines$BestSearch", "seenAt", "[I", true)
  | 5 => ("FilmLines$BestSearch", "sums", "[I", true)
  | 6 => ("FilmLines$BestSearch", "needed", "I", false)
  | 7 => ("FilmLines$BestSearch", "rowSeen", "I", false)
  | 8 => ("FilmLines$BestSearch", "rowStills", "I", false)
  | 9 => ("FilmLines$BestSearch", "rowSum", "I", false)
  | _ => ("FilmLines$BestSearch", "rowLast", "I", false)
def tyX0 : Nat → FieldType := fun k => match k with
  | 0 => .object "FilmLines$Show"
  | 1 => .array .int
  | 2 => .array .int
  | 3 => .array .int
  | 4 => .array .int
  | 5 => .array .int
  | 6 => .int
  | 7 => .int
  | 8 => .int
  | 9 => .int
  | _ => .int
abbrev wsX00 : List Cond := u_ws RX0 TX0 11
theorem nmX0 : ∀ a, a < 11 → ∀ b, b < 11 → a ≠ b → (TX0 a).2.1 ≠ (TX0 b).2.1 := by decide +kernel
theorem tyX0_ok : ∀ k, k < 11 → parseFieldDescriptor (TX0 k).2.2.1 = some (tyX0 k) := by decide +kernel
abbrev cX0_init : ByteArray := prog_2_method_1_code
def yX0_init : MethodName := ⟨RX0, "<init>", "()V"⟩
abbrev cX0_seek : ByteArray := prog_2_method_2_code
def yX0_seek : MethodName := ⟨RX0, "seek", "(LFilmLines$Film;I)V"⟩
abbrev cX0_placeFrom : ByteArray := prog_2_method_3_code
def yX0_placeFrom : MethodName := ⟨RX0, "placeFrom", "(LFilmLines$Film;III)V"⟩
abbrev cX0_place : ByteArray := prog_2_method_4_code
def yX0_place : MethodName := ⟨RX0, "place", "(LFilmLines$Film;III)V"⟩
abbrev cX0_secondOf : ByteArray := prog_2_method_5_code
def yX0_secondOf : MethodName := ⟨RX0, "secondOf", "(II)I"⟩
abbrev cX0_mayBeNoWorse : ByteArray := prog_2_method_6_code
def yX0_mayBeNoWorse : MethodName := ⟨RX0, "mayBeNoWorse", "(LFilmLines$Film;I)Z"⟩
abbrev cX0_judge : ByteArray := prog_2_method_7_code
def yX0_judge : MethodName := ⟨RX0, "judge", "(LFilmLines$Film;I)V"⟩
abbrev cX0_watch : ByteArray := prog_2_method_8_code
def yX0_watch : MethodName := ⟨RX0, "watch", "(LFilmLines$Film;I)V"⟩
abbrev cX0_isNoWorse : ByteArray := prog_2_method_9_code
def yX0_isNoWorse : MethodName := ⟨RX0, "isNoWorse", "()Z"⟩
abbrev cX0_keep : ByteArray := prog_2_method_10_code
def yX0_keep : MethodName := ⟨RX0, "keep", "(I)V"⟩
def RX1 : String := "FilmLines$Cutter"
def TX1 : u_T := fun k => match k with
  | 0 => ("FilmLines$Cutter", "losses", "[I", true)
  | 1 => ("FilmLines$Cutter", "choiceWays", "[I", true)
  | 2 => ("FilmLines$Cutter", "tried", "[I", true)
  | 3 => ("FilmLines$Cutter", "chosen", "[I", true)
  | 4 => ("FilmLines$Cutter", "choices", "I", false)
  | 5 => ("FilmLines$Cutter", "limit", "I", false)
  | 6 => ("FilmLines$Cutter", "leastLoss", "I", false)
  | _ => ("FilmLines$Cutter", "leastBits", "I", false)
def tyX1 : Nat → FieldType := fun k => match k with
  | 0 => .array .int
  | 1 => .array .int
  | 2 => .array .int
  | 3 => .array .int
  | 4 => .int
  | 5 => .int
  | 6 => .int
  | _ => .int
abbrev wsX10 : List Cond := u_ws RX1 TX1 8
theorem nmX1 : ∀ a, a < 8 → ∀ b, b < 8 → a ≠ b → (TX1 a).2.1 ≠ (TX1 b).2.1 := by decide +kernel
theorem tyX1_ok : ∀ k, k < 8 → parseFieldDescriptor (TX1 k).2.2.1 = some (tyX1 k) := by decide +kernel
abbrev cX1_init : ByteArray := prog_3_method_1_code
def yX1_init : MethodName := ⟨RX1, "<init>", "()V"⟩
abbrev cX1_cut : ByteArray := prog_3_method_2_code
def yX1_cut : MethodName := ⟨RX1, "cut", "(LFilmLines$Frames;II)V"⟩
abbrev cX1_gather : ByteArray := prog_3_method_3_code
def yX1_gather : MethodName := ⟨RX1, "gather", "(IZ)V"⟩
abbrev cX1_bestMoved : ByteArray := prog_3_method_4_code
def yX1_bestMoved : MethodName := ⟨RX1, "bestMoved", "(I)I"⟩
abbrev cX1_lossBy : ByteArray := prog_3_method_5_code
def yX1_lossBy : MethodName := ⟨RX1, "lossBy", "(LFilmLines$Frames;III)I"⟩
abbrev cX1_dotBy : ByteArray := prog_3_method_6_code
def yX1_dotBy : MethodName := ⟨RX1, "dotBy", "(LFilmLines$Frames;IIII)I"⟩
abbrev cX1_mean : ByteArray := prog_3_method_7_code
def yX1_mean : MethodName := ⟨RX1, "mean", "(LFilmLines$Frames;II)I"⟩
abbrev cX1_withinRim : ByteArray := prog_3_method_8_code
def yX1_withinRim : MethodName := ⟨RX1, "withinRim", "(I)I"⟩
abbrev cX1_tryBlock : ByteArray := prog_3_method_9_code
def yX1_tryBlock : MethodName := ⟨RX1, "tryBlock", "(III)V"⟩
abbrev cX1_tryWay : ByteArray := prog_3_method_10_code
def yX1_tryWay : MethodName := ⟨RX1, "tryWay", "(IIII)V"⟩
abbrev cX1_weigh : ByteArray := prog_3_method_11_code
def yX1_weigh : MethodName := ⟨RX1, "weigh", "(II)V"⟩
abbrev cX1_open : ByteArray := prog_3_method_12_code
def yX1_open : MethodName := ⟨RX1, "open", "(LFilmLines$Frames;I)V"⟩
def RX2 : String := "FilmLines$Film"
def TX2 : u_T := fun k => match k with
  | 0 => ("FilmLines$Film", "line", "[I", true)
  | 1 => ("FilmLines$Film", "sizeBits", "[I", true)
  | 2 => ("FilmLines$Film", "count", "I", false)
  | _ => ("FilmLines$Film", "doors", "I", false)
def tyX2 : Nat → FieldType := fun k => match k with
  | 0 => .array .int
  | 1 => .array .int
  | 2 => .int
  | _ => .int
abbrev wsX20 : List Cond := u_ws RX2 TX2 4
theorem nmX2 : ∀ a, a < 4 → ∀ b, b < 4 → a ≠ b → (TX2 a).2.1 ≠ (TX2 b).2.1 := by decide +kernel
theorem tyX2_ok : ∀ k, k < 4 → parseFieldDescriptor (TX2 k).2.2.1 = some (tyX2 k) := by decide +kernel
abbrev cX2_init : ByteArray := prog_4_method_1_code
def yX2_init : MethodName := ⟨RX2, "<init>", "()V"⟩
abbrev cX2_bitsOf : ByteArray := prog_4_method_2_code
def yX2_bitsOf : MethodName := ⟨RX2, "bitsOf", "(II)I"⟩
abbrev cX2_changeBits : ByteArray := prog_4_method_3_code
def yX2_changeBits : MethodName := ⟨RX2, "changeBits", "(III)I"⟩
abbrev cX2_changeLine : ByteArray := prog_4_method_4_code
def yX2_changeLine : MethodName := ⟨RX2, "changeLine", "(III)V"⟩
abbrev cX2_isDoor : ByteArray := prog_4_method_5_code
def yX2_isDoor : MethodName := ⟨RX2, "isDoor", "(I)Z"⟩
def RX3 : String := "FilmLines$Frames"
def TX3 : u_T := fun k => match k with
  | 0 => ("FilmLines$Frames", "dots", "[I", true)
  | 1 => ("FilmLines$Frames", "openedDots", "[I", true)
  | 2 => ("FilmLines$Frames", "keys", "[Z", true)
  | 3 => ("FilmLines$Frames", "ways", "[I", true)
  | 4 => ("FilmLines$Frames", "cutBits", "[I", true)
  | 5 => ("FilmLines$Frames", "cutLoss", "[I", true)
  | 6 => ("FilmLines$Frames", "cutter", "LFilmLines$Cutter;", true)
  | 7 => ("FilmLines$Frames", "count", "I", false)
  | _ => ("FilmLines$Frames", "cutCount", "I", false)
def tyX3 : Nat → FieldType := fun k => match k with
  | 0 => .array .int
  | 1 => .array .int
  | 2 => .array .boolean
  | 3 => .array .int
  | 4 => .array .int
  | 5 => .array .int
  | 6 => .object "FilmLines$Cutter"
  | 7 => .int
  | _ => .int
abbrev wsX30 : List Cond := u_ws RX3 TX3 9
theorem nmX3 : ∀ a, a < 9 → ∀ b, b < 9 → a ≠ b → (TX3 a).2.1 ≠ (TX3 b).2.1 := by decide +kernel
theorem tyX3_ok : ∀ k, k < 9 → parseFieldDescriptor (TX3 k).2.2.1 = some (tyX3 k) := by decide +kernel
abbrev cX3_init : ByteArray := prog_5_method_1_code
def yX3_init : MethodName := ⟨RX3, "<init>", "()V"⟩
abbrev cX3_has : ByteArray := prog_5_method_2_code
def yX3_has : MethodName := ⟨RX3, "has", "(I)Z"⟩
abbrev cX3_add : ByteArray := prog_5_method_3_code
def yX3_add : MethodName := ⟨RX3, "add", "()I"⟩
abbrev cX3_changeDot : ByteArray := prog_5_method_4_code
def yX3_changeDot : MethodName := ⟨RX3, "changeDot", "(III)I"⟩
abbrev cX3_changeKey : ByteArray := prog_5_method_5_code
def yX3_changeKey : MethodName := ⟨RX3, "changeKey", "(IZ)Z"⟩
abbrev cX3_forgetCutsFrom : ByteArray := prog_5_method_6_code
def yX3_forgetCutsFrom : MethodName := ⟨RX3, "forgetCutsFrom", "(I)V"⟩
abbrev cX3_cutUpTo : ByteArray := prog_5_method_7_code
def yX3_cutUpTo : MethodName := ⟨RX3, "cutUpTo", "(II)V"⟩
abbrev cX3_unlike : ByteArray := prog_5_method_8_code
def yX3_unlike : MethodName := ⟨RX3, "unlike", "(I)I"⟩
abbrev cX3_isScene : ByteArray := prog_5_method_9_code
def yX3_isScene : MethodName := ⟨RX3, "isScene", "(II)Z"⟩
abbrev cX3_isStill : ByteArray := prog_5_method_10_code
def yX3_isStill : MethodName := ⟨RX3, "isStill", "(I)Z"⟩
abbrev cX3_scenes : ByteArray := prog_5_method_11_code
def yX3_scenes : MethodName := ⟨RX3, "scenes", "(I)I"⟩
abbrev cX3_stills : ByteArray := prog_5_method_12_code
def yX3_stills : MethodName := ⟨RX3, "stills", "()I"⟩
def RX4 : String := "FilmLines$Groups"
def TX4 : u_T := fun k => match k with
  | _ => ("FilmLines$Groups", "numbers", "[I", true)
def tyX4 : Nat → FieldType := fun k => match k with
  | _ => .array .int
abbrev wsX40 : List Cond := u_ws RX4 TX4 1
theorem nmX4 : ∀ a, a < 1 → ∀ b, b < 1 → a ≠ b → (TX4 a).2.1 ≠ (TX4 b).2.1 := by decide +kernel
theorem tyX4_ok : ∀ k, k < 1 → parseFieldDescriptor (TX4 k).2.2.1 = some (tyX4 k) := by decide +kernel
abbrev cX4_init : ByteArray := prog_6_method_1_code
def yX4_init : MethodName := ⟨RX4, "<init>", "()V"⟩
abbrev cX4_change : ByteArray := prog_6_method_2_code
def yX4_change : MethodName := ⟨RX4, "change", "(III)I"⟩
abbrev cX4_numberAt : ByteArray := prog_6_method_3_code
def yX4_numberAt : MethodName := ⟨RX4, "numberAt", "(II)I"⟩
abbrev cX4_plainSum : ByteArray := prog_6_method_4_code
def yX4_plainSum : MethodName := ⟨RX4, "plainSum", "(I)I"⟩
abbrev cX4_placeSum : ByteArray := prog_6_method_5_code
def yX4_placeSum : MethodName := ⟨RX4, "placeSum", "(I)I"⟩
abbrev cX4_restorable : ByteArray := prog_6_method_6_code
def yX4_restorable : MethodName := ⟨RX4, "restorable", "(I)Z"⟩
def RX5 : String := "FilmLines$Marks"
def TX5 : u_T := fun k => match k with
  | _ => ("FilmLines$Marks", "rows", "[I", true)
def tyX5 : Nat → FieldType := fun k => match k with
  | _ => .array .int
abbrev wsX50 : List Cond := u_ws RX5 TX5 1
theorem nmX5 : ∀ a, a < 1 → ∀ b, b < 1 → a ≠ b → (TX5 a).2.1 ≠ (TX5 b).2.1 := by decide +kernel
theorem tyX5_ok : ∀ k, k < 1 → parseFieldDescriptor (TX5 k).2.2.1 = some (tyX5 k) := by decide +kernel
abbrev cX5_init : ByteArray := prog_7_method_1_code
def yX5_init : MethodName := ⟨RX5, "<init>", "()V"⟩
abbrev cX5_change : ByteArray := prog_7_method_2_code
def yX5_change : MethodName := ⟨RX5, "change", "(II)I"⟩
abbrev cX5_blamed : ByteArray := prog_7_method_3_code
def yX5_blamed : MethodName := ⟨RX5, "blamed", "(II)I"⟩
abbrev cX5_pairs : ByteArray := prog_7_method_4_code
def yX5_pairs : MethodName := ⟨RX5, "pairs", "(II)I"⟩
abbrev cX5_firstPair : ByteArray := prog_7_method_5_code
def yX5_firstPair : MethodName := ⟨RX5, "firstPair", "(II)I"⟩
abbrev cX5_isPair : ByteArray := prog_7_method_6_code
def yX5_isPair : MethodName := ⟨RX5, "isPair", "(IIII)Z"⟩
abbrev cX5_unlike : ByteArray := prog_7_method_7_code
def yX5_unlike : MethodName := ⟨RX5, "unlike", "(III)I"⟩
def RX6 : String := "FilmLines$Nodes"
def TX6 : u_T := fun k => match k with
  | 0 => ("FilmLines$Nodes", "parents", "[I", true)
  | 1 => ("FilmLines$Nodes", "delays", "[I", true)
  | _ => ("FilmLines$Nodes", "fallen", "[Z", true)
def tyX6 : Nat → FieldType := fun k => match k with
  | 0 => .array .int
  | 1 => .array .int
  | _ => .array .boolean
abbrev wsX60 : List Cond := u_ws RX6 TX6 3
theorem nmX6 : ∀ a, a < 3 → ∀ b, b < 3 → a ≠ b → (TX6 a).2.1 ≠ (TX6 b).2.1 := by decide +kernel
theorem tyX6_ok : ∀ k, k < 3 → parseFieldDescriptor (TX6 k).2.2.1 = some (tyX6 k) := by decide +kernel
abbrev cX6_init : ByteArray := prog_8_method_1_code
def yX6_init : MethodName := ⟨RX6, "<init>", "()V"⟩
abbrev cX6_rehang : ByteArray := prog_8_method_2_code
def yX6_rehang : MethodName := ⟨RX6, "rehang", "(III)I"⟩
abbrev cX6_hangingOn : ByteArray := prog_8_method_3_code
def yX6_hangingOn : MethodName := ⟨RX6, "hangingOn", "(II)I"⟩
abbrev cX6_delayUpTo0 : ByteArray := prog_8_method_4_code
def yX6_delayUpTo0 : MethodName := ⟨RX6, "delayUpTo0", "(I)I"⟩
abbrev cX6_drop : ByteArray := prog_8_method_5_code
def yX6_drop : MethodName := ⟨RX6, "drop", "(II)I"⟩
abbrev cX6_newParent : ByteArray := prog_8_method_6_code
def yX6_newParent : MethodName := ⟨RX6, "newParent", "(II)I"⟩
abbrev cX6_standing : ByteArray := prog_8_method_7_code
def yX6_standing : MethodName := ⟨RX6, "standing", "()I"⟩
abbrev cX6_standingWithin : ByteArray := prog_8_method_8_code
def yX6_standingWithin : MethodName := ⟨RX6, "standingWithin", "(I)I"⟩
abbrev cX6_hangsOn : ByteArray := prog_8_method_9_code
def yX6_hangsOn : MethodName := ⟨RX6, "hangsOn", "(I)I"⟩
def RX7 : String := "FilmLines$Rights"
def TX7 : u_T := fun k => match k with
  | 0 => ("FilmLines$Rights", "films", "[I", true)
  | 1 => ("FilmLines$Rights", "lands", "[I", true)
  | 2 => ("FilmLines$Rights", "froms", "[I", true)
  | 3 => ("FilmLines$Rights", "tos", "[I", true)
  | 4 => ("FilmLines$Rights", "limits", "[I", true)
  | 5 => ("FilmLines$Rights", "count", "I", false)
  | 6 => ("FilmLines$Rights", "seerLands", "[I", true)
  | 7 => ("FilmLines$Rights", "seconds", "[J", true)
  | _ => ("FilmLines$Rights", "times", "[I", true)
def tyX7 : Nat → FieldType := fun k => match k with
  | 0 => .array .int
  | 1 => .array .int
  | 2 => .array .int
  | 3 => .array .int
  | 4 => .array .int
  | 5 => .int
  | 6 => .array .int
  | 7 => .array .long
  | _ => .array .int
abbrev wsX70 : List Cond := u_ws RX7 TX7 9
theorem nmX7 : ∀ a, a < 9 → ∀ b, b < 9 → a ≠ b → (TX7 a).2.1 ≠ (TX7 b).2.1 := by decide +kernel
theorem tyX7_ok : ∀ k, k < 9 → parseFieldDescriptor (TX7 k).2.2.1 = some (tyX7 k) := by decide +kernel
abbrev cX7_init : ByteArray := prog_9_method_1_code
def yX7_init : MethodName := ⟨RX7, "<init>", "()V"⟩
abbrev cX7_add : ByteArray := prog_9_method_2_code
def yX7_add : MethodName := ⟨RX7, "add", "(IIIII)I"⟩
abbrev cX7_changeLand : ByteArray := prog_9_method_3_code
def yX7_changeLand : MethodName := ⟨RX7, "changeLand", "(II)I"⟩
abbrev cX7_allow : ByteArray := prog_9_method_4_code
def yX7_allow : MethodName := ⟨RX7, "allow", "(III)Z"⟩
abbrev cX7_addSeeing : ByteArray := prog_9_method_5_code
def yX7_addSeeing : MethodName := ⟨RX7, "addSeeing", "(IIII)I"⟩
abbrev cX7_secondsSeen : ByteArray := prog_9_method_6_code
def yX7_secondsSeen : MethodName := ⟨RX7, "secondsSeen", "(II)I"⟩
abbrev cX7_timesSeen : ByteArray := prog_9_method_7_code
def yX7_timesSeen : MethodName := ⟨RX7, "timesSeen", "(II)I"⟩
abbrev cX7_owedFor : ByteArray := prog_9_method_8_code
def yX7_owedFor : MethodName := ⟨RX7, "owedFor", "(III)I"⟩
def RX8 : String := "FilmLines$Rule"
def TX8 : u_T := fun k => match k with
  | 0 => ("FilmLines$Rule", "signs", "[I", true)
  | 1 => ("FilmLines$Rule", "count", "I", false)
  | 2 => ("FilmLines$Rule", "facts", "[I", true)
  | 3 => ("FilmLines$Rule", "below", "[Z", true)
  | 4 => ("FilmLines$Rule", "numbers", "[I", true)
  | 5 => ("FilmLines$Rule", "sizes", "[I", true)
  | 6 => ("FilmLines$Rule", "clauses", "I", false)
  | _ => ("FilmLines$Rule", "lastSize", "I", false)
def tyX8 : Nat → FieldType := fun k => match k with
  | 0 => .array .int
  | 1 => .int
  | 2 => .array .int
  | 3 => .array .boolean
  | 4 => .array .int
  | 5 => .array .int
  | 6 => .int
  | _ => .int
abbrev wsX80 : List Cond := u_ws RX8 TX8 8
theorem nmX8 : ∀ a, a < 8 → ∀ b, b < 8 → a ≠ b → (TX8 a).2.1 ≠ (TX8 b).2.1 := by decide +kernel
theorem tyX8_ok : ∀ k, k < 8 → parseFieldDescriptor (TX8 k).2.2.1 = some (tyX8 k) := by decide +kernel
abbrev cX8_init : ByteArray := prog_10_method_1_code
def yX8_init : MethodName := ⟨RX8, "<init>", "()V"⟩
abbrev cX8_addSign : ByteArray := prog_10_method_2_code
def yX8_addSign : MethodName := ⟨RX8, "addSign", "(I)I"⟩
abbrev cX8_dropSigns : ByteArray := prog_10_method_3_code
def yX8_dropSigns : MethodName := ⟨RX8, "dropSigns", "()I"⟩
abbrev cX8_firstFault : ByteArray := prog_10_method_4_code
def yX8_firstFault : MethodName := ⟨RX8, "firstFault", "()I"⟩
abbrev cX8_adopt : ByteArray := prog_10_method_5_code
def yX8_adopt : MethodName := ⟨RX8, "adopt", "()V"⟩
abbrev cX8_takeSign : ByteArray := prog_10_method_6_code
def yX8_takeSign : MethodName := ⟨RX8, "takeSign", "(II)V"⟩
abbrev cX8_pick : ByteArray := prog_10_method_7_code
def yX8_pick : MethodName := ⟨RX8, "pick", "(IIII)I"⟩
abbrev cX8_after : ByteArray := prog_10_method_8_code
def yX8_after : MethodName := ⟨RX8, "after", "(II)I"⟩
abbrev cX8_isFact : ByteArray := prog_10_method_9_code
def yX8_isFact : MethodName := ⟨RX8, "isFact", "(I)Z"⟩
abbrev cX8_isSize : ByteArray := prog_10_method_10_code
def yX8_isSize : MethodName := ⟨RX8, "isSize", "(I)Z"⟩
abbrev cX8_isDigit : ByteArray := prog_10_method_11_code
def yX8_isDigit : MethodName := ⟨RX8, "isDigit", "(I)Z"⟩
def RX9 : String := "FilmLines$Show"
def TX9 : u_T := fun k => match k with
  | 0 => ("FilmLines$Show", "sizes", "[I", true)
  | 1 => ("FilmLines$Show", "seenCount", "I", false)
  | 2 => ("FilmLines$Show", "stills", "I", false)
  | 3 => ("FilmLines$Show", "sizeSum", "I", false)
  | 4 => ("FilmLines$Show", "lastSecond", "I", false)
  | 5 => ("FilmLines$Show", "whole", "I", false)
  | _ => ("FilmLines$Show", "missing", "I", false)
def tyX9 : Nat → FieldType := fun k => match k with
  | 0 => .array .int
  | 1 => .int
  | 2 => .int
  | 3 => .int
  | 4 => .int
  | 5 => .int
  | _ => .int
abbrev wsX90 : List Cond := u_ws RX9 TX9 7
theorem nmX9 : ∀ a, a < 7 → ∀ b, b < 7 → a ≠ b → (TX9 a).2.1 ≠ (TX9 b).2.1 := by decide +kernel
theorem tyX9_ok : ∀ k, k < 7 → parseFieldDescriptor (TX9 k).2.2.1 = some (tyX9 k) := by decide +kernel
abbrev cX9_init : ByteArray := prog_11_method_1_code
def yX9_init : MethodName := ⟨RX9, "<init>", "()V"⟩
abbrev cX9_tells : ByteArray := prog_11_method_2_code
def yX9_tells : MethodName := ⟨RX9, "tells", "(I)Z"⟩
abbrev cX9_answer : ByteArray := prog_11_method_3_code
def yX9_answer : MethodName := ⟨RX9, "answer", "(I)I"⟩
abbrev cX9_clear : ByteArray := prog_11_method_4_code
def yX9_clear : MethodName := ⟨RX9, "clear", "()V"⟩
abbrev cX9_run : ByteArray := prog_11_method_5_code
def yX9_run : MethodName := ⟨RX9, "run", "(LFilmLines$Film;LFilmLines$Rule;I)V"⟩
abbrev cX9_load : ByteArray := prog_11_method_6_code
def yX9_load : MethodName := ⟨RX9, "load", "(LFilmLines$Film;LFilmLines$Rule;I)V"⟩
abbrev cX9_begin : ByteArray := prog_11_method_7_code
def yX9_begin : MethodName := ⟨RX9, "begin", "(LFilmLines$Film;LFilmLines$Rule;II)V"⟩
abbrev cX9_watch : ByteArray := prog_11_method_8_code
def yX9_watch : MethodName := ⟨RX9, "watch", "(LFilmLines$Film;I)V"⟩
def RX10 : String := "FilmLines$Towns"
def TX10 : u_T := fun k => match k with
  | 0 => ("FilmLines$Towns", "rooms", "[I", true)
  | 1 => ("FilmLines$Towns", "fars", "[I", true)
  | 2 => ("FilmLines$Towns", "weights", "[I", true)
  | _ => ("FilmLines$Towns", "asks", "[I", true)
def tyX10 : Nat → FieldType := fun k => match k with
  | 0 => .array .int
  | 1 => .array .int
  | 2 => .array .int
  | _ => .array .int
abbrev wsX100 : List Cond := u_ws RX10 TX10 4
theorem nmX10 : ∀ a, a < 4 → ∀ b, b < 4 → a ≠ b → (TX10 a).2.1 ≠ (TX10 b).2.1 := by decide +kernel
theorem tyX10_ok : ∀ k, k < 4 → parseFieldDescriptor (TX10 k).2.2.1 = some (tyX10 k) := by decide +kernel
abbrev cX10_init : ByteArray := prog_12_method_1_code
def yX10_init : MethodName := ⟨RX10, "<init>", "()V"⟩
abbrev cX10_changeRoom : ByteArray := prog_12_method_2_code
def yX10_changeRoom : MethodName := ⟨RX10, "changeRoom", "(II)I"⟩
abbrev cX10_changeFar : ByteArray := prog_12_method_3_code
def yX10_changeFar : MethodName := ⟨RX10, "changeFar", "(II)I"⟩
abbrev cX10_changeWeight : ByteArray := prog_12_method_4_code
def yX10_changeWeight : MethodName := ⟨RX10, "changeWeight", "(II)I"⟩
abbrev cX10_changeAsks : ByteArray := prog_12_method_5_code
def yX10_changeAsks : MethodName := ⟨RX10, "changeAsks", "(III)I"⟩
abbrev cX10_bestFilms : ByteArray := prog_12_method_6_code
def yX10_bestFilms : MethodName := ⟨RX10, "bestFilms", "(I)I"⟩
abbrev cX10_weightOf : ByteArray := prog_12_method_7_code
def yX10_weightOf : MethodName := ⟨RX10, "weightOf", "(I)I"⟩
abbrev cX10_costOf : ByteArray := prog_12_method_8_code
def yX10_costOf : MethodName := ⟨RX10, "costOf", "(II)I"⟩
def RX11 : String := "FilmLines"
def TX11 : u_T := fun k => match k with
  | 0 => ("FilmLines", "settings", "[I", true)
  | 1 => ("FilmLines", "frames", "LFilmLines$Frames;", true)
  | 2 => ("FilmLines", "theFilm", "LFilmLines$Film;", true)
  | 3 => ("FilmLines", "theRule", "LFilmLines$Rule;", true)
  | 4 => ("FilmLines", "ruleShow", "LFilmLines$Show;", true)
  | 5 => ("FilmLines", "search", "LFilmLines$BestSearch;", true)
  | 6 => ("FilmLines", "towns", "LFilmLines$Towns;", true)
  | 7 => ("FilmLines", "rights", "LFilmLines$Rights;", true)
  | 8 => ("FilmLines", "marks", "LFilmLines$Marks;", true)
  | 9 => ("FilmLines", "groups", "LFilmLines$Groups;", true)
  | 10 => ("FilmLines", "nodes", "LFilmLines$Nodes;", true)
  | 11 => ("FilmLines", "showHolds", "Z", false)
  | _ => ("FilmLines", "bestHolds", "Z", false)
def tyX11 : Nat → FieldType := fun k => match k with
  | 0 => .array .int
  | 1 => .object "FilmLines$Frames"
  | 2 => .object "FilmLines$Film"
  | 3 => .object "FilmLines$Rule"
  | 4 => .object "FilmLines$Show"
  | 5 => .object "FilmLines$BestSearch"
  | 6 => .object "FilmLines$Towns"
  | 7 => .object "FilmLines$Rights"
  | 8 => .object "FilmLines$Marks"
  | 9 => .object "FilmLines$Groups"
  | 10 => .object "FilmLines$Nodes"
  | 11 => .boolean
  | _ => .boolean
abbrev wsX110 : List Cond := u_ws RX11 TX11 13
theorem nmX11 : ∀ a, a < 13 → ∀ b, b < 13 → a ≠ b → (TX11 a).2.1 ≠ (TX11 b).2.1 := by decide +kernel
theorem tyX11_ok : ∀ k, k < 13 → parseFieldDescriptor (TX11 k).2.2.1 = some (tyX11 k) := by decide +kernel
abbrev cX11_init : ByteArray := prog_1_method_1_code
def yX11_init : MethodName := ⟨RX11, "<init>", "()V"⟩
abbrev cX11_frame : ByteArray := prog_1_method_2_code
def yX11_frame : MethodName := ⟨RX11, "frame", "()I"⟩
abbrev cX11_dot : ByteArray := prog_1_method_3_code
def yX11_dot : MethodName := ⟨RX11, "dot", "(III)I"⟩
abbrev cX11_key : ByteArray := prog_1_method_4_code
def yX11_key : MethodName := ⟨RX11, "key", "(IZ)I"⟩
abbrev cX11_set : ByteArray := prog_1_method_5_code
def yX11_set : MethodName := ⟨RX11, "set", "(II)I"⟩
abbrev cX11_way : ByteArray := prog_1_method_6_code
def yX11_way : MethodName := ⟨RX11, "way", "(II)I"⟩
abbrev cX11_opened : ByteArray := prog_1_method_7_code
def yX11_opened : MethodName := ⟨RX11, "opened", "(II)I"⟩
abbrev cX11_of : ByteArray := prog_1_method_8_code
def yX11_of : MethodName := ⟨RX11, "of", "(II)I"⟩
abbrev cX11_pieces : ByteArray := prog_1_method_9_code
def yX11_pieces : MethodName := ⟨RX11, "pieces", "(I)I"⟩
abbrev cX11_bits : ByteArray := prog_1_method_10_code
def yX11_bits : MethodName := ⟨RX11, "bits", "(III)I"⟩
abbrev cX11_doors : ByteArray := prog_1_method_11_code
def yX11_doors : MethodName := ⟨RX11, "doors", "(I)I"⟩
abbrev cX11_line : ByteArray := prog_1_method_12_code
def yX11_line : MethodName := ⟨RX11, "line", "(III)I"⟩
abbrev cX11_say : ByteArray := prog_1_method_13_code
def yX11_say : MethodName := ⟨RX11, "say", "(I)I"⟩
abbrev cX11_wipe : ByteArray := prog_1_method_14_code
def yX11_wipe : MethodName := ⟨RX11, "wipe", "()I"⟩
abbrev cX11_fault : ByteArray := prog_1_method_15_code
def yX11_fault : MethodName := ⟨RX11, "fault", "()I"⟩
abbrev cX11_rule : ByteArray := prog_1_method_16_code
def yX11_rule : MethodName := ⟨RX11, "rule", "()I"⟩
abbrev cX11_show : ByteArray := prog_1_method_17_code
def yX11_show : MethodName := ⟨RX11, "show", "(I)I"⟩
abbrev cX11_best : ByteArray := prog_1_method_18_code
def yX11_best : MethodName := ⟨RX11, "best", "(I)I"⟩
abbrev cX11_town : ByteArray := prog_1_method_19_code
def yX11_town : MethodName := ⟨RX11, "town", "(III)I"⟩
abbrev cX11_weight : ByteArray := prog_1_method_20_code
def yX11_weight : MethodName := ⟨RX11, "weight", "(II)I"⟩
abbrev cX11_ask : ByteArray := prog_1_method_21_code
def yX11_ask : MethodName := ⟨RX11, "ask", "(III)I"⟩
abbrev cX11_kept : ByteArray := prog_1_method_22_code
def yX11_kept : MethodName := ⟨RX11, "kept", "(II)I"⟩
abbrev cX11_right : ByteArray := prog_1_method_23_code
def yX11_right : MethodName := ⟨RX11, "right", "(IIIII)I"⟩
abbrev cX11_land : ByteArray := prog_1_method_24_code
def yX11_land : MethodName := ⟨RX11, "land", "(II)I"⟩
abbrev cX11_may : ByteArray := prog_1_method_25_code
def yX11_may : MethodName := ⟨RX11, "may", "(III)I"⟩
abbrev cX11_see : ByteArray := prog_1_method_26_code
def yX11_see : MethodName := ⟨RX11, "see", "(IIIII)I"⟩
abbrev cX11_seen : ByteArray := prog_1_method_27_code
def yX11_seen : MethodName := ⟨RX11, "seen", "(III)I"⟩
abbrev cX11_owed : ByteArray := prog_1_method_28_code
def yX11_owed : MethodName := ⟨RX11, "owed", "(I)I"⟩
abbrev cX11_mark : ByteArray := prog_1_method_29_code
def yX11_mark : MethodName := ⟨RX11, "mark", "(II)I"⟩
abbrev cX11_blame : ByteArray := prog_1_method_30_code
def yX11_blame : MethodName := ⟨RX11, "blame", "(III)I"⟩
abbrev cX11_put : ByteArray := prog_1_method_31_code
def yX11_put : MethodName := ⟨RX11, "put", "(III)I"⟩
abbrev cX11_sum : ByteArray := prog_1_method_32_code
def yX11_sum : MethodName := ⟨RX11, "sum", "(II)I"⟩
abbrev cX11_restore : ByteArray := prog_1_method_33_code
def yX11_restore : MethodName := ⟨RX11, "restore", "(III)I"⟩
abbrev cX11_hang : ByteArray := prog_1_method_34_code
def yX11_hang : MethodName := ⟨RX11, "hang", "(III)I"⟩
abbrev cX11_behind : ByteArray := prog_1_method_35_code
def yX11_behind : MethodName := ⟨RX11, "behind", "(I)I"⟩
abbrev cX11_fall : ByteArray := prog_1_method_36_code
def yX11_fall : MethodName := ⟨RX11, "fall", "(I)I"⟩
abbrev cX11_tree : ByteArray := prog_1_method_37_code
def yX11_tree : MethodName := ⟨RX11, "tree", "(I)I"⟩
abbrev cX11_told : ByteArray := prog_1_method_38_code
def yX11_told : MethodName := ⟨RX11, "told", "(I)I"⟩
abbrev cX11_between : ByteArray := prog_1_method_39_code
def yX11_between : MethodName := ⟨RX11, "between", "(III)Z"⟩
abbrev cX11_isFilm : ByteArray := prog_1_method_40_code
def yX11_isFilm : MethodName := ⟨RX11, "isFilm", "(I)Z"⟩
abbrev cX11_isSeer : ByteArray := prog_1_method_41_code
def yX11_isSeer : MethodName := ⟨RX11, "isSeer", "(I)Z"⟩
abbrev cX11_isNode : ByteArray := prog_1_method_42_code
def yX11_isNode : MethodName := ⟨RX11, "isNode", "(I)Z"⟩
abbrev cX11_forgetShows : ByteArray := prog_1_method_43_code
def yX11_forgetShows : MethodName := ⟨RX11, "forgetShows", "()V"⟩
def RX12 : String := "FilmLinesModel"
def TX12 : u_T := fun k => match k with
  | 0 => ("FilmLinesModel", "frames", "I", false)
  | 1 => ("FilmLinesModel", "dots", "[I", true)
  | 2 => ("FilmLinesModel", "isKey", "[Z", true)
  | 3 => ("FilmLinesModel", "told", "[I", true)
  | 4 => ("FilmLinesModel", "pieces", "I", false)
  | 5 => ("FilmLinesModel", "size", "[I", true)
  | 6 => ("FilmLinesModel", "doors", "I", false)
  | 7 => ("FilmLinesModel", "line", "[I", true)
  | 8 => ("FilmLinesModel", "signs", "I", false)
  | 9 => ("FilmLinesModel", "sign", "[I", true)
  | 10 => ("FilmLinesModel", "ruleMany", "I", false)
  | 11 => ("FilmLinesModel", "ruleSign", "[I", true)
  | 12 => ("FilmLinesModel", "room", "[I", true)
  | 13 => ("FilmLinesModel", "far", "[I", true)
  | 14 => ("FilmLinesModel", "weight", "[I", true)
  | 15 => ("FilmLinesModel", "asks", "[I", true)
  | 16 => ("FilmLinesModel", "rights", "I", false)
  | 17 => ("FilmLinesModel", "right", "[I", true)
  | 18 => ("FilmLinesModel", "seerLand", "[I", true)
  | 19 => ("FilmLinesModel", "seconds", "[Z", true)
  | 20 => ("FilmLinesModel", "times", "[I", true)
  | 21 => ("FilmLinesModel", "marks", "[I", true)
  | 22 => ("FilmLinesModel", "group", "[I", true)
  | 23 => ("FilmLinesModel", "hangs", "[I", true)
  | 24 => ("FilmLinesModel", "delay", "[I", true)
  | 25 => ("FilmLinesModel", "fallen", "[Z", true)
  | 26 => ("FilmLinesModel", "ways", "[I", true)
  | 27 => ("FilmLinesModel", "open", "[I", true)
  | 28 => ("FilmLinesModel", "bitsOf", "[I", true)
  | 29 => ("FilmLinesModel", "lossOf", "[I", true)
  | 30 => ("FilmLinesModel", "loss", "[I", true)
  | 31 => ("FilmLinesModel", "seen", "I", false)
  | 32 => ("FilmLinesModel", "still", "I", false)
  | 33 => ("FilmLinesModel", "sizes", "I", false)
  | 34 => ("FilmLinesModel", "lastSeen", "I", false)
  | 35 => ("FilmLinesModel", "shown", "[I", true)
  | _ => ("FilmLinesModel", "wished", "[I", true)
def tyX12 : Nat → FieldType := fun k => match k with
  | 0 => .int
  | 1 => .array .int
  | 2 => .array .boolean
  | 3 => .array .int
  | 4 => .int
  | 5 => .array .int
  | 6 => .int
  | 7 => .array .int
  | 8 => .int
  | 9 => .array .int
  | 10 => .int
  | 11 => .array .int
  | 12 => .array .int
  | 13 => .array .int
  | 14 => .array .int
  | 15 => .array .int
  | 16 => .int
  | 17 => .array .int
  | 18 => .array .int
  | 19 => .array .boolean
  | 20 => .array .int
  | 21 => .array .int
  | 22 => .array .int
  | 23 => .array .int
  | 24 => .array .int
  | 25 => .array .boolean
  | 26 => .array .int
  | 27 => .array .int
  | 28 => .array .int
  | 29 => .array .int
  | 30 => .array .int
  | 31 => .int
  | 32 => .int
  | 33 => .int
  | 34 => .int
  | 35 => .array .int
  | _ => .array .int
abbrev wsX120 : List Cond := u_ws RX12 TX12 37
theorem nmX12 : ∀ a, a < 37 → ∀ b, b < 37 → a ≠ b → (TX12 a).2.1 ≠ (TX12 b).2.1 := by decide +kernel
theorem tyX12_ok : ∀ k, k < 37 → parseFieldDescriptor (TX12 k).2.2.1 = some (tyX12 k) := by decide +kernel
abbrev cX12_init : ByteArray := prog_14_method_1_code
def yX12_init : MethodName := ⟨RX12, "<init>", "()V"⟩
abbrev cX12_in : ByteArray := prog_14_method_2_code
def yX12_in : MethodName := ⟨RX12, "in", "(III)Z"⟩
abbrev cX12_isFrame : ByteArray := prog_14_method_3_code
def yX12_isFrame : MethodName := ⟨RX12, "isFrame", "(I)Z"⟩
abbrev cX12_frame : ByteArray := prog_14_method_4_code
def yX12_frame : MethodName := ⟨RX12, "frame", "()I"⟩
abbrev cX12_dot : ByteArray := prog_14_method_5_code
def yX12_dot : MethodName := ⟨RX12, "dot", "(III)I"⟩
abbrev cX12_key : ByteArray := prog_14_method_6_code
def yX12_key : MethodName := ⟨RX12, "key", "(IZ)I"⟩
abbrev cX12_set : ByteArray := prog_14_method_7_code
def yX12_set : MethodName := ⟨RX12, "set", "(II)I"⟩
abbrev cX12_costOf : ByteArray := prog_14_method_8_code
def yX12_costOf : MethodName := ⟨RX12, "costOf", "(I)I"⟩
abbrev cX12_dotAt : ByteArray := prog_14_method_9_code
def yX12_dotAt : MethodName := ⟨RX12, "dotAt", "(II)I"⟩
abbrev cX12_held : ByteArray := prog_14_method_10_code
def yX12_held : MethodName := ⟨RX12, "held", "(I)I"⟩
abbrev cX12_openBy : ByteArray := prog_14_method_11_code
def yX12_openBy : MethodName := ⟨RX12, "openBy", "(IIII)I"⟩
abbrev cX12_cutFrame : ByteArray := prog_14_method_12_code
def yX12_cutFrame : MethodName := ⟨RX12, "cutFrame", "(I)V"⟩
abbrev cX12_cut : ByteArray := prog_14_method_13_code
def yX12_cut : MethodName := ⟨RX12, "cut", "(I)V"⟩
abbrev cX12_way : ByteArray := prog_14_method_14_code
def yX12_way : MethodName := ⟨RX12, "way", "(II)I"⟩
abbrev cX12_opened : ByteArray := prog_14_method_15_code
def yX12_opened : MethodName := ⟨RX12, "opened", "(II)I"⟩
abbrev cX12_unlike : ByteArray := prog_14_method_16_code
def yX12_unlike : MethodName := ⟨RX12, "unlike", "(I)I"⟩
abbrev cX12_isScene : ByteArray := prog_14_method_17_code
def yX12_isScene : MethodName := ⟨RX12, "isScene", "(I)Z"⟩
abbrev cX12_isStill : ByteArray := prog_14_method_18_code
def yX12_isStill : MethodName := ⟨RX12, "isStill", "(I)Z"⟩
abbrev cX12_of : ByteArray := prog_14_method_19_code
def yX12_of : MethodName := ⟨RX12, "of", "(II)I"⟩
abbrev cX12_pieces : ByteArray := prog_14_method_20_code
def yX12_pieces : MethodName := ⟨RX12, "pieces", "(I)I"⟩
abbrev cX12_bits : ByteArray := prog_14_method_21_code
def yX12_bits : MethodName := ⟨RX12, "bits", "(III)I"⟩
abbrev cX12_doors : ByteArray := prog_14_method_22_code
def yX12_doors : MethodName := ⟨RX12, "doors", "(I)I"⟩
abbrev cX12_line : ByteArray := prog_14_method_23_code
def yX12_line : MethodName := ⟨RX12, "line", "(III)I"⟩
abbrev cX12_say : ByteArray := prog_14_method_24_code
def yX12_say : MethodName := ⟨RX12, "say", "(I)I"⟩
abbrev cX12_wipe : ByteArray := prog_14_method_25_code
def yX12_wipe : MethodName := ⟨RX12, "wipe", "()I"⟩
abbrev cX12_faultOf : ByteArray := prog_14_method_26_code
def yX12_faultOf : MethodName := ⟨RX12, "faultOf", "()I"⟩
abbrev cX12_fault : ByteArray := prog_14_method_27_code
def yX12_fault : MethodName := ⟨RX12, "fault", "()I"⟩
abbrev cX12_rule : ByteArray := prog_14_method_28_code
def yX12_rule : MethodName := ⟨RX12, "rule", "()I"⟩
abbrev cX12_pick : ByteArray := prog_14_method_29_code
def yX12_pick : MethodName := ⟨RX12, "pick", "(IIII)I"⟩
abbrev cX12_run : ByteArray := prog_14_method_30_code
def yX12_run : MethodName := ⟨RX12, "run", "(Z)V"⟩
abbrev cX12_tell : ByteArray := prog_14_method_31_code
def yX12_tell : MethodName := ⟨RX12, "tell", "(I)I"⟩
abbrev cX12_isTold : ByteArray := prog_14_method_32_code
def yX12_isTold : MethodName := ⟨RX12, "isTold", "(I)Z"⟩
abbrev cX12_show : ByteArray := prog_14_method_33_code
def yX12_show : MethodName := ⟨RX12, "show", "(I)I"⟩
abbrev cX12_wish : ByteArray := prog_14_method_34_code
def yX12_wish : MethodName := ⟨RX12, "wish", "(I)V"⟩
abbrev cX12_best : ByteArray := prog_14_method_35_code
def yX12_best : MethodName := ⟨RX12, "best", "(I)I"⟩
abbrev cX12_isTown : ByteArray := prog_14_method_36_code
def yX12_isTown : MethodName := ⟨RX12, "isTown", "(I)Z"⟩
abbrev cX12_isFilm : ByteArray := prog_14_method_37_code
def yX12_isFilm : MethodName := ⟨RX12, "isFilm", "(I)Z"⟩
abbrev cX12_isSeer : ByteArray := prog_14_method_38_code
def yX12_isSeer : MethodName := ⟨RX12, "isSeer", "(I)Z"⟩
abbrev cX12_town : ByteArray := prog_14_method_39_code
def yX12_town : MethodName := ⟨RX12, "town", "(III)I"⟩
abbrev cX12_weight : ByteArray := prog_14_method_40_code
def yX12_weight : MethodName := ⟨RX12, "weight", "(II)I"⟩
abbrev cX12_ask : ByteArray := prog_14_method_41_code
def yX12_ask : MethodName := ⟨RX12, "ask", "(III)I"⟩
abbrev cX12_kept : ByteArray := prog_14_method_42_code
def yX12_kept : MethodName := ⟨RX12, "kept", "(II)I"⟩
abbrev cX12_right : ByteArray := prog_14_method_43_code
def yX12_right : MethodName := ⟨RX12, "right", "(IIIII)I"⟩
abbrev cX12_land : ByteArray := prog_14_method_44_code
def yX12_land : MethodName := ⟨RX12, "land", "(II)I"⟩
abbrev cX12_mayIt : ByteArray := prog_14_method_45_code
def yX12_mayIt : MethodName := ⟨RX12, "mayIt", "(III)Z"⟩
abbrev cX12_may : ByteArray := prog_14_method_46_code
def yX12_may : MethodName := ⟨RX12, "may", "(III)I"⟩
abbrev cX12_see : ByteArray := prog_14_method_47_code
def yX12_see : MethodName := ⟨RX12, "see", "(IIIII)I"⟩
abbrev cX12_seenOf : ByteArray := prog_14_method_48_code
def yX12_seenOf : MethodName := ⟨RX12, "seenOf", "(II)I"⟩
abbrev cX12_seen : ByteArray := prog_14_method_49_code
def yX12_seen : MethodName := ⟨RX12, "seen", "(III)I"⟩
abbrev cX12_owed : ByteArray := prog_14_method_50_code
def yX12_owed : MethodName := ⟨RX12, "owed", "(I)I"⟩
abbrev cX12_mark : ByteArray := prog_14_method_51_code
def yX12_mark : MethodName := ⟨RX12, "mark", "(II)I"⟩
abbrev cX12_blame : ByteArray := prog_14_method_52_code
def yX12_blame : MethodName := ⟨RX12, "blame", "(III)I"⟩
abbrev cX12_isGroup : ByteArray := prog_14_method_53_code
def yX12_isGroup : MethodName := ⟨RX12, "isGroup", "(I)Z"⟩
abbrev cX12_put : ByteArray := prog_14_method_54_code
def yX12_put : MethodName := ⟨RX12, "put", "(III)I"⟩
abbrev cX12_sum : ByteArray := prog_14_method_55_code
def yX12_sum : MethodName := ⟨RX12, "sum", "(II)I"⟩
abbrev cX12_restore : ByteArray := prog_14_method_56_code
def yX12_restore : MethodName := ⟨RX12, "restore", "(III)I"⟩
abbrev cX12_isNode : ByteArray := prog_14_method_57_code
def yX12_isNode : MethodName := ⟨RX12, "isNode", "(I)Z"⟩
abbrev cX12_hungOn : ByteArray := prog_14_method_58_code
def yX12_hungOn : MethodName := ⟨RX12, "hungOn", "(II)I"⟩
abbrev cX12_hang : ByteArray := prog_14_method_59_code
def yX12_hang : MethodName := ⟨RX12, "hang", "(III)I"⟩
abbrev cX12_behindOf : ByteArray := prog_14_method_60_code
def yX12_behindOf : MethodName := ⟨RX12, "behindOf", "(I)I"⟩
abbrev cX12_behind : ByteArray := prog_14_method_61_code
def yX12_behind : MethodName := ⟨RX12, "behind", "(I)I"⟩
abbrev cX12_isBelow : ByteArray := prog_14_method_62_code
def yX12_isBelow : MethodName := ⟨RX12, "isBelow", "(II)Z"⟩
abbrev cX12_fall : ByteArray := prog_14_method_63_code
def yX12_fall : MethodName := ⟨RX12, "fall", "(I)I"⟩
abbrev cX12_tree : ByteArray := prog_14_method_64_code
def yX12_tree : MethodName := ⟨RX12, "tree", "(I)I"⟩
abbrev cX12_told : ByteArray := prog_14_method_65_code
def yX12_told : MethodName := ⟨RX12, "told", "(I)I"⟩
def RJ6 : String := "java/lang/Integer"
def TJ6 : u_T := fun k => match k with
  | _ => ("", "", "", false)
def tyJ6 : Nat → FieldType := fun k => match k with
  | _ => .int
abbrev wsJ60 : List Cond := u_ws RJ6 TJ6 0
theorem nmJ6 : ∀ a, a < 0 → ∀ b, b < 0 → a ≠ b → (TJ6 a).2.1 ≠ (TJ6 b).2.1 := by decide +kernel
theorem tyJ6_ok : ∀ k, k < 0 → parseFieldDescriptor (TJ6 k).2.2.1 = some (tyJ6 k) := by decide +kernel
abbrev cJ6_bitCount_0f7a4 : ByteArray := prog_15_method_49_code
def yJ6_bitCount_0f7a4 : MethodName := ⟨RJ6, "bitCount", "(I)I"⟩
def RJ13 : String := "java/lang/Long"
def TJ13 : u_T := fun k => match k with
  | _ => ("", "", "", false)
def tyJ13 : Nat → FieldType := fun k => match k with
  | _ => .int
abbrev wsJ130 : List Cond := u_ws RJ13 TJ13 0
theorem nmJ13 : ∀ a, a < 0 → ∀ b, b < 0 → a ≠ b → (TJ13 a).2.1 ≠ (TJ13 b).2.1 := by decide +kernel
theorem tyJ13_ok : ∀ k, k < 0 → parseFieldDescriptor (TJ13 k).2.2.1 = some (tyJ13 k) := by decide +kernel
abbrev cJ13_bitCount_95d88 : ByteArray := prog_16_method_50_code
def yJ13_bitCount_95d88 : MethodName := ⟨RJ13, "bitCount", "(J)I"⟩
def RJ9 : String := "java/lang/Math"
def TJ9 : u_T := fun k => match k with
  | _ => ("", "", "", false)
def tyJ9 : Nat → FieldType := fun k => match k with
  | _ => .int
abbrev wsJ90 : List Cond := u_ws RJ9 TJ9 0
theorem nmJ9 : ∀ a, a < 0 → ∀ b, b < 0 → a ≠ b → (TJ9 a).2.1 ≠ (TJ9 b).2.1 := by decide +kernel
theorem tyJ9_ok : ∀ k, k < 0 → parseFieldDescriptor (TJ9 k).2.2.1 = some (tyJ9 k) := by decide +kernel
abbrev cJ9_abs_0f7a4 : ByteArray := prog_17_method_59_code
def yJ9_abs_0f7a4 : MethodName := ⟨RJ9, "abs", "(I)I"⟩
abbrev cJ9_max_7cf53 : ByteArray := prog_17_method_65_code
def yJ9_max_7cf53 : MethodName := ⟨RJ9, "max", "(II)I"⟩
abbrev cJ9_min_7cf53 : ByteArray := prog_17_method_69_code
def yJ9_min_7cf53 : MethodName := ⟨RJ9, "min", "(II)I"⟩
def RJ10 : String := "java/lang/System"
def TJ10 : u_T := fun k => match k with
  | _ => ("", "", "", false)
def tyJ10 : Nat → FieldType := fun k => match k with
  | _ => .int
abbrev wsJ100 : List Cond := u_ws RJ10 TJ10 0
theorem nmJ10 : ∀ a, a < 0 → ∀ b, b < 0 → a ≠ b → (TJ10 a).2.1 ≠ (TJ10 b).2.1 := by decide +kernel
theorem tyJ10_ok : ∀ k, k < 0 → parseFieldDescriptor (TJ10 k).2.2.1 = some (tyJ10 k) := by decide +kernel
def RL : String := "FilmLinesLaw"
abbrev cL_law : ByteArray := code
def yL_law : MethodName := ⟨RL, "law", "([I)Z"⟩
abbrev classes : List vw_C := [(RX0, TX0, 11), (RX1, TX1, 8), (RX2, TX2, 4), (RX3, TX3, 9), (RX4, TX4, 1), (RX5, TX5, 1), (RX6, TX6, 3), (RX7, TX7, 9), (RX8, TX8, 8), (RX9, TX9, 7), (RX10, TX10, 4), (RX11, TX11, 13), (RX12, TX12, 37)]
theorem inX0 : ∀ w ∈ u_ws RX0 TX0 11, w ∈ lw_tbl := by decide +kernel
theorem inX1 : ∀ w ∈ u_ws RX1 TX1 8, w ∈ lw_tbl := by decide +kernel
theorem inX2 : ∀ w ∈ u_ws RX2 TX2 4, w ∈ lw_tbl := by decide +kernel
theorem inX3 : ∀ w ∈ u_ws RX3 TX3 9, w ∈ lw_tbl := by decide +kernel
theorem inX4 : ∀ w ∈ u_ws RX4 TX4 1, w ∈ lw_tbl := by decide +kernel
theorem inX5 : ∀ w ∈ u_ws RX5 TX5 1, w ∈ lw_tbl := by decide +kernel
theorem inX6 : ∀ w ∈ u_ws RX6 TX6 3, w ∈ lw_tbl := by decide +kernel
theorem inX7 : ∀ w ∈ u_ws RX7 TX7 9, w ∈ lw_tbl := by decide +kernel
theorem inX8 : ∀ w ∈ u_ws RX8 TX8 8, w ∈ lw_tbl := by decide +kernel
theorem inX9 : ∀ w ∈ u_ws RX9 TX9 7, w ∈ lw_tbl := by decide +kernel
theorem inX10 : ∀ w ∈ u_ws RX10 TX10 4, w ∈ lw_tbl := by decide +kernel
theorem inX11 : ∀ w ∈ u_ws RX11 TX11 13, w ∈ lw_tbl := by decide +kernel
theorem inX12 : ∀ w ∈ u_ws RX12 TX12 37, w ∈ lw_tbl := by decide +kernel
end

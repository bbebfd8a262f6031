/-! ===== the class's show ===== -/
abbrev QS (P : Option AV → MM → ML → Prop) : Option AV → List SH → MM → ML → Prop := fun r S μ' ν' => S = S0 ∧ P r μ' ν'
abbrev PQ (ν : ML) (cs : List Nat) (μ0 : MM) (E : MM → Prop) : Option AV → MM → ML → Prop := fun r μ' ν' => r = none ∧ ν' = ν ∧ SR cs μ0 μ' ∧ E μ'
theorem fs_ch {μ0 : MM} {p seen t now : Int} : (fdS μ0).ch p seen t now = if dor (μ0 14 3) p then pk μ0 (p - seen) (if t = 0 then 0 else μ0 15 (t - 1)) now p (μ0 17 6).toNat 0 else now := rfl
theorem c_begin {κ : KX} {μ0 μ : MM} {ν : ML} {W : WS} {t : Int} (h : FS μ0) (hS : SR [23, 24] μ0 μ) (hE : eC μ W) (hW : WI (fdS μ0) W) (ht : 0 ≤ t ∧ t < 60) (hw : W.whole < μ0 14 2) (hm : W.miss = 0) : AQ κ 1 mX9_begin [aR 23, aR 14, aR 17, aI W.whole, aI t] μ ν (PQ ν [23, 24] μ0 (fun μ' => eC μ' (bgn (fdS μ0) t W))) := by
  have hD := h.ok
  have B := WI_bgn hD hW ht hw hm
  have hn := hW.now
  obtain ⟨⟨f1, f2, f3, f4⟩, ra, f5⟩ := id h
  obtain ⟨⟨a1, a2, a3⟩, b, c, d, e⟩ := id hW
  obtain ⟨c1, c2, c3, c4, c5, c6, c7⟩ := id hE
  have e14 : μ 14 = μ0 14 := hS 14 (by decide)
  have e15 : μ 15 = μ0 15 := hS 15 (by decide)
  have e16 : μ 16 = μ0 16 := hS 16 (by decide)
  have e17 : μ 17 = μ0 17 := hS 17 (by decide)
  have e19 : μ 19 = μ0 19 := hS 19 (by decide)
  have e20 : μ 20 = μ0 20 := hS 20 (by decide)
  have e21 : μ 21 = μ0 21 := hS 21 (by decide)
  have e22 : μ 22 = μ0 22 := hS 22 (by decide)
  have kc : KC μ := by
    have := ra.kc
    unfold KC at this ⊢
    rw [e17, e19, e20, e21, e22]
    exact this
  have E69 : ∀ (s : Int) (u5 : AV) (y6 : Int) (u7 : AV), s = (fdS μ0).ch W.whole W.seen t (nowOf W) → AX κ mX9_begin 1 (QS (PQ ν [23, 24] μ0 (fun μ' => eC μ' (bgn (fdS μ0) t W)))) 69 [aR 23, aR 14, aR 17, aI W.whole, aI t, u5, aI y6, u7] [aI s] μ ν := fun s u5 y6 u7 es => by
    have hs := B.2.2
    rw [← es] at hs
    refine aw_blk oX9_begin_69 (pc' := 84) (ls' := [_, _, _, _, _, _, _, _]) (st' := [_, _, _, _]) (cs := [(_, _)]) rfl (⟨⟨by omega, by omega⟩, trivial⟩) ?_
    refine aw_ciV (rest := [_]) (c_bitsOf (p := W.whole) (s := s) (by omega) (by omega)) kX2_bitsOf eX9_begin_84 lX9_begin_84 rfl rfl rfl rfl (Nat.le_of_ble_eq_true rfl) ⟨Nat.le_of_ble_eq_true rfl, Nat.le_of_ble_eq_true rfl⟩ ⟨Nat.le_refl _, Nat.le_refl _⟩ ?_
    refine aw_blk oX9_begin_87 (pc' := 90) (ls' := [_, _, _, _, _, _, _, _]) (st' := []) (cs := []) rfl trivial ?_
    refine aw_vret eX9_begin_90 rfl (Nat.le_refl _) (Nat.le_refl _) ?_
    refine ⟨rfl, rfl, rfl, (hS.put (by decide)).put (by decide), c1, c2, c3, c4, c5, ?_, ?_⟩
    · rw [up_at, up_c (by decide), e16, es]
      rfl
    · intro i h0 h1
      show up _ 23 6 _ 24 i = rowU W.row W.whole _ i
      rw [up_c (by decide), ← es]
      by_cases q : i = W.whole
      · rw [q, up_at, rowU_at]
      · rw [up_ne (Or.inr q), rowU_ne q]; exact c7 i h0 h1
  have E36 : ∀ (la : Int) (u6 u7 : AV), la = (if t = 0 then 0 else μ0 15 (t - 1)) → AX κ mX9_begin 1 (QS (PQ ν [23, 24] μ0 (fun μ' => eC μ' (bgn (fdS μ0) t W)))) 36 [aR 23, aR 14, aR 17, aI W.whole, aI t, aI (nowOf W), u6, u7] [aI la] μ ν := fun la u6 u7 el => by
    have hla : R32 la := by
      rw [el]
      split
      · decide
      · have := (f4 (t - 1) (by omega) (by omega)).2
        omega
    refine aw_blk oX9_begin_36 (pc' := 40) (ls' := [_, _, _, _, _, _, _, _]) (st' := [_, _]) (cs := []) rfl trivial ?_
    refine aw_ciV (rest := []) (c_isDoor (by omega)) kX2_isDoor eX9_begin_40 lX9_begin_40 rfl rfl rfl rfl (Nat.le_of_ble_eq_true rfl) ⟨Nat.le_of_ble_eq_true rfl, Nat.le_of_ble_eq_true rfl⟩ ⟨Nat.le_refl _, Nat.le_refl _⟩ ?_
    by_cases dd : dor (μ 14 3) W.whole
    · rw [if_pos dd]
      rw [e14] at dd
      refine aw_if_eq (tgt := 67) eX9_begin_43 (by decide) (by omega) (fun h1 => ?_) (fun h1 => ?_)
      · exfalso; omega
      · refine aw_blk oX9_begin_46 (pc' := 61) (ls' := [_, _, _, _, _, _, _, _]) (st' := [_, _, _, _, _]) (cs := []) rfl trivial ?_
        refine aw_ciV (rest := []) (c_pick kc (by omega) hla (by omega) (by omega)) kX8_pick eX9_begin_61 lX9_begin_61 rfl rfl rfl rfl (Nat.le_of_ble_eq_true rfl) ⟨Nat.le_of_ble_eq_true rfl, Nat.le_of_ble_eq_true rfl⟩ ⟨Nat.le_refl _, Nat.le_refl _⟩ ?_
        refine aw_blk oX9_begin_64 (pc' := 69) (ls' := [_, _, _, _, _, _, _, _]) (st' := [_]) (cs := []) rfl trivial ?_
        refine E69 _ _ _ _ ?_
        rw [fs_ch, if_pos dd, c5, c1, ← el, e17]
        exact pk_congr (by rw [e17]) e19 e20 e21 e22 _ _
    · rw [if_neg dd]
      rw [e14] at dd
      refine aw_if_eq (tgt := 67) eX9_begin_43 (by decide) (by omega) (fun h1 => ?_) (fun h1 => ?_)
      · refine aw_blk oX9_begin_67 (pc' := 69) (ls' := [_, _, _, _, _, _, _, _]) (st' := [_]) (cs := []) rfl trivial ?_
        refine E69 _ _ _ _ ?_
        rw [fs_ch, if_neg dd]
      · exfalso; omega
  have E16 : ∀ (z : Int) (u5 u6 u7 : AV), z = nowOf W → AX κ mX9_begin 1 (QS (PQ ν [23, 24] μ0 (fun μ' => eC μ' (bgn (fdS μ0) t W)))) 16 [aR 23, aR 14, aR 17, aI W.whole, aI t, u5, u6, u7] [aI z] μ ν := fun z u5 u6 u7 ez => by
    rw [ez]
    refine aw_blk oX9_begin_16 (pc' := 20) (ls' := [_, _, _, _, _, _, _, _]) (st' := [_]) (cs := []) rfl trivial ?_
    refine aw_if_le (tgt := 35) eX9_begin_20 (by decide) (by omega) (fun h1 => ?_) (fun h1 => ?_)
    · refine aw_blk oX9_begin_35 (pc' := 36) (ls' := [_, _, _, _, _, _, _, _]) (st' := [_]) (cs := []) rfl trivial ?_
      exact E36 _ _ _ (by rw [if_pos (by omega)])
    · refine aw_blk oX9_begin_23 (pc' := 36) (ls' := [_, _, _, _, _, _, _, _]) (st' := [_]) (cs := [(_, _)]) rfl (⟨⟨by omega, by omega⟩, trivial⟩) ?_
      exact E36 _ _ _ (by rw [if_neg (by omega), e15])
  refine AMet.of kX9_begin.1 (Nat.le_of_ble_eq_true rfl) rfl ?_
  refine aw_blk oX9_begin_0 (pc' := 1) (ls' := [_, _, _, _, _, _, _, _]) (st' := [_]) (cs := []) rfl trivial ?_
  refine aw_if_le (tgt := 15) eX9_begin_1 (by decide) (by omega) (fun h1 => ?_) (fun h1 => ?_)
  · refine aw_blk oX9_begin_15 (pc' := 16) (ls' := [_, _, _, _, _, _, _, _]) (st' := [_]) (cs := []) rfl trivial ?_
    exact E16 _ _ _ _ (by unfold nowOf; rw [if_neg (by omega)])
  · refine aw_blk oX9_begin_4 (pc' := 16) (ls' := [_, _, _, _, _, _, _, _]) (st' := [_]) (cs := [(_, _)]) rfl (⟨⟨by omega, by omega⟩, trivial⟩) ?_
    exact E16 _ _ _ _ (by unfold nowOf; rw [if_pos (by omega)]; exact c7 _ (by omega) (by omega))
theorem l_load {κ : KX} {μ0 : MM} {ν : ML} {t : Int} (h : FS μ0) (ht : 0 ≤ t ∧ t < 60) (n : Nat) : ∀ (left piece : Int) (W : WS) (u6 : AV) (μ : MM), SR [23, 24] μ0 μ → eC μ W → WI (fdS μ0) W → (left = 0 ∨ piece = W.whole) → (left = 0 ∨ μ0 14 2 ≤ W.whole + n) → 0 ≤ left → left ≤ 1000 → 0 ≤ piece → piece ≤ 9 → AX κ mX9_load 2 (QS (PQ ν [23, 24] μ0 (fun μ' => eC μ' (lod (fdS μ0) t n left W)))) 14 [aR 23, aR 14, aR 17, aI t, aI left, aI piece, u6] [] μ ν := by
  have hD := h.ok
  obtain ⟨⟨f1, f2, f3, f4⟩, ra, f5⟩ := id h
  induction n with
  | zero =>
    intro left piece W u6 μ hS hE hW hp hn l0 l1 p0 p1
    have e14 : μ 14 2 = μ0 14 2 := by rw [hS 14 (by decide)]
    refine aw_blk oX9_load_14 (pc' := 20) (ls' := [_, _, _, _, _, _, _]) (st' := [_, _]) (cs := []) rfl trivial ?_
    refine aw_icmp_ge (tgt := 101) eX9_load_20 (by decide) (by omega) (by omega) (fun h1 => ?_) (fun h1 => ?_)
    · refine aw_vret eX9_load_101 rfl (Nat.le_refl _) (Nat.le_refl _) ?_
      exact ⟨rfl, rfl, rfl, hS, hE⟩
    · refine aw_blk oX9_load_23 (pc' := 25) (ls' := [_, _, _, _, _, _, _]) (st' := [_]) (cs := []) rfl trivial ?_
      refine aw_if_le (tgt := 101) eX9_load_25 (by decide) (by omega) (fun h2 => ?_) (fun h2 => ?_)
      · refine aw_vret eX9_load_101 rfl (Nat.le_refl _) (Nat.le_refl _) ?_
        exact ⟨rfl, rfl, rfl, hS, hE⟩
      · exfalso; omega
  | succ n ih =>
    intro left piece W u6 μ hS hE hW hp hn l0 l1 p0 p1
    have e14 : μ 14 2 = μ0 14 2 := by rw [hS 14 (by decide)]
    have ecnt : (fdS μ0).cnt = μ0 14 2 := rfl
    obtain ⟨⟨a1, a2, a3⟩, b, c, d, e⟩ := id hW
    refine aw_blk oX9_load_14 (pc' := 20) (ls' := [_, _, _, _, _, _, _]) (st' := [_, _]) (cs := []) rfl trivial ?_
    refine aw_icmp_ge (tgt := 101) eX9_load_20 (by decide) (by omega) (by omega) (fun h1 => ?_) (fun h1 => ?_)
    · refine aw_vret eX9_load_101 rfl (Nat.le_refl _) (Nat.le_refl _) ?_
      refine ⟨rfl, rfl, rfl, hS, ?_⟩
      rw [lod_stop (by omega)]; exact hE
    · refine aw_blk oX9_load_23 (pc' := 25) (ls' := [_, _, _, _, _, _, _]) (st' := [_]) (cs := []) rfl trivial ?_
      refine aw_if_le (tgt := 101) eX9_load_25 (by decide) (by omega) (fun h2 => ?_) (fun h2 => ?_)
      · refine aw_vret eX9_load_101 rfl (Nat.le_refl _) (Nat.le_refl _) ?_
        refine ⟨rfl, rfl, rfl, hS, ?_⟩
        rw [lod_stop (by omega)]; exact hE
      · have ep : piece = W.whole := by omega
        subst ep
        have hw : W.whole < (fdS μ0).cnt := by omega
        have B := WI_bgnQ hD hW ht hw
        have S := bgnQ_same (D := fdS μ0) (W := W) (t := t)
        have el : lod (fdS μ0) t (n + 1) left W = lod (fdS μ0) t n (left - mn left (bgnQ (fdS μ0) t W).miss) (tkn left (bgnQ (fdS μ0) t W)) := by rw [lod, if_pos ⟨by omega, hw⟩]
        rw [el]
        have E49 : ∀ (μ : MM) (V : WS) (u6 : AV), SR [23, 24] μ0 μ → eC μ V → V = bgnQ (fdS μ0) t W → AX κ mX9_load 2 (QS (PQ ν [23, 24] μ0 (fun μ' => eC μ' (lod (fdS μ0) t n (left - mn left (bgnQ (fdS μ0) t W).miss) (tkn left (bgnQ (fdS μ0) t W)))))) 49 [aR 23, aR 14, aR 17, aI t, aI left, aI W.whole, u6] [] μ ν := fun μ V u6 hS hE eV => by
          rw [← eV] at B S ⊢
          obtain ⟨c1, c2, c3, c4, c5, c6, c7⟩ := id hE
          have hV := B.1.2.1
          have q := mn_sp left V.miss
          have T := ih (left - mn left V.miss) (W.whole + 1) (tkn left V)
          have hT := WI_tkn hD B.1 B.2 (show 0 < left by omega)
          refine aw_blk oX9_load_49 (pc' := 55) (ls' := [_, _, _, _, _, _, _]) (st' := [_, _]) (cs := []) rfl trivial ?_
          refine aw_mmin eX9_load_55 lX9_load_55 (by omega) (by omega) (Nat.le_of_ble_eq_true rfl) ⟨Nat.le_of_ble_eq_true rfl, Nat.le_of_ble_eq_true rfl⟩ ⟨Nat.le_refl _, Nat.le_refl _⟩ ?_
          rw [c6]
          have em : (if V.miss < left then V.miss else left) = mn left V.miss := rfl
          rw [em]
          generalize hx : mn left V.miss = x at q T em
          have tm : (tkn left V).miss = V.miss - x := by rw [← hx]; rfl
          refine aw_blk oX9_load_58 (pc' := 82) (ls' := [_, _, _, _, _, _, _]) (st' := [_]) (cs := []) rfl trivial ?_
          rw [up_at, c6]
          have eu : ∀ μ' : MM, (∀ k : Int, k ≠ 5 → μ' 23 k = up μ 23 6 (V.miss - x) 23 k) → (∀ k, k ≠ 23 → μ' k = μ k) → μ' 23 5 = (tkn left V).whole → eC μ' (tkn left V) := fun μ' q1 q2 q3 => by
            refine ⟨?_, ?_, ?_, ?_, q3, ?_, ?_⟩
            · rw [q1 1 (by decide), up_ne (Or.inr (by decide))]; exact c1
            · rw [q1 2 (by decide), up_ne (Or.inr (by decide))]; exact c2
            · rw [q1 3 (by decide), up_ne (Or.inr (by decide))]; exact c3
            · rw [q1 4 (by decide), up_ne (Or.inr (by decide))]; exact c4
            · rw [q1 6 (by decide), up_at]; exact tm.symm
            · rw [q2 24 (by decide)]; exact c7
          refine aw_if_ne (tgt := 95) eX9_load_82 (by decide) (by omega) (fun h3 => ?_) (fun h3 => ?_)
          · refine aw_blk oX9_load_95 (pc' := 14) (ls' := [_, _, _, _, _, _, _]) (st' := []) (cs := []) rfl trivial ?_
            have tw : (tkn left V).whole = V.whole := by
              show (if V.miss - mn left V.miss = 0 then V.whole + 1 else V.whole) = V.whole
              rw [hx, if_neg h3]
            refine T _ _ (hS.put (by decide)) (eu _ (fun _ _ => rfl) (fun k hk => up_cell hk) ?_) hT (Or.inl (by omega)) (Or.inl (by omega)) (by omega) (by omega) (by omega) (by omega)
            rw [tw, up_ne (Or.inr (by decide))]; exact c5
          · have tw : (tkn left V).whole = V.whole + 1 := by
              show (if V.miss - mn left V.miss = 0 then V.whole + 1 else V.whole) = V.whole + 1
              rw [hx, if_pos h3]
            refine aw_blk oX9_load_85 (pc' := 95) (ls' := [_, _, _, _, _, _, _]) (st' := []) (cs := []) rfl trivial ?_
            refine aw_blk oX9_load_95 (pc' := 14) (ls' := [_, _, _, _, _, _, _]) (st' := []) (cs := []) rfl trivial ?_
            refine T _ _ ((hS.put (by decide)).put (by decide)) (eu _ (fun k hk => up_ne (Or.inr hk)) (fun k hk => by rw [up_cell hk, up_cell hk]) ?_) hT (Or.inr (by rw [tw]; omega)) (Or.inr (by rw [tw]; omega)) (by omega) (by omega) (by omega) (by omega)
            rw [tw, up_at, up_ne (Or.inr (by decide)), c5]
        have c7 := hE.2.2.2.2.2.2 W.whole (by omega) (by omega)
        refine aw_blk oX9_load_28 (pc' := 37) (ls' := [_, _, _, _, _, _, _]) (st' := [_, _]) (cs := [(_, _)]) rfl (⟨⟨by omega, by omega⟩, trivial⟩) ?_
        rcases e with ⟨e1, e2⟩ | ⟨e1, e2, e3⟩
        · have e2 := e2 (by omega)
          refine aw_icmp_ne (tgt := 49) eX9_load_37 (by decide) (by omega) (by omega) (fun h3 => ?_) (fun h3 => ?_)
          · exfalso; omega
          · refine aw_blk oX9_load_40 (pc' := 46) (ls' := [_, _, _, _, _, _, _]) (st' := [_, _, _, _, _]) (cs := []) rfl trivial ?_
            refine aw_crV (rest := []) (c_begin h hS hE hW ht (by omega) e1) kX9_begin eX9_load_46 lX9_load_46 rfl rfl rfl rfl (Nat.le_of_ble_eq_true rfl) ⟨Nat.le_of_ble_eq_true rfl, Nat.le_of_ble_eq_true rfl⟩ ⟨Nat.le_refl _, Nat.le_refl _⟩ ?_
            intro r μ' ν' hP
            obtain ⟨rfl, rfl, hS', hE'⟩ := hP
            exact E49 μ' _ _ hS' hE' (by unfold bgnQ; rw [if_pos e1])
        · refine aw_icmp_ne (tgt := 49) eX9_load_37 (by decide) (by omega) (by omega) (fun h3 => ?_) (fun h3 => ?_)
          · exact E49 μ W _ hS hE (by unfold bgnQ; rw [if_neg (by omega)])
          · exfalso; omega
theorem c_load {κ : KX} {μ0 μ : MM} {ν : ML} {W : WS} {t : Int} (h : FS μ0) (hS : SR [23, 24] μ0 μ) (hE : eC μ W) (hW : WI (fdS μ0) W) (ht : 0 ≤ t ∧ t < 60) : AQ κ 2 mX9_load [aR 23, aR 14, aR 17, aI t] μ ν (PQ ν [23, 24] μ0 (fun μ' => eC μ' (lod (fdS μ0) t 8 (μ0 15 t) W))) := by
  have f4 := (h.1.2.2.2 t ht.1 ht.2).2
  have f1 := h.1.1
  have e15 : μ 15 = μ0 15 := hS 15 (by decide)
  have c5 := hE.2.2.2.2.1
  have a := hW.1
  have ecnt : (fdS μ0).cnt = μ0 14 2 := rfl
  refine AMet.of kX9_load.1 (Nat.le_of_ble_eq_true rfl) rfl ?_
  refine aw_blk oX9_load_0 (pc' := 14) (ls' := [_, _, _, _, _, _, _]) (st' := []) (cs := [(_, _)]) rfl (⟨⟨by omega, by omega⟩, trivial⟩) ?_
  rw [e15, c5]
  exact l_load h ht 8 _ _ W _ μ hS hE hW (Or.inr rfl) (Or.inr (by omega)) (by omega) (by omega) (by omega) (by omega)
theorem c_watch {κ : KX} {μ0 μ : MM} {ν : ML} {W : WS} {t : Int} (h : FS μ0) (hS : SR [23, 24] μ0 μ) (hE : eC μ W) (hW : WI (fdS μ0) W) (ht : 0 ≤ t ∧ t < 60) : AQ κ 0 mX9_watch [aR 23, aR 14, aI t] μ ν (PQ ν [23, 24] μ0 (fun μ' => eC μ' (wat (fdS μ0) t W))) := by
  have f1 := h.1.1
  have e14 : μ 14 2 = μ0 14 2 := by rw [hS 14 (by decide)]
  have ecnt : (fdS μ0).cnt = μ0 14 2 := rfl
  obtain ⟨⟨a1, a2, a3⟩, b, c, d, e⟩ := id hW
  obtain ⟨c1, c2, c3, c4, c5, c6, c7⟩ := id hE
  refine AMet.of kX9_watch.1 (Nat.le_of_ble_eq_true rfl) rfl ?_
  refine aw_blk oX9_watch_0 (pc' := 8) (ls' := [_, _, _]) (st' := [_, _]) (cs := []) rfl trivial ?_
  refine aw_icmp_gt (tgt := 22) eX9_watch_8 (by decide) (by omega) (by omega) (fun h1 => ?_) (fun h1 => ?_)
  · have q : wat (fdS μ0) t W = ((W.seen + 1, W.still, W.sum + W.row W.seen, if W.seen + 1 = μ0 14 2 then t else W.last), W.2) := by
      unfold wat
      rw [if_neg (by omega)]
      rfl
    rw [q]
    have g := c7 W.seen (by omega) (by omega)
    refine aw_blk oX9_watch_22 (pc' := 58) (ls' := [_, _, _]) (st' := [_, _]) (cs := [(_, _)]) rfl (⟨⟨by omega, by omega⟩, trivial⟩) ?_
    have r1 : ∀ v w : Int, up (up μ 23 3 v) 23 1 w 23 1 = w := fun _ _ => rfl
    have r2 : ∀ v w : Int, up (up μ 23 3 v) 23 1 w 14 2 = μ 14 2 := fun _ _ => rfl
    have r3 : ∀ v : Int, up μ 23 3 v 23 1 = μ 23 1 := fun _ => rfl
    rw [r1, r2, r3]
    refine aw_icmp_ne (tgt := 66) eX9_watch_58 (by decide) (by omega) (by omega) (fun h2 => ?_) (fun h2 => ?_)
    · refine aw_vret eX9_watch_66 rfl (Nat.le_refl _) (Nat.le_refl _) ?_
      rw [if_neg (by omega)]
      refine ⟨rfl, rfl, rfl, (hS.put (by decide)).put (by decide), ?_, c2, ?_, c4, c5, c6, c7⟩
      · show μ 23 1 + 1 = W.seen + 1
        omega
      · show μ 23 3 + μ 24 (μ 23 1) = W.sum + W.row W.seen
        rw [c1, g]; omega
    · refine aw_blk oX9_watch_61 (pc' := 66) (ls' := [_, _, _]) (st' := []) (cs := []) rfl trivial ?_
      refine aw_vret eX9_watch_66 rfl (Nat.le_refl _) (Nat.le_refl _) ?_
      rw [if_pos (by omega)]
      refine ⟨rfl, rfl, rfl, ((hS.put (by decide)).put (by decide)).put (by decide), ?_, c2, ?_, rfl, c5, c6, c7⟩
      · show μ 23 1 + 1 = W.seen + 1
        omega
      · show μ 23 3 + μ 24 (μ 23 1) = W.sum + W.row W.seen
        rw [c1, g]; omega
  · have q : wat (fdS μ0) t W = ((W.seen, W.still + 1, W.sum, W.last), W.2) := by
      unfold wat
      rw [if_pos (by omega)]
    rw [q]
    refine aw_blk oX9_watch_11 (pc' := 21) (ls' := [_, _, _]) (st' := []) (cs := []) rfl trivial ?_
    refine aw_vret eX9_watch_21 rfl (Nat.le_refl _) (Nat.le_refl _) ?_
    refine ⟨rfl, rfl, rfl, hS.put (by decide), c1, ?_, c3, c4, c5, c6, c7⟩
    show μ 23 2 + 1 = W.still + 1
    omega
theorem l_run {κ : KX} {μ0 : MM} {ν : ML} (h : FS μ0) (n : Nat) : ∀ (t : Int) (W : WS) (μ : MM), SR [23, 24] μ0 μ → eC μ W → WI (fdS μ0) W → WB (fdS μ0) t W → 0 ≤ t → t + n = 60 → AX κ mX9_run 3 (QS (PQ ν [23, 24] μ0 (fun μ' => eC μ' (shw (fdS μ0) n t W)))) 27 [aR 23, aR 14, aR 17, aI (μ0 1 2), aI (mn (μ0 1 2) (μ0 14 2)), aI t] [] μ ν := by
  have hD := h.ok
  have f1 := h.1.1
  have f5 := h.2.2
  have ecnt : (fdS μ0).cnt = μ0 14 2 := rfl
  have q := mn_sp (μ0 1 2) (μ0 14 2)
  induction n with
  | zero =>
    intro t W μ hS hE hW hB h0 hn
    refine aw_blk oX9_run_27 (pc' := 31) (ls' := [_, _, _, _, _, _]) (st' := [_, _]) (cs := []) rfl trivial ?_
    refine aw_icmp_ge (tgt := 75) eX9_run_31 (by decide) (by omega) (by omega) (fun h1 => ?_) (fun h1 => ?_)
    · refine aw_vret eX9_run_75 rfl (Nat.le_refl _) (Nat.le_refl _) ?_
      exact ⟨rfl, rfl, rfl, hS, hE⟩
    · exfalso; omega
  | succ n ih =>
    intro t W μ hS hE hW hB h0 hn
    have e14 : μ 14 2 = μ0 14 2 := by rw [hS 14 (by decide)]
    have c1 := hE.1
    have a := hW.1
    refine aw_blk oX9_run_27 (pc' := 31) (ls' := [_, _, _, _, _, _]) (st' := [_, _]) (cs := []) rfl trivial ?_
    refine aw_icmp_ge (tgt := 75) eX9_run_31 (by decide) (by omega) (by omega) (fun h1 => ?_) (fun h1 => ?_)
    · exfalso; omega
    · refine aw_blk oX9_run_34 (pc' := 42) (ls' := [_, _, _, _, _, _]) (st' := [_, _]) (cs := []) rfl trivial ?_
      refine aw_icmp_ge (tgt := 75) eX9_run_42 (by decide) (by omega) (by omega) (fun h2 => ?_) (fun h2 => ?_)
      · refine aw_vret eX9_run_75 rfl (Nat.le_refl _) (Nat.le_refl _) ?_
        rw [shw, if_neg (by omega)]
        exact ⟨rfl, rfl, rfl, hS, hE⟩
      · refine aw_blk oX9_run_45 (pc' := 50) (ls' := [_, _, _, _, _, _]) (st' := [_, _, _, _]) (cs := []) rfl trivial ?_
        refine aw_crV (rest := []) (c_load h hS hE hW ⟨h0, by omega⟩) kX9_load eX9_run_50 lX9_run_50 rfl rfl rfl rfl (Nat.le_of_ble_eq_true rfl) ⟨Nat.le_of_ble_eq_true rfl, Nat.le_of_ble_eq_true rfl⟩ ⟨Nat.le_refl _, Nat.le_refl _⟩ ?_
        intro r μ1 ν1 hP
        obtain ⟨rfl, rfl, hS1, hE1⟩ := hP
        have L := lod_inv hD ⟨h0, by omega⟩ 8 (μ0 15 t) W (h.1.2.2.2 t h0 (by omega)).2.1 hW
        have el : (fdS μ0).line t = μ0 15 t := rfl
        have hB1 : WB (fdS μ0) t (lod (fdS μ0) t 8 (μ0 15 t) W) := by
          unfold WB
          rw [L.2.1, L.2.2.1, L.2.2.2.1, L.2.2.2.2.1]
          exact hB
        have C := wtc_inv hD ⟨h0, by omega⟩ L.1 hB1 (by rw [L.2.1]; omega)
        rw [shw, if_pos (by omega), el]
        generalize lod (fdS μ0) t 8 (μ0 15 t) W = V at hE1 L hB1 C
        have T := fun μ2 q1 q2 => ih (t + 1) (wtc (fdS μ0) t V) μ2 q1 q2 C.1 C.2.1 (by omega) (by omega)
        have c5 := hE1.2.2.2.2.1
        have aV := L.1.1
        refine aw_blk oX9_run_53 (pc' := 59) (ls' := [_, _, _, _, _, _]) (st' := [_, _]) (cs := []) rfl trivial ?_
        rw [c5]
        have em : mn (fdS μ0).start (fdS μ0).cnt = mn (μ0 1 2) (μ0 14 2) := rfl
        refine aw_icmp_lt (tgt := 69) eX9_run_59 (by decide) (by omega) (by omega) (fun h3 => ?_) (fun h3 => ?_)
        · refine aw_blk oX9_run_69 (pc' := 27) (ls' := [_, _, _, _, _, _]) (st' := []) (cs := []) rfl trivial ?_
          refine T μ1 hS1 ?_
          unfold wtc
          rw [if_neg (by omega)]
          exact hE1
        · refine aw_blk oX9_run_62 (pc' := 66) (ls' := [_, _, _, _, _, _]) (st' := [_, _, _]) (cs := []) rfl trivial ?_
          refine aw_crV (rest := []) (c_watch h hS1 hE1 L.1 ⟨h0, by omega⟩) kX9_watch eX9_run_66 lX9_run_66 rfl rfl rfl rfl (Nat.le_of_ble_eq_true rfl) ⟨Nat.le_of_ble_eq_true rfl, Nat.le_of_ble_eq_true rfl⟩ ⟨Nat.le_refl _, Nat.le_refl _⟩ ?_
          intro r μ2 ν2 hP
          obtain ⟨rfl, rfl, hS2, hE2⟩ := hP
          refine aw_blk oX9_run_69 (pc' := 27) (ls' := [_, _, _, _, _, _]) (st' := []) (cs := []) rfl trivial ?_
          refine T μ2 hS2 ?_
          unfold wtc
          rw [if_pos (by omega)]
          exact hE2
theorem l_clear {κ : KX} {μ0 : MM} {ν : ML} (n : Nat) : ∀ (i : Int) (μ : MM), SR [23, 24] μ0 μ → μ 23 1 = 0 ∧ μ 23 2 = 0 ∧ μ 23 3 = 0 ∧ μ 23 4 = -6 → (∀ x : Int, 0 ≤ x → x < i → μ 24 x = -6) → 0 ≤ i → i + n = 8 → AX κ mX9_clear 0 (QS (PQ ν [23, 24] μ0 (fun μ' => (μ' 23 1 = 0 ∧ μ' 23 2 = 0 ∧ μ' 23 3 = 0 ∧ μ' 23 4 = -6) ∧ ∀ x : Int, 0 ≤ x → x < 8 → μ' 24 x = -6))) 23 [aR 23, aI i] [] μ ν := by
  induction n with
  | zero =>
    intro i μ hS hc hx h0 hn
    refine aw_blk oX9_clear_23 (pc' := 26) (ls' := [_, _]) (st' := [_, _]) (cs := []) rfl trivial ?_
    refine aw_icmp_ge (tgt := 43) eX9_clear_26 (by decide) (by omega) (by omega) (fun h1 => ?_) (fun h1 => ?_)
    · refine aw_vret eX9_clear_43 rfl (Nat.le_refl _) (Nat.le_refl _) ?_
      exact ⟨rfl, rfl, rfl, hS, hc, fun x q0 q1 => hx x q0 (by omega)⟩
    · exfalso; omega
  | succ n ih =>
    intro i μ hS hc hx h0 hn
    refine aw_blk oX9_clear_23 (pc' := 26) (ls' := [_, _]) (st' := [_, _]) (cs := []) rfl trivial ?_
    refine aw_icmp_ge (tgt := 43) eX9_clear_26 (by decide) (by omega) (by omega) (fun h1 => ?_) (fun h1 => ?_)
    · exfalso; omega
    · refine aw_blk oX9_clear_29 (pc' := 23) (ls' := [_, _]) (st' := []) (cs := [(_, _)]) rfl (⟨⟨by omega, by omega⟩, trivial⟩) ?_
      refine ih (i + 1) _ (hS.put (by decide)) hc ?_ (by omega) (by omega)
      intro x q0 q1
      by_cases e : x = i
      · rw [e, up_at]
      · rw [up_ne (Or.inr e)]; exact hx x q0 (by omega)
theorem c_clear {κ : KX} {μ : MM} {ν : ML} : AQ κ 0 mX9_clear [aR 23] μ ν (PQ ν [23, 24] μ (fun μ' => (μ' 23 1 = 0 ∧ μ' 23 2 = 0 ∧ μ' 23 3 = 0 ∧ μ' 23 4 = -6) ∧ ∀ x : Int, 0 ≤ x → x < 8 → μ' 24 x = -6)) := by
  refine AMet.of kX9_clear.1 (Nat.le_of_ble_eq_true rfl) rfl ?_
  refine aw_blk oX9_clear_0 (pc' := 23) (ls' := [_, _]) (st' := []) (cs := []) rfl trivial ?_
  exact l_clear 8 0 _ ((((SR.rf.put (by decide)).put (by decide)).put (by decide)).put (by decide)) ⟨rfl, rfl, rfl, rfl⟩ (fun x q0 q1 => by omega) (by omega) (by omega)
theorem c_run {κ : KX} {μ : MM} {ν : ML} (h : FS μ) : AQ κ 3 mX9_run [aR 23, aR 14, aR 17, aI (μ 1 2)] μ ν (PQ ν [23, 24] μ (fun μ' => eC μ' (shw (fdS μ) 60 0 W0))) := by
  have f1 := h.1.1
  have f5 := h.2.2
  refine AMet.of kX9_run.1 (Nat.le_of_ble_eq_true rfl) rfl ?_
  refine aw_blk oX9_run_0 (pc' := 1) (ls' := [_, _, _, _, _, _]) (st' := [_]) (cs := []) rfl trivial ?_
  refine aw_crV (rest := []) c_clear kX9_clear eX9_run_1 lX9_run_1 rfl rfl rfl rfl (Nat.le_of_ble_eq_true rfl) ⟨Nat.le_of_ble_eq_true rfl, Nat.le_of_ble_eq_true rfl⟩ ⟨Nat.le_refl _, Nat.le_refl _⟩ ?_
  intro r μ1 ν1 hP
  obtain ⟨rfl, rfl, hS1, hc, hx⟩ := hP
  have e14 : μ1 14 2 = μ 14 2 := by rw [hS1 14 (by decide)]
  refine aw_blk oX9_run_4 (pc' := 19) (ls' := [_, _, _, _, _, _]) (st' := [_, _]) (cs := []) rfl trivial ?_
  rw [show up (up μ1 23 5 0) 23 6 0 14 2 = μ1 14 2 from rfl, e14]
  refine aw_mmin eX9_run_19 lX9_run_19 (by omega) (by omega) (Nat.le_of_ble_eq_true rfl) ⟨Nat.le_of_ble_eq_true rfl, Nat.le_of_ble_eq_true rfl⟩ ⟨Nat.le_refl _, Nat.le_refl _⟩ ?_
  refine aw_blk oX9_run_22 (pc' := 27) (ls' := [_, _, _, _, _, _]) (st' := []) (cs := []) rfl trivial ?_
  refine l_run h 60 0 W0 _ ((hS1.put (by decide)).put (by decide)) ⟨hc.1, hc.2.1, hc.2.2.1, hc.2.2.2, rfl, rfl, hx⟩ (WI.w0 h.ok) WB.w0 (by omega) (by omega)

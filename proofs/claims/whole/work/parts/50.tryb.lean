/-! ===== the class's search, level by level ===== -/
theorem prune {μ0 μ : MM} {ν : ML} {l : Int → Int → Int} {t : Int → Int} {k : Nat} (h : LC μ0 l) (hk : k ≤ 4) (ht : ∀ j : Int, 0 ≤ j → j < k → rcM μ0 j (t j)) (hS : SD μ0 μ) (hD : DQ l (rcM μ0) (μ0 9 5) (vN t k) (μ 9 7) (μ 9 6) (μ 13)) (hp : μ0 9 5 < sB t k ∨ μ 9 6 < sL l t k) : TP ν μ0 μ l k (vN t k + pP k) none μ ν := by
  refine ⟨rfl, rfl, hS, fun _ _ _ => rfl, hD.skip ?_ (fun a' b' c' d' hq q1 q2 => ?_) (fun _ a' b' c' d' => by have := h.ql a' b' c' d'; omega)⟩
  · unfold pP
    (repeat' split) <;> omega
  · have := pre (l := l) hk h.2.2.2.2 (fun j q0 q1 => h.rcb j _ (ht j q0 q1)) (hq.bd h.rcb) q1 q2
    omega
theorem sB_bd {t : Int → Int} (k : Nat) : 0 ≤ sB t k ∧ sB t k ≤ k * 20 := sm_bd (B := 20) k (fun j _ => by have := cbt_bd (t j); exact ⟨by omega, this.2⟩)
theorem sL_bd {l : Int → Int → Int} (hl : ∀ x y : Int, 0 ≤ l x y ∧ l x y ≤ 900) {t : Int → Int} (k : Nat) : 0 ≤ sL l t k ∧ sL l t k ≤ k * 900 := sm_bd (B := 900) k (fun j _ => hl _ _)
theorem sB_up {t : Int → Int} {k : Nat} {x : Int} : sB (rowU t k x) (k + 1) = sB t k + cbt x := by
  have e : sB (rowU t k x) k = sB t k := sm_congr k (fun j hj => by show cbt (rowU t k x j) = _; rw [rowU_ne (by omega)])
  show sB (rowU t k x) k + cbt (rowU t k x k) = _
  rw [e, rowU_at]
theorem sL_up {l : Int → Int → Int} {t : Int → Int} {k : Nat} {x : Int} : sL l (rowU t k x) (k + 1) = sL l t k + l k x := by
  have e : sL l (rowU t k x) k = sL l t k := sm_congr k (fun j hj => by show l j (rowU t k x j) = _; rw [rowU_ne (by omega)])
  show sL l (rowU t k x) k + l k (rowU t k x k) = _
  rw [e, rowU_at]
theorem vN_up {t : Int → Int} {k : Nat} {x : Int} : vN (rowU t k x) (k + 1) = vN t k + x * pw k := by
  have e : vN (rowU t k x) k = vN t k := sm_congr k (fun j hj => by show rowU t k x j * _ = _; rw [rowU_ne (by omega)])
  show vN (rowU t k x) k + rowU t k x k * pw k = _
  rw [e, rowU_at]
theorem SD.p12 {μ0 μ : MM} {i v : Int} (h : SD μ0 μ) : SD μ0 (up μ 12 i v) := ⟨h.1.put (by decide), h.2.1, h.2.2⟩
theorem TB_4 {κ : KX} {μ0 : MM} {ν : ML} {l : Int → Int → Int} (h : LC μ0 l) (t : Int → Int) (μ : MM) (bits loss : Int) (hS : SD μ0 μ) (hT : ∀ j : Int, 0 ≤ j → j < 4 → μ 12 j = t j ∧ rcM μ0 j (t j)) (eb : bits = sB t 4) (el : loss = sL l t 4) (hD : DQ l (rcM μ0) (μ0 9 5) (vN t 4) (μ 9 7) (μ 9 6) (μ 13)) : AQ κ 2 mX1_tryBlock [aR 9, aI 4, aI bits, aI loss] μ ν (TP ν μ0 μ l 4 (vN t 4 + pP 4)) := by
  have b1 := sB_bd (t := t) 4
  have b2 := sL_bd h.2.2.2.2 (t := t) 4
  have b3 := hD.bd h.2.2.2.2
  have b4 := h.2.1
  have b5 := hS.2.2
  have PR1 := fun hp => prune (ν := ν) (k := 4) h (Nat.le_refl 4) (fun j q0 q1 => (hT j q0 q1).2) hS hD hp
  have hq : rcQ (rcM μ0) (t 0) (t 1) (t 2) (t 3) := ⟨(hT 0 (by omega) (by omega)).2, (hT 1 (by omega) (by omega)).2, (hT 2 (by omega) (by omega)).2, (hT 3 (by omega) (by omega)).2⟩
  have e4 : vN t 4 + pP 4 = qN (t 0) (t 1) (t 2) (t 3) + 1 := by rw [vN_4]; rfl
  have hD' := hD
  rw [vN_4] at hD'
  refine AMet.of kX1_tryBlock.1 (Nat.le_of_ble_eq_true rfl) rfl ?_
  refine aw_blk oX1_tryBlock_0 (pc' := 5) (ls' := [_, _, _, _, _]) (st' := [_, _]) (cs := []) rfl trivial ?_
  refine aw_icmp_gt (tgt := 16) eX1_tryBlock_5 (by decide) (by omega) (by omega) (fun h1 => ?_) (fun h1 => ?_)
  · refine aw_vret eX1_tryBlock_16 rfl (Nat.le_refl _) (Nat.le_refl _) ?_
    exact ⟨rfl, PR1 (by omega)⟩
  · refine aw_blk oX1_tryBlock_8 (pc' := 13) (ls' := [_, _, _, _, _]) (st' := [_, _]) (cs := []) rfl trivial ?_
    refine aw_icmp_le (tgt := 17) eX1_tryBlock_13 (by decide) (by omega) (by omega) (fun h2 => ?_) (fun h2 => ?_)
    · refine aw_blk oX1_tryBlock_17 (pc' := 19) (ls' := [_, _, _, _, _]) (st' := [_, _]) (cs := []) rfl trivial ?_
      refine aw_icmp_lt (tgt := 29) eX1_tryBlock_19 (by decide) (by omega) (by omega) (fun h3 => ?_) (fun h3 => ?_)
      · exfalso; omega
      · refine aw_blk oX1_tryBlock_22 (pc' := 25) (ls' := [_, _, _, _, _]) (st' := [_, _, _]) (cs := []) rfl trivial ?_
        by_cases hu : loss < μ 9 6 ∨ (loss = μ 9 6 ∧ bits < μ 9 7)
        · refine aw_cvV (rest := []) (c_weigh1 (by omega) (by omega) (by omega) (by omega) hu) kX1_weigh eX1_tryBlock_25 lX1_tryBlock_25 rfl rfl rfl rfl (Nat.le_of_ble_eq_true rfl) ⟨Nat.le_of_ble_eq_true rfl, Nat.le_of_ble_eq_true rfl⟩ ⟨Nat.le_refl _, Nat.le_refl _⟩ ?_
          refine aw_vret eX1_tryBlock_28 rfl (Nat.le_refl _) (Nat.le_refl _) ?_
          refine ⟨rfl, rfl, rfl, ⟨?_, hS.2.1, ?_⟩, fun j q0 q1 => ?_, ?_⟩
          · intro c hc
            rw [cp4_cell (fun q => hc (by rw [q]; decide)), up_cell (fun q => hc (by rw [q]; decide)), up_cell (fun q => hc (by rw [q]; decide))]
            exact hS.1 c hc
          · exact hS.2.2
          · rfl
          · rw [e4]
            have w := fun j (q0 : 0 ≤ j) (q1 : j < 4) => show cp4 (up (up μ 9 6 loss) 9 7 bits) 12 13 13 j = t j by
              unfold cp4
              rw [if_pos ⟨rfl, q0, q1⟩]
              exact (hT j q0 q1).1
            have D := hD'.take h.rcb hq (by rw [← sB_4]; omega) (by rw [← sB_4, ← sL_4]; omega) (w' := cp4 (up (up μ 9 6 loss) 9 7 bits) 12 13 13) (w 0 (by omega) (by omega)) (w 1 (by omega) (by omega)) (w 2 (by omega) (by omega)) (w 3 (by omega) (by omega))
            rw [← sB_4, ← sL_4, ← eb, ← el] at D
            exact D
        · refine aw_cvV (rest := []) (c_weigh0 (by omega) (by omega) (by omega) (by omega) hu) kX1_weigh eX1_tryBlock_25 lX1_tryBlock_25 rfl rfl rfl rfl (Nat.le_of_ble_eq_true rfl) ⟨Nat.le_of_ble_eq_true rfl, Nat.le_of_ble_eq_true rfl⟩ ⟨Nat.le_refl _, Nat.le_refl _⟩ ?_
          refine aw_vret eX1_tryBlock_28 rfl (Nat.le_refl _) (Nat.le_refl _) ?_
          refine ⟨rfl, rfl, rfl, hS, fun _ _ _ => rfl, ?_⟩
          rw [e4]
          exact hD'.leave h.rcb hq (fun a b c d => by have := h.ql a b c d; omega) (by rw [← sB_4, ← sL_4]; omega)
    · refine aw_vret eX1_tryBlock_16 rfl (Nat.le_refl _) (Nat.le_refl _) ?_
      exact ⟨rfl, PR1 (by omega)⟩
theorem TW_3 {κ : KX} {μ0 : MM} {ν : ML} {l : Int → Int → Int} (h : LC μ0 l) (t : Int → Int) (μ : MM) (bits loss x : Int) (hS : SD μ0 μ) (hT : ∀ j : Int, 0 ≤ j → j < 3 → μ 12 j = t j ∧ rcM μ0 j (t j)) (hx : rcM μ0 3 x) (eb : bits = sB t 3) (el : loss = sL l t 3) (hD : DQ l (rcM μ0) (μ0 9 5) (vN t 3 + x * pP (3 + 1)) (μ 9 7) (μ 9 6) (μ 13)) : AQ κ 3 mX1_tryWay [aR 9, aI 3, aI x, aI bits, aI loss] μ ν (TP ν μ0 μ l 3 (vN t 3 + (x + 1) * pP (3 + 1))) := by
  have hl := svl
  have hxb := h.rcb _ _ hx
  have e10 : μ 10 (3 * 11 + x) = l 3 x := by
    obtain ⟨-, -, i, i0, i1, rfl⟩ := hx
    rw [hS.1 10 (by decide)]
    exact (h.2.2.1 3 i (by decide) (by decide) i0 i1).2.2
  have wb := wyb x hxb
  have eV : vN (rowU t 3 x) 4 = vN t 3 + x * pP (3 + 1) := vN_up (k := 3)
  have T := TB_4 (κ := κ) (ν := ν) h (rowU t 3 x) (up μ 12 3 x) (bits + stv 2 x) (loss + μ 10 (3 * 11 + x)) hS.p12 (fun j q0 q1 => ?_) ?_ ?_ ?_
  rotate_left
  · by_cases e : j = 3
    · subst e
      have e2 : rowU t 3 x 3 = x := rowU_at
      rw [up_at, e2]
      exact ⟨rfl, hx⟩
    · have e2 : rowU t 3 x j = t j := rowU_ne e
      rw [up_ne (Or.inr e), e2]
      exact hT j q0 (by omega)
  · rw [wb.1, eb]
    exact (sB_up (k := 3)).symm
  · rw [e10, el]
    exact (sL_up (k := 3)).symm
  · rw [eV]
    exact hD
  refine AMet.of kX1_tryWay.1 (Nat.le_of_ble_eq_true rfl) rfl ?_
  refine aw_blk oX1_tryWay_0 (pc' := 32) (ls' := [_, _, _, _, _]) (st' := [_, _, _, _]) (cs := [(_, _), (_, _), (_, _)]) rfl (⟨⟨by omega, by omega⟩, ⟨by omega, by omega⟩, ⟨by omega, by omega⟩, trivial⟩) ?_
  refine aw_crV (rest := []) T kX1_tryBlock eX1_tryWay_32 lX1_tryWay_32 rfl rfl rfl rfl (Nat.le_of_ble_eq_true rfl) ⟨Nat.le_of_ble_eq_true rfl, Nat.le_of_ble_eq_true rfl⟩ ⟨Nat.le_refl _, Nat.le_refl _⟩ ?_
  intro r μ' ν' hP
  obtain ⟨rfl, rfl, hS', hk', hD'⟩ := hP
  refine aw_vret eX1_tryWay_35 rfl (Nat.le_refl _) (Nat.le_refl _) ?_
  refine ⟨rfl, rfl, rfl, hS', fun j q0 q1 => ?_, ?_⟩
  · rw [hk' j q0 (by omega), up_ne (Or.inr (by omega))]
  · rw [eV] at hD'
    have e : vN t 3 + (x + 1) * pP (3 + 1) = vN t 3 + x * pP (3 + 1) + pP 4 := by
      show _ + (x + 1) * 1 = _ + x * 1 + 1
      omega
    rw [e]
    exact hD'
theorem LP_3 {κ : KX} {μ0 μ : MM} {ν : ML} {l : Int → Int → Int} (h : LC μ0 l) (t : Int → Int) (bits loss : Int) (hT : ∀ j : Int, 0 ≤ j → j < 3 → μ 12 j = t j ∧ rcM μ0 j (t j)) (eb : bits = sB t 3) (el : loss = sL l t 3) (n : Nat) : ∀ (i : Int) (μ1 : MM), 0 ≤ i → i + n = μ0 9 4 → SD μ0 μ1 → (∀ j : Int, 0 ≤ j → j < 3 → μ1 12 j = μ 12 j) → DQ l (rcM μ0) (μ0 9 5) (vN t 3 + (if i < μ0 9 4 then chW μ0 3 i else 11) * pP (3 + 1)) (μ1 9 7) (μ1 9 6) (μ1 13) → AX κ mX1_tryBlock 4 (QS (TP ν μ0 μ l 3 (vN t 3 + pP 3))) 32 [aR 9, aI 3, aI bits, aI loss, aI i] [] μ1 ν := by
  have hn := h.1
  induction n with
  | zero =>
    intro i μ1 h0 hi hS hk hD
    have e94 := hS.2.1
    rw [if_neg (by omega)] at hD
    refine aw_blk oX1_tryBlock_32 (pc' := 38) (ls' := [_, _, _, _, _]) (st' := [_, _]) (cs := []) rfl trivial ?_
    refine aw_icmp_ge (tgt := 65) eX1_tryBlock_38 (by decide) (by omega) (by omega) (fun h1 => ?_) (fun h1 => ?_)
    · refine aw_vret eX1_tryBlock_65 rfl (Nat.le_refl _) (Nat.le_refl _) ?_
      exact ⟨rfl, rfl, rfl, hS, hk, hD⟩
    · exfalso; omega
  | succ n ih =>
    intro i μ1 h0 hi hS hk hD
    have e94 := hS.2.1
    rw [if_pos (by omega)] at hD
    have g := h.2.2.1 3 i (by decide) (by decide) h0 (by omega)
    have e11 : μ1 11 (3 * 4 + i) = chW μ0 3 i := by rw [hS.1 11 (by decide)]; rfl
    have hx : rcM μ0 3 (chW μ0 3 i) := ⟨by decide, by decide, i, h0, by omega, rfl⟩
    refine aw_blk oX1_tryBlock_32 (pc' := 38) (ls' := [_, _, _, _, _]) (st' := [_, _]) (cs := []) rfl trivial ?_
    refine aw_icmp_ge (tgt := 65) eX1_tryBlock_38 (by decide) (by omega) (by omega) (fun h1 => ?_) (fun h1 => ?_)
    · exfalso; omega
    · refine aw_blk oX1_tryBlock_41 (pc' := 56) (ls' := [_, _, _, _, _]) (st' := [_, _, _, _, _]) (cs := [(_, _)]) rfl (⟨⟨by omega, by omega⟩, trivial⟩) ?_
      rw [e11]
      refine aw_crV (rest := []) (TW_3 h t μ1 bits loss (chW μ0 3 i) hS (fun j q0 q1 => by rw [hk j q0 q1]; exact hT j q0 q1) hx eb el hD) kX1_tryWay eX1_tryBlock_56 lX1_tryBlock_56 rfl rfl rfl rfl (Nat.le_of_ble_eq_true rfl) ⟨Nat.le_of_ble_eq_true rfl, Nat.le_of_ble_eq_true rfl⟩ ⟨Nat.le_refl _, Nat.le_refl _⟩ ?_
      intro r μ2 ν2 hP
      obtain ⟨rfl, rfl, hS2, hk2, hD2⟩ := hP
      refine aw_blk oX1_tryBlock_59 (pc' := 32) (ls' := [_, _, _, _, _]) (st' := []) (cs := []) rfl trivial ?_
      refine ih (i + 1) μ2 (by omega) (by omega) hS2 (fun j q0 q1 => by rw [hk2 j q0 q1, hk j q0 q1]) ?_
      have e1 : pP (3 + 1) = 1 := rfl
      have cb : i + 1 < μ0 9 4 → chW μ0 3 i < chW μ0 3 (i + 1) ∧ chW μ0 3 (i + 1) < 11 := fun q => ⟨h.2.2.2.1 3 i (by decide) (by decide) h0 q, (h.2.2.1 3 (i + 1) (by decide) (by decide) (by omega) q).2.1⟩
      refine hD2.skip ?_ (fun a' b' c' d' hq q1 q2 => ?_) (fun _ a' b' c' d' => by have := h.ql a' b' c' d'; omega)
      · rw [e1]
        split <;> omega
      · exfalso
        have hv : (if i + 1 < μ0 9 4 then chW μ0 3 (i + 1) else 11) ≤ 11 := by split <;> omega
        have D := dig (k := 3) (by decide) (fun j q0 q1 => h.rcb j _ (hT j q0 q1).2) (hq.bd h.rcb) (by omega) hv q1 q2
        have hr : rcM μ0 3 (dg 3 a' b' c' d') := hq.2.2.2
        have G := (h.gap hr h0 (by omega)).2 (by omega)
        rw [if_pos G.1] at D
        omega
theorem TB_3 {κ : KX} {μ0 : MM} {ν : ML} {l : Int → Int → Int} (h : LC μ0 l) (t : Int → Int) (μ : MM) (bits loss : Int) (hS : SD μ0 μ) (hT : ∀ j : Int, 0 ≤ j → j < 3 → μ 12 j = t j ∧ rcM μ0 j (t j)) (eb : bits = sB t 3) (el : loss = sL l t 3) (hD : DQ l (rcM μ0) (μ0 9 5) (vN t 3) (μ 9 7) (μ 9 6) (μ 13)) : AQ κ 4 mX1_tryBlock [aR 9, aI 3, aI bits, aI loss] μ ν (TP ν μ0 μ l 3 (vN t 3 + pP 3)) := by
  have b1 := sB_bd (t := t) 3
  have b2 := sL_bd h.2.2.2.2 (t := t) 3
  have b3 := hD.bd h.2.2.2.2
  have b4 := h.2.1
  have b5 := hS.2.2
  have hn := h.1
  have PR1 := fun hp => prune (ν := ν) (k := 3) h (by decide) (fun j q0 q1 => (hT j q0 q1).2) hS hD hp
  refine AMet.of kX1_tryBlock.1 (Nat.le_of_ble_eq_true rfl) rfl ?_
  refine aw_blk oX1_tryBlock_0 (pc' := 5) (ls' := [_, _, _, _, _]) (st' := [_, _]) (cs := []) rfl trivial ?_
  refine aw_icmp_gt (tgt := 16) eX1_tryBlock_5 (by decide) (by omega) (by omega) (fun h1 => ?_) (fun h1 => ?_)
  · refine aw_vret eX1_tryBlock_16 rfl (Nat.le_refl _) (Nat.le_refl _) ?_
    exact ⟨rfl, PR1 (by omega)⟩
  · refine aw_blk oX1_tryBlock_8 (pc' := 13) (ls' := [_, _, _, _, _]) (st' := [_, _]) (cs := []) rfl trivial ?_
    refine aw_icmp_le (tgt := 17) eX1_tryBlock_13 (by decide) (by omega) (by omega) (fun h2 => ?_) (fun h2 => ?_)
    · refine aw_blk oX1_tryBlock_17 (pc' := 19) (ls' := [_, _, _, _, _]) (st' := [_, _]) (cs := []) rfl trivial ?_
      refine aw_icmp_lt (tgt := 29) eX1_tryBlock_19 (by decide) (by omega) (by omega) (fun h3 => ?_) (fun h3 => ?_)
      · refine aw_blk oX1_tryBlock_29 (pc' := 32) (ls' := [_, _, _, _, _]) (st' := []) (cs := []) rfl trivial ?_
        refine LP_3 h t bits loss hT eb el (μ0 9 4).toNat 0 μ (by omega) (by omega) hS (fun _ _ _ => rfl) ?_
        have e1 : pP (3 + 1) = 1 := rfl
        have g := h.2.2.1 3 0 (by decide) (by decide) (by decide) (by omega)
        rw [if_pos (by omega)]
        refine hD.skip (by rw [e1]; omega) (fun a' b' c' d' hq q1 q2 => ?_) (fun _ a' b' c' d' => by have := h.ql a' b' c' d'; omega)
        exfalso
        have D := dig (k := 3) (u := 0) (by decide) (fun j q0 q1 => h.rcb j _ (hT j q0 q1).2) (hq.bd h.rcb) (by omega) (by omega) (by omega) q2
        have hr : rcM μ0 3 (dg 3 a' b' c' d') := hq.2.2.2
        have G := (h.gap hr (Int.le_refl 0) (by omega)).1
        omega
      · exfalso; omega
    · refine aw_vret eX1_tryBlock_16 rfl (Nat.le_refl _) (Nat.le_refl _) ?_
      exact ⟨rfl, PR1 (by omega)⟩
theorem TW_2 {κ : KX} {μ0 : MM} {ν : ML} {l : Int → Int → Int} (h : LC μ0 l) (t : Int → Int) (μ : MM) (bits loss x : Int) (hS : SD μ0 μ) (hT : ∀ j : Int, 0 ≤ j → j < 2 → μ 12 j = t j ∧ rcM μ0 j (t j)) (hx : rcM μ0 2 x) (eb : bits = sB t 2) (el : loss = sL l t 2) (hD : DQ l (rcM μ0) (μ0 9 5) (vN t 2 + x * pP (2 + 1)) (μ 9 7) (μ 9 6) (μ 13)) : AQ κ 5 mX1_tryWay [aR 9, aI 2, aI x, aI bits, aI loss] μ ν (TP ν μ0 μ l 2 (vN t 2 + (x + 1) * pP (2 + 1))) := by
  have hl := svl
  have hxb := h.rcb _ _ hx
  have e10 : μ 10 (2 * 11 + x) = l 2 x := by
    obtain ⟨-, -, i, i0, i1, rfl⟩ := hx
    rw [hS.1 10 (by decide)]
    exact (h.2.2.1 2 i (by decide) (by decide) i0 i1).2.2
  have wb := wyb x hxb
  have eV : vN (rowU t 2 x) 3 = vN t 2 + x * pP (2 + 1) := vN_up (k := 2)
  have T := TB_3 (κ := κ) (ν := ν) h (rowU t 2 x) (up μ 12 2 x) (bits + stv 2 x) (loss + μ 10 (2 * 11 + x)) hS.p12 (fun j q0 q1 => ?_) ?_ ?_ ?_
  rotate_left
  · by_cases e : j = 2
    · subst e
      have e2 : rowU t 2 x 2 = x := rowU_at
      rw [up_at, e2]
      exact ⟨rfl, hx⟩
    · have e2 : rowU t 2 x j = t j := rowU_ne e
      rw [up_ne (Or.inr e), e2]
      exact hT j q0 (by omega)
  · rw [wb.1, eb]
    exact (sB_up (k := 2)).symm
  · rw [e10, el]
    exact (sL_up (k := 2)).symm
  · rw [eV]
    exact hD
  refine AMet.of kX1_tryWay.1 (Nat.le_of_ble_eq_true rfl) rfl ?_
  refine aw_blk oX1_tryWay_0 (pc' := 32) (ls' := [_, _, _, _, _]) (st' := [_, _, _, _]) (cs := [(_, _), (_, _), (_, _)]) rfl (⟨⟨by omega, by omega⟩, ⟨by omega, by omega⟩, ⟨by omega, by omega⟩, trivial⟩) ?_
  refine aw_crV (rest := []) T kX1_tryBlock eX1_tryWay_32 lX1_tryWay_32 rfl rfl rfl rfl (Nat.le_of_ble_eq_true rfl) ⟨Nat.le_of_ble_eq_true rfl, Nat.le_of_ble_eq_true rfl⟩ ⟨Nat.le_refl _, Nat.le_refl _⟩ ?_
  intro r μ' ν' hP
  obtain ⟨rfl, rfl, hS', hk', hD'⟩ := hP
  refine aw_vret eX1_tryWay_35 rfl (Nat.le_refl _) (Nat.le_refl _) ?_
  refine ⟨rfl, rfl, rfl, hS', fun j q0 q1 => ?_, ?_⟩
  · rw [hk' j q0 (by omega), up_ne (Or.inr (by omega))]
  · rw [eV] at hD'
    have e : vN t 2 + (x + 1) * pP (2 + 1) = vN t 2 + x * pP (2 + 1) + pP 3 := by
      show _ + (x + 1) * 11 = _ + x * 11 + 11
      omega
    rw [e]
    exact hD'
theorem LP_2 {κ : KX} {μ0 μ : MM} {ν : ML} {l : Int → Int → Int} (h : LC μ0 l) (t : Int → Int) (bits loss : Int) (hT : ∀ j : Int, 0 ≤ j → j < 2 → μ 12 j = t j ∧ rcM μ0 j (t j)) (eb : bits = sB t 2) (el : loss = sL l t 2) (n : Nat) : ∀ (i : Int) (μ1 : MM), 0 ≤ i → i + n = μ0 9 4 → SD μ0 μ1 → (∀ j : Int, 0 ≤ j → j < 2 → μ1 12 j = μ 12 j) → DQ l (rcM μ0) (μ0 9 5) (vN t 2 + (if i < μ0 9 4 then chW μ0 2 i else 11) * pP (2 + 1)) (μ1 9 7) (μ1 9 6) (μ1 13) → AX κ mX1_tryBlock 6 (QS (TP ν μ0 μ l 2 (vN t 2 + pP 2))) 32 [aR 9, aI 2, aI bits, aI loss, aI i] [] μ1 ν := by
  have hn := h.1
  induction n with
  | zero =>
    intro i μ1 h0 hi hS hk hD
    have e94 := hS.2.1
    rw [if_neg (by omega)] at hD
    refine aw_blk oX1_tryBlock_32 (pc' := 38) (ls' := [_, _, _, _, _]) (st' := [_, _]) (cs := []) rfl trivial ?_
    refine aw_icmp_ge (tgt := 65) eX1_tryBlock_38 (by decide) (by omega) (by omega) (fun h1 => ?_) (fun h1 => ?_)
    · refine aw_vret eX1_tryBlock_65 rfl (Nat.le_refl _) (Nat.le_refl _) ?_
      exact ⟨rfl, rfl, rfl, hS, hk, hD⟩
    · exfalso; omega
  | succ n ih =>
    intro i μ1 h0 hi hS hk hD
    have e94 := hS.2.1
    rw [if_pos (by omega)] at hD
    have g := h.2.2.1 2 i (by decide) (by decide) h0 (by omega)
    have e11 : μ1 11 (2 * 4 + i) = chW μ0 2 i := by rw [hS.1 11 (by decide)]; rfl
    have hx : rcM μ0 2 (chW μ0 2 i) := ⟨by decide, by decide, i, h0, by omega, rfl⟩
    refine aw_blk oX1_tryBlock_32 (pc' := 38) (ls' := [_, _, _, _, _]) (st' := [_, _]) (cs := []) rfl trivial ?_
    refine aw_icmp_ge (tgt := 65) eX1_tryBlock_38 (by decide) (by omega) (by omega) (fun h1 => ?_) (fun h1 => ?_)
    · exfalso; omega
    · refine aw_blk oX1_tryBlock_41 (pc' := 56) (ls' := [_, _, _, _, _]) (st' := [_, _, _, _, _]) (cs := [(_, _)]) rfl (⟨⟨by omega, by omega⟩, trivial⟩) ?_
      rw [e11]
      refine aw_crV (rest := []) (TW_2 h t μ1 bits loss (chW μ0 2 i) hS (fun j q0 q1 => by rw [hk j q0 q1]; exact hT j q0 q1) hx eb el hD) kX1_tryWay eX1_tryBlock_56 lX1_tryBlock_56 rfl rfl rfl rfl (Nat.le_of_ble_eq_true rfl) ⟨Nat.le_of_ble_eq_true rfl, Nat.le_of_ble_eq_true rfl⟩ ⟨Nat.le_refl _, Nat.le_refl _⟩ ?_
      intro r μ2 ν2 hP
      obtain ⟨rfl, rfl, hS2, hk2, hD2⟩ := hP
      refine aw_blk oX1_tryBlock_59 (pc' := 32) (ls' := [_, _, _, _, _]) (st' := []) (cs := []) rfl trivial ?_
      refine ih (i + 1) μ2 (by omega) (by omega) hS2 (fun j q0 q1 => by rw [hk2 j q0 q1, hk j q0 q1]) ?_
      have e1 : pP (2 + 1) = 11 := rfl
      have cb : i + 1 < μ0 9 4 → chW μ0 2 i < chW μ0 2 (i + 1) ∧ chW μ0 2 (i + 1) < 11 := fun q => ⟨h.2.2.2.1 2 i (by decide) (by decide) h0 q, (h.2.2.1 2 (i + 1) (by decide) (by decide) (by omega) q).2.1⟩
      refine hD2.skip ?_ (fun a' b' c' d' hq q1 q2 => ?_) (fun _ a' b' c' d' => by have := h.ql a' b' c' d'; omega)
      · rw [e1]
        split <;> omega
      · exfalso
        have hv : (if i + 1 < μ0 9 4 then chW μ0 2 (i + 1) else 11) ≤ 11 := by split <;> omega
        have D := dig (k := 2) (by decide) (fun j q0 q1 => h.rcb j _ (hT j q0 q1).2) (hq.bd h.rcb) (by omega) hv q1 q2
        have hr : rcM μ0 2 (dg 2 a' b' c' d') := hq.2.2.1
        have G := (h.gap hr h0 (by omega)).2 (by omega)
        rw [if_pos G.1] at D
        omega
theorem TB_2 {κ : KX} {μ0 : MM} {ν : ML} {l : Int → Int → Int} (h : LC μ0 l) (t : Int → Int) (μ : MM) (bits loss : Int) (hS : SD μ0 μ) (hT : ∀ j : Int, 0 ≤ j → j < 2 → μ 12 j = t j ∧ rcM μ0 j (t j)) (eb : bits = sB t 2) (el : loss = sL l t 2) (hD : DQ l (rcM μ0) (μ0 9 5) (vN t 2) (μ 9 7) (μ 9 6) (μ 13)) : AQ κ 6 mX1_tryBlock [aR 9, aI 2, aI bits, aI loss] μ ν (TP ν μ0 μ l 2 (vN t 2 + pP 2)) := by
  have b1 := sB_bd (t := t) 2
  have b2 := sL_bd h.2.2.2.2 (t := t) 2
  have b3 := hD.bd h.2.2.2.2
  have b4 := h.2.1
  have b5 := hS.2.2
  have hn := h.1
  have PR1 := fun hp => prune (ν := ν) (k := 2) h (by decide) (fun j q0 q1 => (hT j q0 q1).2) hS hD hp
  refine AMet.of kX1_tryBlock.1 (Nat.le_of_ble_eq_true rfl) rfl ?_
  refine aw_blk oX1_tryBlock_0 (pc' := 5) (ls' := [_, _, _, _, _]) (st' := [_, _]) (cs := []) rfl trivial ?_
  refine aw_icmp_gt (tgt := 16) eX1_tryBlock_5 (by decide) (by omega) (by omega) (fun h1 => ?_) (fun h1 => ?_)
  · refine aw_vret eX1_tryBlock_16 rfl (Nat.le_refl _) (Nat.le_refl _) ?_
    exact ⟨rfl, PR1 (by omega)⟩
  · refine aw_blk oX1_tryBlock_8 (pc' := 13) (ls' := [_, _, _, _, _]) (st' := [_, _]) (cs := []) rfl trivial ?_
    refine aw_icmp_le (tgt := 17) eX1_tryBlock_13 (by decide) (by omega) (by omega) (fun h2 => ?_) (fun h2 => ?_)
    · refine aw_blk oX1_tryBlock_17 (pc' := 19) (ls' := [_, _, _, _, _]) (st' := [_, _]) (cs := []) rfl trivial ?_
      refine aw_icmp_lt (tgt := 29) eX1_tryBlock_19 (by decide) (by omega) (by omega) (fun h3 => ?_) (fun h3 => ?_)
      · refine aw_blk oX1_tryBlock_29 (pc' := 32) (ls' := [_, _, _, _, _]) (st' := []) (cs := []) rfl trivial ?_
        refine LP_2 h t bits loss hT eb el (μ0 9 4).toNat 0 μ (by omega) (by omega) hS (fun _ _ _ => rfl) ?_
        have e1 : pP (2 + 1) = 11 := rfl
        have g := h.2.2.1 2 0 (by decide) (by decide) (by decide) (by omega)
        rw [if_pos (by omega)]
        refine hD.skip (by rw [e1]; omega) (fun a' b' c' d' hq q1 q2 => ?_) (fun _ a' b' c' d' => by have := h.ql a' b' c' d'; omega)
        exfalso
        have D := dig (k := 2) (u := 0) (by decide) (fun j q0 q1 => h.rcb j _ (hT j q0 q1).2) (hq.bd h.rcb) (by omega) (by omega) (by omega) q2
        have hr : rcM μ0 2 (dg 2 a' b' c' d') := hq.2.2.1
        have G := (h.gap hr (Int.le_refl 0) (by omega)).1
        omega
      · exfalso; omega
    · refine aw_vret eX1_tryBlock_16 rfl (Nat.le_refl _) (Nat.le_refl _) ?_
      exact ⟨rfl, PR1 (by omega)⟩
theorem TW_1 {κ : KX} {μ0 : MM} {ν : ML} {l : Int → Int → Int} (h : LC μ0 l) (t : Int → Int) (μ : MM) (bits loss x : Int) (hS : SD μ0 μ) (hT : ∀ j : Int, 0 ≤ j → j < 1 → μ 12 j = t j ∧ rcM μ0 j (t j)) (hx : rcM μ0 1 x) (eb : bits = sB t 1) (el : loss = sL l t 1) (hD : DQ l (rcM μ0) (μ0 9 5) (vN t 1 + x * pP (1 + 1)) (μ 9 7) (μ 9 6) (μ 13)) : AQ κ 7 mX1_tryWay [aR 9, aI 1, aI x, aI bits, aI loss] μ ν (TP ν μ0 μ l 1 (vN t 1 + (x + 1) * pP (1 + 1))) := by
  have hl := svl
  have hxb := h.rcb _ _ hx
  have e10 : μ 10 (1 * 11 + x) = l 1 x := by
    obtain ⟨-, -, i, i0, i1, rfl⟩ := hx
    rw [hS.1 10 (by decide)]
    exact (h.2.2.1 1 i (by decide) (by decide) i0 i1).2.2
  have wb := wyb x hxb
  have eV : vN (rowU t 1 x) 2 = vN t 1 + x * pP (1 + 1) := vN_up (k := 1)
  have T := TB_2 (κ := κ) (ν := ν) h (rowU t 1 x) (up μ 12 1 x) (bits + stv 2 x) (loss + μ 10 (1 * 11 + x)) hS.p12 (fun j q0 q1 => ?_) ?_ ?_ ?_
  rotate_left
  · by_cases e : j = 1
    · subst e
      have e2 : rowU t 1 x 1 = x := rowU_at
      rw [up_at, e2]
      exact ⟨rfl, hx⟩
    · have e2 : rowU t 1 x j = t j := rowU_ne e
      rw [up_ne (Or.inr e), e2]
      exact hT j q0 (by omega)
  · rw [wb.1, eb]
    exact (sB_up (k := 1)).symm
  · rw [e10, el]
    exact (sL_up (k := 1)).symm
  · rw [eV]
    exact hD
  refine AMet.of kX1_tryWay.1 (Nat.le_of_ble_eq_true rfl) rfl ?_
  refine aw_blk oX1_tryWay_0 (pc' := 32) (ls' := [_, _, _, _, _]) (st' := [_, _, _, _]) (cs := [(_, _), (_, _), (_, _)]) rfl (⟨⟨by omega, by omega⟩, ⟨by omega, by omega⟩, ⟨by omega, by omega⟩, trivial⟩) ?_
  refine aw_crV (rest := []) T kX1_tryBlock eX1_tryWay_32 lX1_tryWay_32 rfl rfl rfl rfl (Nat.le_of_ble_eq_true rfl) ⟨Nat.le_of_ble_eq_true rfl, Nat.le_of_ble_eq_true rfl⟩ ⟨Nat.le_refl _, Nat.le_refl _⟩ ?_
  intro r μ' ν' hP
  obtain ⟨rfl, rfl, hS', hk', hD'⟩ := hP
  refine aw_vret eX1_tryWay_35 rfl (Nat.le_refl _) (Nat.le_refl _) ?_
  refine ⟨rfl, rfl, rfl, hS', fun j q0 q1 => ?_, ?_⟩
  · rw [hk' j q0 (by omega), up_ne (Or.inr (by omega))]
  · rw [eV] at hD'
    have e : vN t 1 + (x + 1) * pP (1 + 1) = vN t 1 + x * pP (1 + 1) + pP 2 := by
      show _ + (x + 1) * 121 = _ + x * 121 + 121
      omega
    rw [e]
    exact hD'
theorem LP_1 {κ : KX} {μ0 μ : MM} {ν : ML} {l : Int → Int → Int} (h : LC μ0 l) (t : Int → Int) (bits loss : Int) (hT : ∀ j : Int, 0 ≤ j → j < 1 → μ 12 j = t j ∧ rcM μ0 j (t j)) (eb : bits = sB t 1) (el : loss = sL l t 1) (n : Nat) : ∀ (i : Int) (μ1 : MM), 0 ≤ i → i + n = μ0 9 4 → SD μ0 μ1 → (∀ j : Int, 0 ≤ j → j < 1 → μ1 12 j = μ 12 j) → DQ l (rcM μ0) (μ0 9 5) (vN t 1 + (if i < μ0 9 4 then chW μ0 1 i else 11) * pP (1 + 1)) (μ1 9 7) (μ1 9 6) (μ1 13) → AX κ mX1_tryBlock 8 (QS (TP ν μ0 μ l 1 (vN t 1 + pP 1))) 32 [aR 9, aI 1, aI bits, aI loss, aI i] [] μ1 ν := by
  have hn := h.1
  induction n with
  | zero =>
    intro i μ1 h0 hi hS hk hD
    have e94 := hS.2.1
    rw [if_neg (by omega)] at hD
    refine aw_blk oX1_tryBlock_32 (pc' := 38) (ls' := [_, _, _, _, _]) (st' := [_, _]) (cs := []) rfl trivial ?_
    refine aw_icmp_ge (tgt := 65) eX1_tryBlock_38 (by decide) (by omega) (by omega) (fun h1 => ?_) (fun h1 => ?_)
    · refine aw_vret eX1_tryBlock_65 rfl (Nat.le_refl _) (Nat.le_refl _) ?_
      exact ⟨rfl, rfl, rfl, hS, hk, hD⟩
    · exfalso; omega
  | succ n ih =>
    intro i μ1 h0 hi hS hk hD
    have e94 := hS.2.1
    rw [if_pos (by omega)] at hD
    have g := h.2.2.1 1 i (by decide) (by decide) h0 (by omega)
    have e11 : μ1 11 (1 * 4 + i) = chW μ0 1 i := by rw [hS.1 11 (by decide)]; rfl
    have hx : rcM μ0 1 (chW μ0 1 i) := ⟨by decide, by decide, i, h0, by omega, rfl⟩
    refine aw_blk oX1_tryBlock_32 (pc' := 38) (ls' := [_, _, _, _, _]) (st' := [_, _]) (cs := []) rfl trivial ?_
    refine aw_icmp_ge (tgt := 65) eX1_tryBlock_38 (by decide) (by omega) (by omega) (fun h1 => ?_) (fun h1 => ?_)
    · exfalso; omega
    · refine aw_blk oX1_tryBlock_41 (pc' := 56) (ls' := [_, _, _, _, _]) (st' := [_, _, _, _, _]) (cs := [(_, _)]) rfl (⟨⟨by omega, by omega⟩, trivial⟩) ?_
      rw [e11]
      refine aw_crV (rest := []) (TW_1 h t μ1 bits loss (chW μ0 1 i) hS (fun j q0 q1 => by rw [hk j q0 q1]; exact hT j q0 q1) hx eb el hD) kX1_tryWay eX1_tryBlock_56 lX1_tryBlock_56 rfl rfl rfl rfl (Nat.le_of_ble_eq_true rfl) ⟨Nat.le_of_ble_eq_true rfl, Nat.le_of_ble_eq_true rfl⟩ ⟨Nat.le_refl _, Nat.le_refl _⟩ ?_
      intro r μ2 ν2 hP
      obtain ⟨rfl, rfl, hS2, hk2, hD2⟩ := hP
      refine aw_blk oX1_tryBlock_59 (pc' := 32) (ls' := [_, _, _, _, _]) (st' := []) (cs := []) rfl trivial ?_
      refine ih (i + 1) μ2 (by omega) (by omega) hS2 (fun j q0 q1 => by rw [hk2 j q0 q1, hk j q0 q1]) ?_
      have e1 : pP (1 + 1) = 121 := rfl
      have cb : i + 1 < μ0 9 4 → chW μ0 1 i < chW μ0 1 (i + 1) ∧ chW μ0 1 (i + 1) < 11 := fun q => ⟨h.2.2.2.1 1 i (by decide) (by decide) h0 q, (h.2.2.1 1 (i + 1) (by decide) (by decide) (by omega) q).2.1⟩
      refine hD2.skip ?_ (fun a' b' c' d' hq q1 q2 => ?_) (fun _ a' b' c' d' => by have := h.ql a' b' c' d'; omega)
      · rw [e1]
        split <;> omega
      · exfalso
        have hv : (if i + 1 < μ0 9 4 then chW μ0 1 (i + 1) else 11) ≤ 11 := by split <;> omega
        have D := dig (k := 1) (by decide) (fun j q0 q1 => h.rcb j _ (hT j q0 q1).2) (hq.bd h.rcb) (by omega) hv q1 q2
        have hr : rcM μ0 1 (dg 1 a' b' c' d') := hq.2.1
        have G := (h.gap hr h0 (by omega)).2 (by omega)
        rw [if_pos G.1] at D
        omega
theorem TB_1 {κ : KX} {μ0 : MM} {ν : ML} {l : Int → Int → Int} (h : LC μ0 l) (t : Int → Int) (μ : MM) (bits loss : Int) (hS : SD μ0 μ) (hT : ∀ j : Int, 0 ≤ j → j < 1 → μ 12 j = t j ∧ rcM μ0 j (t j)) (eb : bits = sB t 1) (el : loss = sL l t 1) (hD : DQ l (rcM μ0) (μ0 9 5) (vN t 1) (μ 9 7) (μ 9 6) (μ 13)) : AQ κ 8 mX1_tryBlock [aR 9, aI 1, aI bits, aI loss] μ ν (TP ν μ0 μ l 1 (vN t 1 + pP 1)) := by
  have b1 := sB_bd (t := t) 1
  have b2 := sL_bd h.2.2.2.2 (t := t) 1
  have b3 := hD.bd h.2.2.2.2
  have b4 := h.2.1
  have b5 := hS.2.2
  have hn := h.1
  have PR1 := fun hp => prune (ν := ν) (k := 1) h (by decide) (fun j q0 q1 => (hT j q0 q1).2) hS hD hp
  refine AMet.of kX1_tryBlock.1 (Nat.le_of_ble_eq_true rfl) rfl ?_
  refine aw_blk oX1_tryBlock_0 (pc' := 5) (ls' := [_, _, _, _, _]) (st' := [_, _]) (cs := []) rfl trivial ?_
  refine aw_icmp_gt (tgt := 16) eX1_tryBlock_5 (by decide) (by omega) (by omega) (fun h1 => ?_) (fun h1 => ?_)
  · refine aw_vret eX1_tryBlock_16 rfl (Nat.le_refl _) (Nat.le_refl _) ?_
    exact ⟨rfl, PR1 (by omega)⟩
  · refine aw_blk oX1_tryBlock_8 (pc' := 13) (ls' := [_, _, _, _, _]) (st' := [_, _]) (cs := []) rfl trivial ?_
    refine aw_icmp_le (tgt := 17) eX1_tryBlock_13 (by decide) (by omega) (by omega) (fun h2 => ?_) (fun h2 => ?_)
    · refine aw_blk oX1_tryBlock_17 (pc' := 19) (ls' := [_, _, _, _, _]) (st' := [_, _]) (cs := []) rfl trivial ?_
      refine aw_icmp_lt (tgt := 29) eX1_tryBlock_19 (by decide) (by omega) (by omega) (fun h3 => ?_) (fun h3 => ?_)
      · refine aw_blk oX1_tryBlock_29 (pc' := 32) (ls' := [_, _, _, _, _]) (st' := []) (cs := []) rfl trivial ?_
        refine LP_1 h t bits loss hT eb el (μ0 9 4).toNat 0 μ (by omega) (by omega) hS (fun _ _ _ => rfl) ?_
        have e1 : pP (1 + 1) = 121 := rfl
        have g := h.2.2.1 1 0 (by decide) (by decide) (by decide) (by omega)
        rw [if_pos (by omega)]
        refine hD.skip (by rw [e1]; omega) (fun a' b' c' d' hq q1 q2 => ?_) (fun _ a' b' c' d' => by have := h.ql a' b' c' d'; omega)
        exfalso
        have D := dig (k := 1) (u := 0) (by decide) (fun j q0 q1 => h.rcb j _ (hT j q0 q1).2) (hq.bd h.rcb) (by omega) (by omega) (by omega) q2
        have hr : rcM μ0 1 (dg 1 a' b' c' d') := hq.2.1
        have G := (h.gap hr (Int.le_refl 0) (by omega)).1
        omega
      · exfalso; omega
    · refine aw_vret eX1_tryBlock_16 rfl (Nat.le_refl _) (Nat.le_refl _) ?_
      exact ⟨rfl, PR1 (by omega)⟩
theorem TW_0 {κ : KX} {μ0 : MM} {ν : ML} {l : Int → Int → Int} (h : LC μ0 l) (t : Int → Int) (μ : MM) (bits loss x : Int) (hS : SD μ0 μ) (hT : ∀ j : Int, 0 ≤ j → j < 0 → μ 12 j = t j ∧ rcM μ0 j (t j)) (hx : rcM μ0 0 x) (eb : bits = sB t 0) (el : loss = sL l t 0) (hD : DQ l (rcM μ0) (μ0 9 5) (vN t 0 + x * pP (0 + 1)) (μ 9 7) (μ 9 6) (μ 13)) : AQ κ 9 mX1_tryWay [aR 9, aI 0, aI x, aI bits, aI loss] μ ν (TP ν μ0 μ l 0 (vN t 0 + (x + 1) * pP (0 + 1))) := by
  have hl := svl
  have hxb := h.rcb _ _ hx
  have e10 : μ 10 (0 * 11 + x) = l 0 x := by
    obtain ⟨-, -, i, i0, i1, rfl⟩ := hx
    rw [hS.1 10 (by decide)]
    exact (h.2.2.1 0 i (by decide) (by decide) i0 i1).2.2
  have wb := wyb x hxb
  have eV : vN (rowU t 0 x) 1 = vN t 0 + x * pP (0 + 1) := vN_up (k := 0)
  have T := TB_1 (κ := κ) (ν := ν) h (rowU t 0 x) (up μ 12 0 x) (bits + stv 2 x) (loss + μ 10 (0 * 11 + x)) hS.p12 (fun j q0 q1 => ?_) ?_ ?_ ?_
  rotate_left
  · by_cases e : j = 0
    · subst e
      have e2 : rowU t 0 x 0 = x := rowU_at
      rw [up_at, e2]
      exact ⟨rfl, hx⟩
    · have e2 : rowU t 0 x j = t j := rowU_ne e
      rw [up_ne (Or.inr e), e2]
      exact hT j q0 (by omega)
  · rw [wb.1, eb]
    exact (sB_up (k := 0)).symm
  · rw [e10, el]
    exact (sL_up (k := 0)).symm
  · rw [eV]
    exact hD
  refine AMet.of kX1_tryWay.1 (Nat.le_of_ble_eq_true rfl) rfl ?_
  refine aw_blk oX1_tryWay_0 (pc' := 32) (ls' := [_, _, _, _, _]) (st' := [_, _, _, _]) (cs := [(_, _), (_, _), (_, _)]) rfl (⟨⟨by omega, by omega⟩, ⟨by omega, by omega⟩, ⟨by omega, by omega⟩, trivial⟩) ?_
  refine aw_crV (rest := []) T kX1_tryBlock eX1_tryWay_32 lX1_tryWay_32 rfl rfl rfl rfl (Nat.le_of_ble_eq_true rfl) ⟨Nat.le_of_ble_eq_true rfl, Nat.le_of_ble_eq_true rfl⟩ ⟨Nat.le_refl _, Nat.le_refl _⟩ ?_
  intro r μ' ν' hP
  obtain ⟨rfl, rfl, hS', hk', hD'⟩ := hP
  refine aw_vret eX1_tryWay_35 rfl (Nat.le_refl _) (Nat.le_refl _) ?_
  refine ⟨rfl, rfl, rfl, hS', fun j q0 q1 => ?_, ?_⟩
  · rw [hk' j q0 (by omega), up_ne (Or.inr (by omega))]
  · rw [eV] at hD'
    have e : vN t 0 + (x + 1) * pP (0 + 1) = vN t 0 + x * pP (0 + 1) + pP 1 := by
      show _ + (x + 1) * 1331 = _ + x * 1331 + 1331
      omega
    rw [e]
    exact hD'
theorem LP_0 {κ : KX} {μ0 μ : MM} {ν : ML} {l : Int → Int → Int} (h : LC μ0 l) (t : Int → Int) (bits loss : Int) (hT : ∀ j : Int, 0 ≤ j → j < 0 → μ 12 j = t j ∧ rcM μ0 j (t j)) (eb : bits = sB t 0) (el : loss = sL l t 0) (n : Nat) : ∀ (i : Int) (μ1 : MM), 0 ≤ i → i + n = μ0 9 4 → SD μ0 μ1 → (∀ j : Int, 0 ≤ j → j < 0 → μ1 12 j = μ 12 j) → DQ l (rcM μ0) (μ0 9 5) (vN t 0 + (if i < μ0 9 4 then chW μ0 0 i else 11) * pP (0 + 1)) (μ1 9 7) (μ1 9 6) (μ1 13) → AX κ mX1_tryBlock 10 (QS (TP ν μ0 μ l 0 (vN t 0 + pP 0))) 32 [aR 9, aI 0, aI bits, aI loss, aI i] [] μ1 ν := by
  have hn := h.1
  induction n with
  | zero =>
    intro i μ1 h0 hi hS hk hD
    have e94 := hS.2.1
    rw [if_neg (by omega)] at hD
    refine aw_blk oX1_tryBlock_32 (pc' := 38) (ls' := [_, _, _, _, _]) (st' := [_, _]) (cs := []) rfl trivial ?_
    refine aw_icmp_ge (tgt := 65) eX1_tryBlock_38 (by decide) (by omega) (by omega) (fun h1 => ?_) (fun h1 => ?_)
    · refine aw_vret eX1_tryBlock_65 rfl (Nat.le_refl _) (Nat.le_refl _) ?_
      exact ⟨rfl, rfl, rfl, hS, hk, hD⟩
    · exfalso; omega
  | succ n ih =>
    intro i μ1 h0 hi hS hk hD
    have e94 := hS.2.1
    rw [if_pos (by omega)] at hD
    have g := h.2.2.1 0 i (by decide) (by decide) h0 (by omega)
    have e11 : μ1 11 (0 * 4 + i) = chW μ0 0 i := by rw [hS.1 11 (by decide)]; rfl
    have hx : rcM μ0 0 (chW μ0 0 i) := ⟨by decide, by decide, i, h0, by omega, rfl⟩
    refine aw_blk oX1_tryBlock_32 (pc' := 38) (ls' := [_, _, _, _, _]) (st' := [_, _]) (cs := []) rfl trivial ?_
    refine aw_icmp_ge (tgt := 65) eX1_tryBlock_38 (by decide) (by omega) (by omega) (fun h1 => ?_) (fun h1 => ?_)
    · exfalso; omega
    · refine aw_blk oX1_tryBlock_41 (pc' := 56) (ls' := [_, _, _, _, _]) (st' := [_, _, _, _, _]) (cs := [(_, _)]) rfl (⟨⟨by omega, by omega⟩, trivial⟩) ?_
      rw [e11]
      refine aw_crV (rest := []) (TW_0 h t μ1 bits loss (chW μ0 0 i) hS (fun j q0 q1 => by rw [hk j q0 q1]; exact hT j q0 q1) hx eb el hD) kX1_tryWay eX1_tryBlock_56 lX1_tryBlock_56 rfl rfl rfl rfl (Nat.le_of_ble_eq_true rfl) ⟨Nat.le_of_ble_eq_true rfl, Nat.le_of_ble_eq_true rfl⟩ ⟨Nat.le_refl _, Nat.le_refl _⟩ ?_
      intro r μ2 ν2 hP
      obtain ⟨rfl, rfl, hS2, hk2, hD2⟩ := hP
      refine aw_blk oX1_tryBlock_59 (pc' := 32) (ls' := [_, _, _, _, _]) (st' := []) (cs := []) rfl trivial ?_
      refine ih (i + 1) μ2 (by omega) (by omega) hS2 (fun j q0 q1 => by rw [hk2 j q0 q1, hk j q0 q1]) ?_
      have e1 : pP (0 + 1) = 1331 := rfl
      have cb : i + 1 < μ0 9 4 → chW μ0 0 i < chW μ0 0 (i + 1) ∧ chW μ0 0 (i + 1) < 11 := fun q => ⟨h.2.2.2.1 0 i (by decide) (by decide) h0 q, (h.2.2.1 0 (i + 1) (by decide) (by decide) (by omega) q).2.1⟩
      refine hD2.skip ?_ (fun a' b' c' d' hq q1 q2 => ?_) (fun _ a' b' c' d' => by have := h.ql a' b' c' d'; omega)
      · rw [e1]
        split <;> omega
      · exfalso
        have hv : (if i + 1 < μ0 9 4 then chW μ0 0 (i + 1) else 11) ≤ 11 := by split <;> omega
        have D := dig (k := 0) (by decide) (fun j q0 q1 => h.rcb j _ (hT j q0 q1).2) (hq.bd h.rcb) (by omega) hv q1 q2
        have hr : rcM μ0 0 (dg 0 a' b' c' d') := hq.1
        have G := (h.gap hr h0 (by omega)).2 (by omega)
        rw [if_pos G.1] at D
        omega
theorem TB_0 {κ : KX} {μ0 : MM} {ν : ML} {l : Int → Int → Int} (h : LC μ0 l) (t : Int → Int) (μ : MM) (bits loss : Int) (hS : SD μ0 μ) (hT : ∀ j : Int, 0 ≤ j → j < 0 → μ 12 j = t j ∧ rcM μ0 j (t j)) (eb : bits = sB t 0) (el : loss = sL l t 0) (hD : DQ l (rcM μ0) (μ0 9 5) (vN t 0) (μ 9 7) (μ 9 6) (μ 13)) : AQ κ 10 mX1_tryBlock [aR 9, aI 0, aI bits, aI loss] μ ν (TP ν μ0 μ l 0 (vN t 0 + pP 0)) := by
  have b1 := sB_bd (t := t) 0
  have b2 := sL_bd h.2.2.2.2 (t := t) 0
  have b3 := hD.bd h.2.2.2.2
  have b4 := h.2.1
  have b5 := hS.2.2
  have hn := h.1
  have PR1 := fun hp => prune (ν := ν) (k := 0) h (by decide) (fun j q0 q1 => (hT j q0 q1).2) hS hD hp
  refine AMet.of kX1_tryBlock.1 (Nat.le_of_ble_eq_true rfl) rfl ?_
  refine aw_blk oX1_tryBlock_0 (pc' := 5) (ls' := [_, _, _, _, _]) (st' := [_, _]) (cs := []) rfl trivial ?_
  refine aw_icmp_gt (tgt := 16) eX1_tryBlock_5 (by decide) (by omega) (by omega) (fun h1 => ?_) (fun h1 => ?_)
  · refine aw_vret eX1_tryBlock_16 rfl (Nat.le_refl _) (Nat.le_refl _) ?_
    exact ⟨rfl, PR1 (by omega)⟩
  · refine aw_blk oX1_tryBlock_8 (pc' := 13) (ls' := [_, _, _, _, _]) (st' := [_, _]) (cs := []) rfl trivial ?_
    refine aw_icmp_le (tgt := 17) eX1_tryBlock_13 (by decide) (by omega) (by omega) (fun h2 => ?_) (fun h2 => ?_)
    · refine aw_blk oX1_tryBlock_17 (pc' := 19) (ls' := [_, _, _, _, _]) (st' := [_, _]) (cs := []) rfl trivial ?_
      refine aw_icmp_lt (tgt := 29) eX1_tryBlock_19 (by decide) (by omega) (by omega) (fun h3 => ?_) (fun h3 => ?_)
      · refine aw_blk oX1_tryBlock_29 (pc' := 32) (ls' := [_, _, _, _, _]) (st' := []) (cs := []) rfl trivial ?_
        refine LP_0 h t bits loss hT eb el (μ0 9 4).toNat 0 μ (by omega) (by omega) hS (fun _ _ _ => rfl) ?_
        have e1 : pP (0 + 1) = 1331 := rfl
        have g := h.2.2.1 0 0 (by decide) (by decide) (by decide) (by omega)
        rw [if_pos (by omega)]
        refine hD.skip (by rw [e1]; omega) (fun a' b' c' d' hq q1 q2 => ?_) (fun _ a' b' c' d' => by have := h.ql a' b' c' d'; omega)
        exfalso
        have D := dig (k := 0) (u := 0) (by decide) (fun j q0 q1 => h.rcb j _ (hT j q0 q1).2) (hq.bd h.rcb) (by omega) (by omega) (by omega) q2
        have hr : rcM μ0 0 (dg 0 a' b' c' d') := hq.1
        have G := (h.gap hr (Int.le_refl 0) (by omega)).1
        omega
      · exfalso; omega
    · refine aw_vret eX1_tryBlock_16 rfl (Nat.le_refl _) (Nat.le_refl _) ?_
      exact ⟨rfl, PR1 (by omega)⟩

/-! ===== way, opened, of ===== -/
theorem LawOK.st {Rl : MM → ML → Prop} {κ : KX} {cx cm : MX} {As : List AV} {μ : MM} {ν : ML} (z : Int) (h1 : AE κ 60 cx (aR 0 :: As) μ ν (some (aI z)) μ ν) (h2 : AE κ 60 cm (aR 55 :: As) μ ν (some (aI z)) μ ν) (hz : R32 z) (hr : Rl μ ν) : LawOK Rl κ cx cm As μ ν := by
  refine ⟨fun r μ1 ν1 => r = some (aI z) ∧ μ1 = μ ∧ ν1 = ν, AMet.eqv h1 ⟨rfl, rfl, rfl⟩, fun r μ1 ν1 hP => ?_⟩
  obtain ⟨rfl, rfl, rfl⟩ := hP
  exact ⟨z, rfl, hz, AMet.eqv h2 ⟨rfl, hr⟩⟩
abbrev csW : List Nat := [2, 4, 6, 7, 8, 9, 10, 11, 12, 13, 76, 77, 78, 79, 80]
def RlW (μ : MM) (ν : ML) (μ2 : MM) (ν2 : ML) : Prop := ν2 = ν ∧ RC μ2 ∧ SR csW μ μ2 ∧ ∀ j : Int, j ≠ 8 → μ2 2 j = μ 2 j
def LawW (κ : KX) (cx cm : MX) (As : List AV) (μ : MM) (ν : ML) : Prop := LawOK (RlW μ ν) κ cx cm As μ ν
theorem RlW.rf {μ : MM} {ν : ML} (hc : RC μ) : RlW μ ν μ ν := ⟨rfl, hc, SR.rf, fun _ _ => rfl⟩
theorem RS.s0 {μ : MM} (h : RS μ) : μ 58 0 = μ 1 0 ∧ 0 ≤ μ 1 0 ∧ μ 1 0 ≤ 80 := by
  have := h 0 (by decide) (by decide)
  have e0 : stv 0 0 = 0 := rfl
  have e1 : stv 1 0 = 80 := rfl
  omega
theorem RS.s1 {μ : MM} (h : RS μ) : μ 58 1 = μ 1 1 ∧ R32 (μ 1 1) := by
  have := h 1 (by decide) (by decide)
  have e0 : stv 0 1 = 0 := rfl
  have e1 : stv 1 1 = 240 := rfl
  omega
theorem cbt_bd2 (w : Int) : 1 ≤ cbt w ∧ cbt w ≤ 20 := by
  unfold cbt
  (repeat' split) <;> decide
theorem CK.R {μ : MM} {f : Int} (hF : RF μ) (hC : RC μ) (h0 : 0 ≤ f) (h1 : f < μ 2 8) : (∀ b : Int, 0 ≤ b → b < 4 → 0 ≤ μ 6 (4 * f + b) ∧ μ 6 (4 * f + b) ≤ 10) ∧ (0 ≤ μ 7 f ∧ μ 7 f ≤ 80) ∧ (0 ≤ μ 8 f ∧ μ 8 f ≤ 3600) ∧ bd4 μ 4 f := by
  have hc := hF.1
  have hr := hC.1
  have hB := CK.bds hF hr.2 hC.2
  have k := hF.2.2.1 f (by omega) (by omega)
  have hd : ∀ d, 0 ≤ clip μ 3 16 f d ∧ clip μ 3 16 f d ≤ 15 := clip_bd (by decide) (fun d q0 q1 => hF.b3 _ (by omega) (by omega))
  have X : ∃ pv : Int → Int, (∀ d, 0 ≤ pv d ∧ pv d ≤ 15) ∧ isCut (clip μ 3 16 f) pv (μ 5 f) (μ 1 0) (clip μ 6 4 f) (μ 7 f) (μ 8 f) (clip μ 4 16 f) := by
    by_cases f0 : f = 0
    · refine ⟨fun _ => 0, fun _ => ⟨(by decide : (0 : Int) ≤ 0), (by decide : (0 : Int) ≤ 15)⟩, (hC.2 f h0 h1).pv ?_⟩
      rw [f0]
      exact hF.2.2.2.2 (by omega)
    · exact ⟨_, (hB (f - 1).toNat (f - 1) (by omega) (by omega)).cl, hC.2 f h0 h1⟩
  obtain ⟨pv, hp, a1, a2, a3, a4⟩ := X
  have hq := a1.1
  have elk : lst (μ 5 f) = 0 ∨ lst (μ 5 f) = 9 := by
    unfold lst
    split
    · exact Or.inr rfl
    · exact Or.inl rfl
  refine ⟨fun b q0 q1 => ?_, ?_, ?_, hB f.toNat f (by omega) h1⟩
  · unfold okQ at hq
    rw [clip_in (by decide) (by decide), clip_in (by decide) (by decide), clip_in (by decide) (by decide), clip_in (by decide) (by decide)] at hq
    rcases (show b = 0 ∨ b = 1 ∨ b = 2 ∨ b = 3 by omega) with rfl | rfl | rfl | rfl <;> omega
  · rw [a2]
    unfold qB
    have := cbt_bd2 (clip μ 6 4 f 0)
    have := cbt_bd2 (clip μ 6 4 f 1)
    have := cbt_bd2 (clip μ 6 4 f 2)
    have := cbt_bd2 (clip μ 6 4 f 3)
    omega
  · rw [a3]
    unfold qL
    have lb := lss_bd hd hp
    have := lb 0 (clip μ 6 4 f 0)
    have := lb 1 (clip μ 6 4 f 1)
    have := lb 2 (clip μ 6 4 f 2)
    have := lb 3 (clip μ 6 4 f 3)
    omega
/-- behind both cuts -/
theorem cut_both {μ μ1 μ2 : MM} {ν : ML} {f : Int} (hF : RF μ) (hs : RS μ) (hf : 0 ≤ f ∧ f < μ 2 7) (hS1 : SR [2, 4, 6, 7, 8, 9, 10, 11, 12, 13] μ μ1) (hj : ∀ j : Int, j ≠ 8 → μ1 2 j = μ 2 j) (hC : RC μ1) (hS2 : SR [76, 77, 78, 79, 80] μ1 μ2) : RlW μ ν μ2 ν ∧ RF μ1 ∧ μ1 3 = μ 3 ∧ μ2 3 = μ 3 ∧ (f < μ1 2 8 → (∀ g : Int, 0 ≤ g → g < f + 1 → CN μ2 g) → (∀ b : Int, 0 ≤ b → b < 4 → μ2 76 (4 * f + b) = μ1 6 (4 * f + b)) ∧ μ2 78 f = μ1 7 f ∧ μ2 79 f = μ1 8 f ∧ ∀ i : Int, 0 ≤ i → i < 16 → μ2 77 (16 * f + i) = μ1 4 (16 * f + i)) := by
  have hF1 : RF μ1 := hF.fr2 (hj 7 (by decide)) (hS1 3 (by decide)) (hS1 5 (by decide)) (by rw [hS1 55 (by decide)]) (hS1 56 (by decide)) (hS1 57 (by decide))
  have hF2 : RF μ2 := hF1.fr2 (by rw [hS2 2 (by decide)]) (hS2 3 (by decide)) (hS2 5 (by decide)) (by rw [hS2 55 (by decide)]) (hS2 56 (by decide)) (hS2 57 (by decide))
  have hK : ∀ g : Int, CK μ1 g → CK μ2 g := fun g q => q.congr (fun _ _ _ => by rw [hS2 3 (by decide)]) (hS2 4 (by decide)) (by rw [hS2 5 (by decide)]) (by rw [hS2 1 (by decide)]) (hS2 6 (by decide)) (hS2 7 (by decide)) (hS2 8 (by decide))
  have e2 : μ2 2 = μ1 2 := hS2 2 (by decide)
  refine ⟨⟨rfl, ⟨?_, ?_⟩, (hS1.trans hS2).sub (by decide), fun j q => by rw [e2]; exact hj j q⟩, hF1, hS1 3 (by decide), by rw [hS2 3 (by decide), hS1 3 (by decide)], fun hl hN => ?_⟩
  · rw [e2]; exact hC.1
  · intro g g0 g1
    rw [e2] at g1
    exact hK g (hC.2 g g0 g1)
  · have hr := hC.1
    have h58 : μ2 58 0 = μ2 1 0 := by
      rw [hS2 58 (by decide), hS2 1 (by decide), hS1 58 (by decide), hS1 1 (by decide)]
      exact hs.s0.1
    have := cut_eq hF2 h58 (n := f + 1) (by rw [e2]; omega) (fun g g0 g1 => hK g (hC.2 g g0 (by omega))) hN f.toNat f (by omega) (by omega)
    rw [hS2 4 (by decide), hS2 6 (by decide), hS2 7 (by decide), hS2 8 (by decide)] at this
    exact this
theorem RS.m {μ μ1 : MM} (hs : RS μ) (hS1 : SR [2, 4, 6, 7, 8, 9, 10, 11, 12, 13] μ μ1) : 0 ≤ μ1 58 0 ∧ μ1 58 0 ≤ 80 := by
  have := hs.s0
  rw [hS1 58 (by decide)]
  omega
def PW (μ : MM) (ν : ML) (f : Int) (z : MM → Int) (r : Option AV) (μ1 : MM) (ν1 : ML) : Prop := r = some (aI (z μ1)) ∧ ν1 = ν ∧ SR [2, 4, 6, 7, 8, 9, 10, 11, 12, 13] μ μ1 ∧ (∀ j : Int, j ≠ 8 → μ1 2 j = μ 2 j) ∧ RC μ1 ∧ f < μ1 2 8
theorem law_way {κ : KX} {μ : MM} {ν : ML} {f b : Int} (h : RF μ) (hc : RC μ) (hs : RS μ) (hf : R32 f) (hb : R32 b) : LawW κ mX11_way mX12_way [aI f, aI b] μ ν := by
  have a := h.1
  have s0 := hs.s0
  by_cases c1 : (0 ≤ f ∧ f < μ 2 7) ∧ (0 ≤ b ∧ b ≤ 3)
  · refine ⟨PW μ ν f (fun μ1 => μ1 6 (f * 4 + b)), ?_, ?_⟩
    · skip
      refine AMet.of kX11_way.1 (Nat.le_of_ble_eq_true rfl) rfl ?_
      refine aw_blk oX11_way_0 (pc' := 5) (ls' := [_, _, _]) (st' := [_, _]) (cs := []) rfl trivial ?_
      refine aw_ciV (rest := []) (c_X3_has (by omega) (by omega)) kX3_has eX11_way_5 lX11_way_5 rfl rfl rfl rfl (Nat.le_of_ble_eq_true rfl) ⟨Nat.le_of_ble_eq_true rfl, Nat.le_of_ble_eq_true rfl⟩ ⟨Nat.le_refl _, Nat.le_refl _⟩ ?_
      refine aw_if_eq (tgt := 20) eX11_way_8 (by decide) (by exact bt_r) (fun h1 => ?_) (fun h1 => ?_)
      · exfalso; have := bt0 h1; omega
      · refine aw_blk oX11_way_11 (pc' := 14) (ls' := [_, _, _]) (st' := [_, _, _]) (cs := []) rfl trivial ?_
        refine aw_ciS (rest := []) (c_X11_between (by omega) (by omega) (by omega)) kX11_between eX11_way_14 lX11_way_14 rfl rfl (Nat.le_of_ble_eq_true rfl) ⟨Nat.le_of_ble_eq_true rfl, Nat.le_of_ble_eq_true rfl⟩ ⟨Nat.le_refl _, Nat.le_refl _⟩ ?_
        refine aw_if_ne (tgt := 22) eX11_way_17 (by decide) bt_r (fun hh => have h2 := bt1 hh; ?_) (fun hh => have h2 := bt0 hh; ?_)
        · refine aw_blk oX11_way_22 (pc' := 33) (ls' := [_, _, _]) (st' := [_, _, _]) (cs := [(_, _)]) rfl (⟨⟨by omega, by omega⟩, trivial⟩) ?_
          refine aw_crV (rest := []) (c_cutUpTo h hc c1.1 ⟨rfl, by omega⟩) kX3_cutUpTo eX11_way_33 lX11_way_33 rfl rfl rfl rfl (Nat.le_of_ble_eq_true rfl) ⟨Nat.le_of_ble_eq_true rfl, Nat.le_of_ble_eq_true rfl⟩ ⟨Nat.le_refl _, Nat.le_refl _⟩ ?_
          intro r μ1 ν1 hP
          obtain ⟨rfl, rfl, p1, p2, p3, p4⟩ := hP
          refine aw_blk oX11_way_36 (pc' := 49) (ls' := [_, _, _]) (st' := [_]) (cs := [(_, _)]) rfl (⟨⟨by omega, by omega⟩, trivial⟩) ?_
          refine aw_iret eX11_way_49 rfl (Nat.le_refl _) (Nat.le_refl _) ?_
          exact ⟨rfl, rfl, rfl, p1, p2, p3, p4⟩
        · exfalso; omega
    · intro r μ1 ν1 hP
      obtain ⟨rfl, rfl, p1, p2, p3, p4⟩ := hP
      have hF1 := (cut_both (ν := ν1) h hs c1.1 p1 p2 p3 (SR.rf (μ := μ1))).2.1
      have hK := (CK.R hF1 p3 c1.1.1 p4).1 b (by omega) (by omega)
      rw [show 4 * f + b = f * 4 + b by omega] at hK
      have a1 := hF1.1
      have e27 := p2 7 (by decide)
      refine ⟨_, rfl, by show R32 (μ1 6 (f * 4 + b)); omega, ?_⟩
      refine AMet.of kX12_way.1 (Nat.le_of_ble_eq_true rfl) rfl ?_
      refine aw_blk oX12_way_0 (pc' := 2) (ls' := [_, _, _]) (st' := [_, _]) (cs := []) rfl trivial ?_
      refine aw_ciV (rest := []) (c_X12_isFrame (by omega) (by omega)) kX12_isFrame eX12_way_2 lX12_way_2 rfl rfl rfl rfl (Nat.le_of_ble_eq_true rfl) ⟨Nat.le_of_ble_eq_true rfl, Nat.le_of_ble_eq_true rfl⟩ ⟨Nat.le_refl _, Nat.le_refl _⟩ ?_
      refine aw_if_eq (tgt := 17) eX12_way_5 (by decide) (by exact bt_r) (fun h1 => ?_) (fun h1 => ?_)
      · exfalso; have := bt0 h1; omega
      · refine aw_blk oX12_way_8 (pc' := 11) (ls' := [_, _, _]) (st' := [_, _, _]) (cs := []) rfl trivial ?_
        refine aw_ciS (rest := []) (c_X12_in (by omega) (by omega) (by omega)) kX12_in eX12_way_11 lX12_way_11 rfl rfl (Nat.le_of_ble_eq_true rfl) ⟨Nat.le_of_ble_eq_true rfl, Nat.le_of_ble_eq_true rfl⟩ ⟨Nat.le_refl _, Nat.le_refl _⟩ ?_
        refine aw_if_ne (tgt := 19) eX12_way_14 (by decide) bt_r (fun hh => have h2 := bt1 hh; ?_) (fun hh => have h2 := bt0 hh; ?_)
        · refine aw_blk oX12_way_19 (pc' := 21) (ls' := [_, _, _]) (st' := [_, _]) (cs := []) rfl trivial ?_
          refine aw_crV (rest := []) (c_cutM hF1 (by omega) (hs.m p1)) kX12_cut eX12_way_21 lX12_way_21 rfl rfl rfl rfl (Nat.le_of_ble_eq_true rfl) ⟨Nat.le_of_ble_eq_true rfl, Nat.le_of_ble_eq_true rfl⟩ ⟨Nat.le_refl _, Nat.le_refl _⟩ ?_
          intro r μ2 ν2 hP
          obtain ⟨rfl, rfl, q1, q2⟩ := hP
          obtain ⟨g1, -, -, -, g2⟩ := cut_both (ν := ν2) h hs c1.1 p1 p2 p3 q1
          obtain ⟨g3, -⟩ := g2 p4 q2
          refine aw_blk oX12_way_24 (pc' := 34) (ls' := [_, _, _]) (st' := [_]) (cs := [(_, _)]) rfl (⟨⟨by omega, by omega⟩, trivial⟩) ?_
          refine aw_iret eX12_way_34 rfl (Nat.le_refl _) (Nat.le_refl _) ?_
          refine ⟨rfl, ?_, g1⟩
          rw [g3 b (by omega) (by omega), show 4 * f + b = f * 4 + b by omega]
        · exfalso; omega
  · refine LawOK.st (-1) ?_ ?_ (by decide) (RlW.rf hc)
    · refine AMet.of kX11_way.1 (Nat.le_of_ble_eq_true rfl) rfl ?_
      refine aw_blk oX11_way_0 (pc' := 5) (ls' := [_, _, _]) (st' := [_, _]) (cs := []) rfl trivial ?_
      refine aw_ciV (rest := []) (c_X3_has (by omega) (by omega)) kX3_has eX11_way_5 lX11_way_5 rfl rfl rfl rfl (Nat.le_of_ble_eq_true rfl) ⟨Nat.le_of_ble_eq_true rfl, Nat.le_of_ble_eq_true rfl⟩ ⟨Nat.le_refl _, Nat.le_refl _⟩ ?_
      refine aw_if_eq (tgt := 20) eX11_way_8 (by decide) bt_r (fun hh => have h1 := bt0 hh; ?_) (fun hh => have h1 := bt1 hh; ?_)
      · first
        | (exfalso; omega; done)
        | (refine aw_blk oX11_way_20 (pc' := 21) (ls' := [_, _, _]) (st' := [_]) (cs := []) rfl trivial ?_
           refine aw_iret eX11_way_21 rfl (Nat.le_refl _) (Nat.le_refl _) ?_
           exact pe_i rfl rfl rfl)
      · first
        | (exfalso; omega; done)
        | (refine aw_blk oX11_way_11 (pc' := 14) (ls' := [_, _, _]) (st' := [_, _, _]) (cs := []) rfl trivial ?_
           refine aw_ciS (rest := []) (c_X11_between (by omega) (by omega) (by omega)) kX11_between eX11_way_14 lX11_way_14 rfl rfl (Nat.le_of_ble_eq_true rfl) ⟨Nat.le_of_ble_eq_true rfl, Nat.le_of_ble_eq_true rfl⟩ ⟨Nat.le_refl _, Nat.le_refl _⟩ ?_
           refine aw_if_ne (tgt := 22) eX11_way_17 (by decide) bt_r (fun hh => have h2 := bt1 hh; ?_) (fun hh => have h2 := bt0 hh; ?_)
           · first
             | (exfalso; omega; done)
             | (skip)
           · first
             | (exfalso; omega; done)
             | (refine aw_blk oX11_way_20 (pc' := 21) (ls' := [_, _, _]) (st' := [_]) (cs := []) rfl trivial ?_
                refine aw_iret eX11_way_21 rfl (Nat.le_refl _) (Nat.le_refl _) ?_
                exact pe_i rfl rfl rfl))
    · refine AMet.of kX12_way.1 (Nat.le_of_ble_eq_true rfl) rfl ?_
      refine aw_blk oX12_way_0 (pc' := 2) (ls' := [_, _, _]) (st' := [_, _]) (cs := []) rfl trivial ?_
      refine aw_ciV (rest := []) (c_X12_isFrame (by omega) (by omega)) kX12_isFrame eX12_way_2 lX12_way_2 rfl rfl rfl rfl (Nat.le_of_ble_eq_true rfl) ⟨Nat.le_of_ble_eq_true rfl, Nat.le_of_ble_eq_true rfl⟩ ⟨Nat.le_refl _, Nat.le_refl _⟩ ?_
      refine aw_if_eq (tgt := 17) eX12_way_5 (by decide) bt_r (fun hh => have h3 := bt0 hh; ?_) (fun hh => have h3 := bt1 hh; ?_)
      · first
        | (exfalso; omega; done)
        | (refine aw_blk oX12_way_17 (pc' := 18) (ls' := [_, _, _]) (st' := [_]) (cs := []) rfl trivial ?_
           refine aw_iret eX12_way_18 rfl (Nat.le_refl _) (Nat.le_refl _) ?_
           exact pe_i rfl rfl rfl)
      · first
        | (exfalso; omega; done)
        | (refine aw_blk oX12_way_8 (pc' := 11) (ls' := [_, _, _]) (st' := [_, _, _]) (cs := []) rfl trivial ?_
           refine aw_ciS (rest := []) (c_X12_in (by omega) (by omega) (by omega)) kX12_in eX12_way_11 lX12_way_11 rfl rfl (Nat.le_of_ble_eq_true rfl) ⟨Nat.le_of_ble_eq_true rfl, Nat.le_of_ble_eq_true rfl⟩ ⟨Nat.le_refl _, Nat.le_refl _⟩ ?_
           refine aw_if_ne (tgt := 19) eX12_way_14 (by decide) bt_r (fun hh => have h4 := bt1 hh; ?_) (fun hh => have h4 := bt0 hh; ?_)
           · first
             | (exfalso; omega; done)
             | (skip)
           · first
             | (exfalso; omega; done)
             | (refine aw_blk oX12_way_17 (pc' := 18) (ls' := [_, _, _]) (st' := [_]) (cs := []) rfl trivial ?_
                refine aw_iret eX12_way_18 rfl (Nat.le_refl _) (Nat.le_refl _) ?_
                exact pe_i rfl rfl rfl))
theorem law_opened {κ : KX} {μ : MM} {ν : ML} {f d : Int} (h : RF μ) (hc : RC μ) (hs : RS μ) (hf : R32 f) (hd : R32 d) : LawW κ mX11_opened mX12_opened [aI f, aI d] μ ν := by
  have a := h.1
  have s0 := hs.s0
  by_cases c1 : 0 ≤ f ∧ f < μ 2 7
  · by_cases c2 : 0 ≤ d ∧ d ≤ 15
    · refine ⟨PW μ ν f (fun μ1 => μ1 4 (f * 16 + d)), ?_, ?_⟩
      · skip
        refine AMet.of kX11_opened.1 (Nat.le_of_ble_eq_true rfl) rfl ?_
        refine aw_blk oX11_opened_0 (pc' := 5) (ls' := [_, _, _]) (st' := [_, _]) (cs := []) rfl trivial ?_
        refine aw_ciV (rest := []) (c_X3_has (by omega) (by omega)) kX3_has eX11_opened_5 lX11_opened_5 rfl rfl rfl rfl (Nat.le_of_ble_eq_true rfl) ⟨Nat.le_of_ble_eq_true rfl, Nat.le_of_ble_eq_true rfl⟩ ⟨Nat.le_refl _, Nat.le_refl _⟩ ?_
        refine aw_if_ne (tgt := 13) eX11_opened_8 (by decide) (by exact bt_r) (fun h1 => ?_) (fun h1 => ?_)
        · refine aw_blk oX11_opened_13 (pc' := 17) (ls' := [_, _, _]) (st' := [_, _, _]) (cs := []) rfl trivial ?_
          refine aw_ciS (rest := []) (c_X11_between (by omega) (by omega) (by omega)) kX11_between eX11_opened_17 lX11_opened_17 rfl rfl (Nat.le_of_ble_eq_true rfl) ⟨Nat.le_of_ble_eq_true rfl, Nat.le_of_ble_eq_true rfl⟩ ⟨Nat.le_refl _, Nat.le_refl _⟩ ?_
          refine aw_if_ne (tgt := 26) eX11_opened_20 (by decide) bt_r (fun hh => have h2 := bt1 hh; ?_) (fun hh => have h2 := bt0 hh; ?_)
          · refine aw_blk oX11_opened_26 (pc' := 37) (ls' := [_, _, _]) (st' := [_, _, _]) (cs := [(_, _)]) rfl (⟨⟨by omega, by omega⟩, trivial⟩) ?_
            refine aw_crV (rest := []) (c_cutUpTo h hc c1 ⟨rfl, by omega⟩) kX3_cutUpTo eX11_opened_37 lX11_opened_37 rfl rfl rfl rfl (Nat.le_of_ble_eq_true rfl) ⟨Nat.le_of_ble_eq_true rfl, Nat.le_of_ble_eq_true rfl⟩ ⟨Nat.le_refl _, Nat.le_refl _⟩ ?_
            intro r μ1 ν1 hP
            obtain ⟨rfl, rfl, p1, p2, p3, p4⟩ := hP
            refine aw_blk oX11_opened_40 (pc' := 54) (ls' := [_, _, _]) (st' := [_]) (cs := [(_, _)]) rfl (⟨⟨by omega, by omega⟩, trivial⟩) ?_
            refine aw_iret eX11_opened_54 rfl (Nat.le_refl _) (Nat.le_refl _) ?_
            exact ⟨rfl, rfl, rfl, p1, p2, p3, p4⟩
          · exfalso; omega
        · exfalso; have := bt0 h1; omega
      · intro r μ1 ν1 hP
        obtain ⟨rfl, rfl, p1, p2, p3, p4⟩ := hP
        have hF1 := (cut_both (ν := ν1) h hs c1 p1 p2 p3 (SR.rf (μ := μ1))).2.1
        have hK := (CK.R hF1 p3 c1.1 p4).2.2.2 d (by omega) (by omega)
        rw [show 16 * f + d = f * 16 + d by omega] at hK
        have a1 := hF1.1
        have e27 := p2 7 (by decide)
        refine ⟨_, rfl, by show R32 (μ1 4 (f * 16 + d)); omega, ?_⟩
        refine AMet.of kX12_opened.1 (Nat.le_of_ble_eq_true rfl) rfl ?_
        refine aw_blk oX12_opened_0 (pc' := 2) (ls' := [_, _, _]) (st' := [_, _]) (cs := []) rfl trivial ?_
        refine aw_ciV (rest := []) (c_X12_isFrame (by omega) (by omega)) kX12_isFrame eX12_opened_2 lX12_opened_2 rfl rfl rfl rfl (Nat.le_of_ble_eq_true rfl) ⟨Nat.le_of_ble_eq_true rfl, Nat.le_of_ble_eq_true rfl⟩ ⟨Nat.le_refl _, Nat.le_refl _⟩ ?_
        refine aw_if_ne (tgt := 10) eX12_opened_5 (by decide) (by exact bt_r) (fun h1 => ?_) (fun h1 => ?_)
        · refine aw_blk oX12_opened_10 (pc' := 14) (ls' := [_, _, _]) (st' := [_, _, _]) (cs := []) rfl trivial ?_
          refine aw_ciS (rest := []) (c_X12_in (by omega) (by omega) (by omega)) kX12_in eX12_opened_14 lX12_opened_14 rfl rfl (Nat.le_of_ble_eq_true rfl) ⟨Nat.le_of_ble_eq_true rfl, Nat.le_of_ble_eq_true rfl⟩ ⟨Nat.le_refl _, Nat.le_refl _⟩ ?_
          refine aw_if_ne (tgt := 23) eX12_opened_17 (by decide) bt_r (fun hh => have h2 := bt1 hh; ?_) (fun hh => have h2 := bt0 hh; ?_)
          · refine aw_blk oX12_opened_23 (pc' := 25) (ls' := [_, _, _]) (st' := [_, _]) (cs := []) rfl trivial ?_
            refine aw_crV (rest := []) (c_cutM hF1 (by omega) (hs.m p1)) kX12_cut eX12_opened_25 lX12_opened_25 rfl rfl rfl rfl (Nat.le_of_ble_eq_true rfl) ⟨Nat.le_of_ble_eq_true rfl, Nat.le_of_ble_eq_true rfl⟩ ⟨Nat.le_refl _, Nat.le_refl _⟩ ?_
            intro r μ2 ν2 hP
            obtain ⟨rfl, rfl, q1, q2⟩ := hP
            obtain ⟨g1, -, -, -, g2⟩ := cut_both (ν := ν2) h hs c1 p1 p2 p3 q1
            obtain ⟨-, -, -, g3⟩ := g2 p4 q2
            refine aw_blk oX12_opened_28 (pc' := 39) (ls' := [_, _, _]) (st' := [_]) (cs := [(_, _)]) rfl (⟨⟨by omega, by omega⟩, trivial⟩) ?_
            refine aw_iret eX12_opened_39 rfl (Nat.le_refl _) (Nat.le_refl _) ?_
            refine ⟨rfl, ?_, g1⟩
            rw [g3 d (by omega) (by omega), show 16 * f + d = f * 16 + d by omega]
          · exfalso; omega
        · exfalso; have := bt0 h1; omega
    · refine LawOK.st (-2) ?_ ?_ (by decide) (RlW.rf hc)
      · refine AMet.of kX11_opened.1 (Nat.le_of_ble_eq_true rfl) rfl ?_
        refine aw_blk oX11_opened_0 (pc' := 5) (ls' := [_, _, _]) (st' := [_, _]) (cs := []) rfl trivial ?_
        refine aw_ciV (rest := []) (c_X3_has (by omega) (by omega)) kX3_has eX11_opened_5 lX11_opened_5 rfl rfl rfl rfl (Nat.le_of_ble_eq_true rfl) ⟨Nat.le_of_ble_eq_true rfl, Nat.le_of_ble_eq_true rfl⟩ ⟨Nat.le_refl _, Nat.le_refl _⟩ ?_
        refine aw_if_ne (tgt := 13) eX11_opened_8 (by decide) bt_r (fun hh => have h5 := bt1 hh; ?_) (fun hh => have h5 := bt0 hh; ?_)
        · first
          | (exfalso; omega; done)
          | (refine aw_blk oX11_opened_13 (pc' := 17) (ls' := [_, _, _]) (st' := [_, _, _]) (cs := []) rfl trivial ?_
             refine aw_ciS (rest := []) (c_X11_between (by omega) (by omega) (by omega)) kX11_between eX11_opened_17 lX11_opened_17 rfl rfl (Nat.le_of_ble_eq_true rfl) ⟨Nat.le_of_ble_eq_true rfl, Nat.le_of_ble_eq_true rfl⟩ ⟨Nat.le_refl _, Nat.le_refl _⟩ ?_
             refine aw_if_ne (tgt := 26) eX11_opened_20 (by decide) bt_r (fun hh => have h6 := bt1 hh; ?_) (fun hh => have h6 := bt0 hh; ?_)
             · first
               | (exfalso; omega; done)
               | (skip)
             · first
               | (exfalso; omega; done)
               | (refine aw_blk oX11_opened_23 (pc' := 25) (ls' := [_, _, _]) (st' := [_]) (cs := []) rfl trivial ?_
                  refine aw_iret eX11_opened_25 rfl (Nat.le_refl _) (Nat.le_refl _) ?_
                  exact pe_i rfl rfl rfl))
        · first
          | (exfalso; omega; done)
          | (refine aw_blk oX11_opened_11 (pc' := 12) (ls' := [_, _, _]) (st' := [_]) (cs := []) rfl trivial ?_
             refine aw_iret eX11_opened_12 rfl (Nat.le_refl _) (Nat.le_refl _) ?_
             exact pe_i rfl rfl rfl)
      · refine AMet.of kX12_opened.1 (Nat.le_of_ble_eq_true rfl) rfl ?_
        refine aw_blk oX12_opened_0 (pc' := 2) (ls' := [_, _, _]) (st' := [_, _]) (cs := []) rfl trivial ?_
        refine aw_ciV (rest := []) (c_X12_isFrame (by omega) (by omega)) kX12_isFrame eX12_opened_2 lX12_opened_2 rfl rfl rfl rfl (Nat.le_of_ble_eq_true rfl) ⟨Nat.le_of_ble_eq_true rfl, Nat.le_of_ble_eq_true rfl⟩ ⟨Nat.le_refl _, Nat.le_refl _⟩ ?_
        refine aw_if_ne (tgt := 10) eX12_opened_5 (by decide) bt_r (fun hh => have h7 := bt1 hh; ?_) (fun hh => have h7 := bt0 hh; ?_)
        · first
          | (exfalso; omega; done)
          | (refine aw_blk oX12_opened_10 (pc' := 14) (ls' := [_, _, _]) (st' := [_, _, _]) (cs := []) rfl trivial ?_
             refine aw_ciS (rest := []) (c_X12_in (by omega) (by omega) (by omega)) kX12_in eX12_opened_14 lX12_opened_14 rfl rfl (Nat.le_of_ble_eq_true rfl) ⟨Nat.le_of_ble_eq_true rfl, Nat.le_of_ble_eq_true rfl⟩ ⟨Nat.le_refl _, Nat.le_refl _⟩ ?_
             refine aw_if_ne (tgt := 23) eX12_opened_17 (by decide) bt_r (fun hh => have h8 := bt1 hh; ?_) (fun hh => have h8 := bt0 hh; ?_)
             · first
               | (exfalso; omega; done)
               | (skip)
             · first
               | (exfalso; omega; done)
               | (refine aw_blk oX12_opened_20 (pc' := 22) (ls' := [_, _, _]) (st' := [_]) (cs := []) rfl trivial ?_
                  refine aw_iret eX12_opened_22 rfl (Nat.le_refl _) (Nat.le_refl _) ?_
                  exact pe_i rfl rfl rfl))
        · first
          | (exfalso; omega; done)
          | (refine aw_blk oX12_opened_8 (pc' := 9) (ls' := [_, _, _]) (st' := [_]) (cs := []) rfl trivial ?_
             refine aw_iret eX12_opened_9 rfl (Nat.le_refl _) (Nat.le_refl _) ?_
             exact pe_i rfl rfl rfl)
  · refine LawOK.st (-1) ?_ ?_ (by decide) (RlW.rf hc)
    · refine AMet.of kX11_opened.1 (Nat.le_of_ble_eq_true rfl) rfl ?_
      refine aw_blk oX11_opened_0 (pc' := 5) (ls' := [_, _, _]) (st' := [_, _]) (cs := []) rfl trivial ?_
      refine aw_ciV (rest := []) (c_X3_has (by omega) (by omega)) kX3_has eX11_opened_5 lX11_opened_5 rfl rfl rfl rfl (Nat.le_of_ble_eq_true rfl) ⟨Nat.le_of_ble_eq_true rfl, Nat.le_of_ble_eq_true rfl⟩ ⟨Nat.le_refl _, Nat.le_refl _⟩ ?_
      refine aw_if_ne (tgt := 13) eX11_opened_8 (by decide) bt_r (fun hh => have h9 := bt1 hh; ?_) (fun hh => have h9 := bt0 hh; ?_)
      · first
        | (exfalso; omega; done)
        | (refine aw_blk oX11_opened_13 (pc' := 17) (ls' := [_, _, _]) (st' := [_, _, _]) (cs := []) rfl trivial ?_
           refine aw_ciS (rest := []) (c_X11_between (by omega) (by omega) (by omega)) kX11_between eX11_opened_17 lX11_opened_17 rfl rfl (Nat.le_of_ble_eq_true rfl) ⟨Nat.le_of_ble_eq_true rfl, Nat.le_of_ble_eq_true rfl⟩ ⟨Nat.le_refl _, Nat.le_refl _⟩ ?_
           refine aw_if_ne (tgt := 26) eX11_opened_20 (by decide) bt_r (fun hh => have h10 := bt1 hh; ?_) (fun hh => have h10 := bt0 hh; ?_)
           · first
             | (exfalso; omega; done)
             | (skip)
           · first
             | (exfalso; omega; done)
             | (refine aw_blk oX11_opened_23 (pc' := 25) (ls' := [_, _, _]) (st' := [_]) (cs := []) rfl trivial ?_
                refine aw_iret eX11_opened_25 rfl (Nat.le_refl _) (Nat.le_refl _) ?_
                exact pe_i rfl rfl rfl))
      · first
        | (exfalso; omega; done)
        | (refine aw_blk oX11_opened_11 (pc' := 12) (ls' := [_, _, _]) (st' := [_]) (cs := []) rfl trivial ?_
           refine aw_iret eX11_opened_12 rfl (Nat.le_refl _) (Nat.le_refl _) ?_
           exact pe_i rfl rfl rfl)
    · refine AMet.of kX12_opened.1 (Nat.le_of_ble_eq_true rfl) rfl ?_
      refine aw_blk oX12_opened_0 (pc' := 2) (ls' := [_, _, _]) (st' := [_, _]) (cs := []) rfl trivial ?_
      refine aw_ciV (rest := []) (c_X12_isFrame (by omega) (by omega)) kX12_isFrame eX12_opened_2 lX12_opened_2 rfl rfl rfl rfl (Nat.le_of_ble_eq_true rfl) ⟨Nat.le_of_ble_eq_true rfl, Nat.le_of_ble_eq_true rfl⟩ ⟨Nat.le_refl _, Nat.le_refl _⟩ ?_
      refine aw_if_ne (tgt := 10) eX12_opened_5 (by decide) bt_r (fun hh => have h11 := bt1 hh; ?_) (fun hh => have h11 := bt0 hh; ?_)
      · first
        | (exfalso; omega; done)
        | (refine aw_blk oX12_opened_10 (pc' := 14) (ls' := [_, _, _]) (st' := [_, _, _]) (cs := []) rfl trivial ?_
           refine aw_ciS (rest := []) (c_X12_in (by omega) (by omega) (by omega)) kX12_in eX12_opened_14 lX12_opened_14 rfl rfl (Nat.le_of_ble_eq_true rfl) ⟨Nat.le_of_ble_eq_true rfl, Nat.le_of_ble_eq_true rfl⟩ ⟨Nat.le_refl _, Nat.le_refl _⟩ ?_
           refine aw_if_ne (tgt := 23) eX12_opened_17 (by decide) bt_r (fun hh => have h12 := bt1 hh; ?_) (fun hh => have h12 := bt0 hh; ?_)
           · first
             | (exfalso; omega; done)
             | (skip)
           · first
             | (exfalso; omega; done)
             | (refine aw_blk oX12_opened_20 (pc' := 22) (ls' := [_, _, _]) (st' := [_]) (cs := []) rfl trivial ?_
                refine aw_iret eX12_opened_22 rfl (Nat.le_refl _) (Nat.le_refl _) ?_
                exact pe_i rfl rfl rfl))
      · first
        | (exfalso; omega; done)
        | (refine aw_blk oX12_opened_8 (pc' := 9) (ls' := [_, _, _]) (st' := [_]) (cs := []) rfl trivial ?_
           refine aw_iret eX12_opened_9 rfl (Nat.le_refl _) (Nat.le_refl _) ?_
           exact pe_i rfl rfl rfl)
/-- of 0 and of 1 -/
theorem law_of01 {κ : KX} {μ : MM} {ν : ML} {f w : Int} (h : RF μ) (hc : RC μ) (hs : RS μ) (hf : R32 f) (c1 : 0 ≤ f ∧ f < μ 2 7) (hw : w = 0 ∨ w = 1) : LawW κ mX11_of mX12_of [aI f, aI w] μ ν := by
  have a := h.1
  have s0 := hs.s0
  refine ⟨PW μ ν f (fun μ1 => if w = 0 then μ1 7 f else μ1 8 f), ?_, ?_⟩
  · skip
    refine AMet.of kX11_of.1 (Nat.le_of_ble_eq_true rfl) rfl ?_
    refine aw_blk oX11_of_0 (pc' := 5) (ls' := [_, _, _]) (st' := [_, _]) (cs := []) rfl trivial ?_
    refine aw_ciV (rest := []) (c_X3_has (by omega) (by omega)) kX3_has eX11_of_5 lX11_of_5 rfl rfl rfl rfl (Nat.le_of_ble_eq_true rfl) ⟨Nat.le_of_ble_eq_true rfl, Nat.le_of_ble_eq_true rfl⟩ ⟨Nat.le_refl _, Nat.le_refl _⟩ ?_
    refine aw_if_ne (tgt := 13) eX11_of_8 (by decide) (by exact bt_r) (fun h1 => ?_) (fun h1 => ?_)
    · refine aw_blk oX11_of_13 (pc' := 14) (ls' := [_, _, _]) (st' := [_]) (cs := []) rfl trivial ?_
      rcases hw with rfl | rfl
      · refine aw_tswIn (tgt := 48) eX11_of_14 (by decide) (by decide) (by decide) rfl (by decide) ?_
        refine aw_blk oX11_of_48 (pc' := 59) (ls' := [_, _, _]) (st' := [_, _, _]) (cs := [(_, _)]) rfl (⟨⟨by omega, by omega⟩, trivial⟩) ?_
        refine aw_crV (rest := []) (c_cutUpTo h hc c1 ⟨rfl, by omega⟩) kX3_cutUpTo eX11_of_59 lX11_of_59 rfl rfl rfl rfl (Nat.le_of_ble_eq_true rfl) ⟨Nat.le_of_ble_eq_true rfl, Nat.le_of_ble_eq_true rfl⟩ ⟨Nat.le_refl _, Nat.le_refl _⟩ ?_
        intro r μ1 ν1 hP
        obtain ⟨rfl, rfl, p1, p2, p3, p4⟩ := hP
        refine aw_blk oX11_of_62 (pc' := 71) (ls' := [_, _, _]) (st' := [_]) (cs := [(_, _)]) rfl (⟨⟨by omega, by omega⟩, trivial⟩) ?_
        refine aw_iret eX11_of_71 rfl (Nat.le_refl _) (Nat.le_refl _) ?_
        exact ⟨rfl, rfl, rfl, p1, p2, p3, p4⟩
      · refine aw_tswIn (tgt := 72) eX11_of_14 (by decide) (by decide) (by decide) rfl (by decide) ?_
        refine aw_blk oX11_of_72 (pc' := 83) (ls' := [_, _, _]) (st' := [_, _, _]) (cs := [(_, _)]) rfl (⟨⟨by omega, by omega⟩, trivial⟩) ?_
        refine aw_crV (rest := []) (c_cutUpTo h hc c1 ⟨rfl, by omega⟩) kX3_cutUpTo eX11_of_83 lX11_of_83 rfl rfl rfl rfl (Nat.le_of_ble_eq_true rfl) ⟨Nat.le_of_ble_eq_true rfl, Nat.le_of_ble_eq_true rfl⟩ ⟨Nat.le_refl _, Nat.le_refl _⟩ ?_
        intro r μ1 ν1 hP
        obtain ⟨rfl, rfl, p1, p2, p3, p4⟩ := hP
        refine aw_blk oX11_of_86 (pc' := 95) (ls' := [_, _, _]) (st' := [_]) (cs := [(_, _)]) rfl (⟨⟨by omega, by omega⟩, trivial⟩) ?_
        refine aw_iret eX11_of_95 rfl (Nat.le_refl _) (Nat.le_refl _) ?_
        exact ⟨rfl, rfl, rfl, p1, p2, p3, p4⟩
    · exfalso; have := bt0 h1; omega
  · intro r μ1 ν1 hP
    obtain ⟨rfl, rfl, p1, p2, p3, p4⟩ := hP
    have hF1 := (cut_both (ν := ν1) h hs c1 p1 p2 p3 (SR.rf (μ := μ1))).2.1
    have hK := CK.R hF1 p3 c1.1 p4
    have a1 := hF1.1
    have e27 := p2 7 (by decide)
    refine ⟨_, rfl, by show R32 (if w = 0 then μ1 7 f else μ1 8 f); split <;> omega, ?_⟩
    refine AMet.of kX12_of.1 (Nat.le_of_ble_eq_true rfl) rfl ?_
    refine aw_blk oX12_of_0 (pc' := 2) (ls' := [_, _, _]) (st' := [_, _]) (cs := []) rfl trivial ?_
    refine aw_ciV (rest := []) (c_X12_isFrame (by omega) (by omega)) kX12_isFrame eX12_of_2 lX12_of_2 rfl rfl rfl rfl (Nat.le_of_ble_eq_true rfl) ⟨Nat.le_of_ble_eq_true rfl, Nat.le_of_ble_eq_true rfl⟩ ⟨Nat.le_refl _, Nat.le_refl _⟩ ?_
    refine aw_if_ne (tgt := 10) eX12_of_5 (by decide) (by exact bt_r) (fun h1 => ?_) (fun h1 => ?_)
    · refine aw_blk oX12_of_10 (pc' := 13) (ls' := [_, _, _]) (st' := [_, _, _]) (cs := []) rfl trivial ?_
      refine aw_ciS (rest := []) (c_X12_in (by omega) (by omega) (by omega)) kX12_in eX12_of_13 lX12_of_13 rfl rfl (Nat.le_of_ble_eq_true rfl) ⟨Nat.le_of_ble_eq_true rfl, Nat.le_of_ble_eq_true rfl⟩ ⟨Nat.le_refl _, Nat.le_refl _⟩ ?_
      refine aw_if_ne (tgt := 22) eX12_of_16 (by decide) bt_r (fun hh => have h2 := bt1 hh; ?_) (fun hh => have h2 := bt0 hh; ?_)
      · refine aw_blk oX12_of_22 (pc' := 24) (ls' := [_, _, _]) (st' := [_, _]) (cs := []) rfl trivial ?_
        refine aw_crV (rest := []) (c_cutM hF1 (by omega) (hs.m p1)) kX12_cut eX12_of_24 lX12_of_24 rfl rfl rfl rfl (Nat.le_of_ble_eq_true rfl) ⟨Nat.le_of_ble_eq_true rfl, Nat.le_of_ble_eq_true rfl⟩ ⟨Nat.le_refl _, Nat.le_refl _⟩ ?_
        intro r μ2 ν2 hP
        obtain ⟨rfl, rfl, q1, q2⟩ := hP
        obtain ⟨g1, -, -, -, g2⟩ := cut_both (ν := ν2) h hs c1 p1 p2 p3 q1
        obtain ⟨-, g3, g4, -⟩ := g2 p4 q2
        refine aw_blk oX12_of_27 (pc' := 28) (ls' := [_, _, _]) (st' := [_]) (cs := []) rfl trivial ?_
        refine aw_if_ne (tgt := 40) eX12_of_28 (by decide) (by omega) (fun h3 => ?_) (fun h3 => ?_)
        · refine aw_blk oX12_of_40 (pc' := 42) (ls' := [_, _, _]) (st' := [_, _]) (cs := []) rfl trivial ?_
          refine aw_icmp_ne (tgt := 54) eX12_of_42 (by decide) (by omega) (by omega) (fun h4 => ?_) (fun h4 => ?_)
          · exfalso; omega
          · refine aw_blk oX12_of_45 (pc' := 101) (ls' := [_, _, _]) (st' := [_]) (cs := [(_, _)]) rfl (⟨⟨by omega, by omega⟩, trivial⟩) ?_
            refine aw_iret eX12_of_101 rfl (Nat.le_refl _) (Nat.le_refl _) ?_
            refine ⟨rfl, ?_, g1⟩
            rw [g4]
            show some (aI (μ1 8 f)) = some (aI (if w = 0 then μ1 7 f else μ1 8 f))
            rw [if_neg h3]
        · refine aw_blk oX12_of_31 (pc' := 101) (ls' := [_, _, _]) (st' := [_]) (cs := [(_, _)]) rfl (⟨⟨by omega, by omega⟩, trivial⟩) ?_
          refine aw_iret eX12_of_101 rfl (Nat.le_refl _) (Nat.le_refl _) ?_
          refine ⟨rfl, ?_, g1⟩
          rw [g3]
          show some (aI (μ1 7 f)) = some (aI (if w = 0 then μ1 7 f else μ1 8 f))
          rw [if_pos (by omega)]
      · exfalso; omega
    · exfalso; have := bt0 h1; omega
theorem law_of {κ : KX} {μ : MM} {ν : ML} {f w : Int} (h : RF μ) (hc : RC μ) (hs : RS μ) (hf : R32 f) (hw : R32 w) : LawW κ mX11_of mX12_of [aI f, aI w] μ ν := by
  have a := h.1
  have s0 := hs.s0
  have s1 := hs.s1
  by_cases c1 : 0 ≤ f ∧ f < μ 2 7
  · by_cases c2 : 0 ≤ w ∧ w ≤ 4
    · by_cases c3 : w = 0 ∨ w = 1
      · exact law_of01 h hc hs hf c1 c3
      · have hb := unl0_bd h.2.1 (f := f) (by omega)
        obtain ⟨z, hz⟩ : ∃ z : Int, z = if w = 2 then unl0 (μ 3) f else if w = 3 then b01 (isSc μ (μ 1 1) f) else b01 (isSt μ f) := ⟨_, rfl⟩
        have hzR : R32 z := by
          rw [hz]
          split
          · omega
          · split
            · exact b01_r
            · exact b01_r
        refine ⟨fun r μ1 ν1 => r = some (aI z) ∧ μ1 = μ ∧ ν1 = ν, ?_, ?_⟩
        · skip
          refine AMet.of kX11_of.1 (Nat.le_of_ble_eq_true rfl) rfl ?_
          refine aw_blk oX11_of_0 (pc' := 5) (ls' := [_, _, _]) (st' := [_, _]) (cs := []) rfl trivial ?_
          refine aw_ciV (rest := []) (c_X3_has (by omega) (by omega)) kX3_has eX11_of_5 lX11_of_5 rfl rfl rfl rfl (Nat.le_of_ble_eq_true rfl) ⟨Nat.le_of_ble_eq_true rfl, Nat.le_of_ble_eq_true rfl⟩ ⟨Nat.le_refl _, Nat.le_refl _⟩ ?_
          refine aw_if_ne (tgt := 13) eX11_of_8 (by decide) (by exact bt_r) (fun h1 => ?_) (fun h1 => ?_)
          · refine aw_blk oX11_of_13 (pc' := 14) (ls' := [_, _, _]) (st' := [_]) (cs := []) rfl trivial ?_
            rcases (show w = 2 ∨ w = 3 ∨ w = 4 by omega) with rfl | rfl | rfl
            · refine aw_tswIn (tgt := 96) eX11_of_14 (by decide) (by decide) (by decide) rfl (by decide) ?_
              refine aw_blk oX11_of_96 (pc' := 101) (ls' := [_, _, _]) (st' := [_, _]) (cs := []) rfl trivial ?_
              refine aw_ciV (rest := []) (c_unlikeC h.b3 (by omega)) kX3_unlike eX11_of_101 lX11_of_101 rfl rfl rfl rfl (Nat.le_of_ble_eq_true rfl) ⟨Nat.le_of_ble_eq_true rfl, Nat.le_of_ble_eq_true rfl⟩ ⟨Nat.le_refl _, Nat.le_refl _⟩ ?_
              refine aw_iret eX11_of_104 rfl (Nat.le_refl _) (Nat.le_refl _) ?_
              rw [if_pos rfl] at hz
              exact ⟨rfl, by rw [hz], rfl, rfl⟩
            · refine aw_tswIn (tgt := 105) eX11_of_14 (by decide) (by decide) (by decide) rfl (by decide) ?_
              rw [if_neg (by decide), if_pos rfl] at hz
              refine aw_blk oX11_of_105 (pc' := 116) (ls' := [_, _, _]) (st' := [_, _, _]) (cs := [(_, _)]) rfl (⟨⟨by omega, by omega⟩, trivial⟩) ?_
              refine aw_ciV (rest := []) (c_isSceneC h.2.1 (by omega) s1.2) kX3_isScene eX11_of_116 lX11_of_116 rfl rfl rfl rfl (Nat.le_of_ble_eq_true rfl) ⟨Nat.le_of_ble_eq_true rfl, Nat.le_of_ble_eq_true rfl⟩ ⟨Nat.le_refl _, Nat.le_refl _⟩ ?_
              cases hq : isSc μ (μ 1 1) f
              · refine aw_if_eq (tgt := 126) eX11_of_119 (by decide) (by exact b01_r) (fun h2 => ?_) (fun h2 => ?_)
                · refine aw_blk oX11_of_126 (pc' := 127) (ls' := [_, _, _]) (st' := [_]) (cs := []) rfl trivial ?_
                  refine aw_iret eX11_of_127 rfl (Nat.le_refl _) (Nat.le_refl _) ?_
                  exact ⟨rfl, by rw [hz, hq]; rfl, rfl, rfl⟩
                · exfalso; exact absurd rfl h2
              · refine aw_if_eq (tgt := 126) eX11_of_119 (by decide) (by exact b01_r) (fun h2 => ?_) (fun h2 => ?_)
                · exfalso; exact absurd h2 (by decide)
                · refine aw_blk oX11_of_122 (pc' := 127) (ls' := [_, _, _]) (st' := [_]) (cs := []) rfl trivial ?_
                  refine aw_iret eX11_of_127 rfl (Nat.le_refl _) (Nat.le_refl _) ?_
                  exact ⟨rfl, by rw [hz, hq]; rfl, rfl, rfl⟩
            · refine aw_tswIn (tgt := 128) eX11_of_14 (by decide) (by decide) (by decide) rfl (by decide) ?_
              rw [if_neg (by decide), if_neg (by decide)] at hz
              refine aw_blk oX11_of_128 (pc' := 133) (ls' := [_, _, _]) (st' := [_, _]) (cs := []) rfl trivial ?_
              refine aw_ciV (rest := []) (c_isStillC h.2.1 (by omega)) kX3_isStill eX11_of_133 lX11_of_133 rfl rfl rfl rfl (Nat.le_of_ble_eq_true rfl) ⟨Nat.le_of_ble_eq_true rfl, Nat.le_of_ble_eq_true rfl⟩ ⟨Nat.le_refl _, Nat.le_refl _⟩ ?_
              cases hq : isSt μ f
              · refine aw_if_eq (tgt := 143) eX11_of_136 (by decide) (by exact b01_r) (fun h2 => ?_) (fun h2 => ?_)
                · refine aw_blk oX11_of_143 (pc' := 144) (ls' := [_, _, _]) (st' := [_]) (cs := []) rfl trivial ?_
                  refine aw_iret eX11_of_144 rfl (Nat.le_refl _) (Nat.le_refl _) ?_
                  exact ⟨rfl, by rw [hz, hq]; rfl, rfl, rfl⟩
                · exfalso; exact absurd rfl h2
              · refine aw_if_eq (tgt := 143) eX11_of_136 (by decide) (by exact b01_r) (fun h2 => ?_) (fun h2 => ?_)
                · exfalso; exact absurd h2 (by decide)
                · refine aw_blk oX11_of_139 (pc' := 144) (ls' := [_, _, _]) (st' := [_]) (cs := []) rfl trivial ?_
                  refine aw_iret eX11_of_144 rfl (Nat.le_refl _) (Nat.le_refl _) ?_
                  exact ⟨rfl, by rw [hz, hq]; rfl, rfl, rfl⟩
          · exfalso; have := bt0 h1; omega
        · intro r μ1 ν1 hP
          obtain ⟨rfl, rfl, rfl⟩ := hP
          refine ⟨z, rfl, hzR, ?_⟩
          have a1 := h.1
          refine AMet.of kX12_of.1 (Nat.le_of_ble_eq_true rfl) rfl ?_
          refine aw_blk oX12_of_0 (pc' := 2) (ls' := [_, _, _]) (st' := [_, _]) (cs := []) rfl trivial ?_
          refine aw_ciV (rest := []) (c_X12_isFrame (by omega) (by omega)) kX12_isFrame eX12_of_2 lX12_of_2 rfl rfl rfl rfl (Nat.le_of_ble_eq_true rfl) ⟨Nat.le_of_ble_eq_true rfl, Nat.le_of_ble_eq_true rfl⟩ ⟨Nat.le_refl _, Nat.le_refl _⟩ ?_
          refine aw_if_ne (tgt := 10) eX12_of_5 (by decide) (by exact bt_r) (fun h1 => ?_) (fun h1 => ?_)
          · refine aw_blk oX12_of_10 (pc' := 13) (ls' := [_, _, _]) (st' := [_, _, _]) (cs := []) rfl trivial ?_
            refine aw_ciS (rest := []) (c_X12_in (by omega) (by omega) (by omega)) kX12_in eX12_of_13 lX12_of_13 rfl rfl (Nat.le_of_ble_eq_true rfl) ⟨Nat.le_of_ble_eq_true rfl, Nat.le_of_ble_eq_true rfl⟩ ⟨Nat.le_refl _, Nat.le_refl _⟩ ?_
            refine aw_if_ne (tgt := 22) eX12_of_16 (by decide) bt_r (fun hh => have h2 := bt1 hh; ?_) (fun hh => have h2 := bt0 hh; ?_)
            · refine aw_blk oX12_of_22 (pc' := 24) (ls' := [_, _, _]) (st' := [_, _]) (cs := []) rfl trivial ?_
              refine aw_crV (rest := []) (c_cutM h (by omega) (hs.m SR.rf)) kX12_cut eX12_of_24 lX12_of_24 rfl rfl rfl rfl (Nat.le_of_ble_eq_true rfl) ⟨Nat.le_of_ble_eq_true rfl, Nat.le_of_ble_eq_true rfl⟩ ⟨Nat.le_refl _, Nat.le_refl _⟩ ?_
              intro r μ2 ν2 hP
              obtain ⟨rfl, rfl, q1, q2⟩ := hP
              obtain ⟨g1, -, -, g3, -⟩ := cut_both (ν := ν2) h hs c1 SR.rf (fun _ _ => rfl) hc q1
              have hF2 : RF μ2 := h.fr2 (by rw [q1 2 (by decide)]) (q1 3 (by decide)) (q1 5 (by decide)) (by rw [q1 55 (by decide)]) (q1 56 (by decide)) (q1 57 (by decide))
              have e1 : μ2 1 = μ1 1 := q1 1 (by decide)
              have e58 : μ2 58 = μ1 58 := q1 58 (by decide)
              refine aw_blk oX12_of_27 (pc' := 28) (ls' := [_, _, _]) (st' := [_]) (cs := []) rfl trivial ?_
              refine aw_if_ne (tgt := 40) eX12_of_28 (by decide) (by omega) (fun h3 => ?_) (fun h3 => ?_)
              · refine aw_blk oX12_of_40 (pc' := 42) (ls' := [_, _, _]) (st' := [_, _]) (cs := []) rfl trivial ?_
                refine aw_icmp_ne (tgt := 54) eX12_of_42 (by decide) (by omega) (by omega) (fun h4 => ?_) (fun h4 => ?_)
                · refine aw_blk oX12_of_54 (pc' := 56) (ls' := [_, _, _]) (st' := [_, _]) (cs := []) rfl trivial ?_
                  refine aw_icmp_ne (tgt := 67) eX12_of_56 (by decide) (by omega) (by omega) (fun h5 => ?_) (fun h5 => ?_)
                  · refine aw_blk oX12_of_67 (pc' := 69) (ls' := [_, _, _]) (st' := [_, _]) (cs := []) rfl trivial ?_
                    refine aw_icmp_ne (tgt := 88) eX12_of_69 (by decide) (by omega) (by omega) (fun h6 => ?_) (fun h6 => ?_)
                    · have ez : z = b01 (isSt μ2 f) := by
                        rw [hz, if_neg h5, if_neg h6]
                        unfold isSt
                        rw [g3]
                      refine aw_blk oX12_of_88 (pc' := 90) (ls' := [_, _, _]) (st' := [_, _]) (cs := []) rfl trivial ?_
                      refine aw_ciV (rest := []) (c_isStillM hF2.2.1 (by omega)) kX12_isStill eX12_of_90 lX12_of_90 rfl rfl rfl rfl (Nat.le_of_ble_eq_true rfl) ⟨Nat.le_of_ble_eq_true rfl, Nat.le_of_ble_eq_true rfl⟩ ⟨Nat.le_refl _, Nat.le_refl _⟩ ?_
                      cases hq : isSt μ2 f
                      · refine aw_if_eq (tgt := 100) eX12_of_93 (by decide) (by exact b01_r) (fun h7 => ?_) (fun h7 => ?_)
                        · refine aw_blk oX12_of_100 (pc' := 101) (ls' := [_, _, _]) (st' := [_]) (cs := []) rfl trivial ?_
                          refine aw_iret eX12_of_101 rfl (Nat.le_refl _) (Nat.le_refl _) ?_
                          exact ⟨rfl, by rw [ez, hq]; rfl, g1⟩
                        · exfalso; exact absurd rfl h7
                      · refine aw_if_eq (tgt := 100) eX12_of_93 (by decide) (by exact b01_r) (fun h7 => ?_) (fun h7 => ?_)
                        · exfalso; exact absurd h7 (by decide)
                        · refine aw_blk oX12_of_96 (pc' := 101) (ls' := [_, _, _]) (st' := [_]) (cs := []) rfl trivial ?_
                          refine aw_iret eX12_of_101 rfl (Nat.le_refl _) (Nat.le_refl _) ?_
                          exact ⟨rfl, by rw [ez, hq]; rfl, g1⟩
                    · have ez : z = b01 (isSc μ2 (μ2 1 1) f) := by
                        rw [hz, if_neg h5, if_pos (by omega), e1]
                        unfold isSc
                        rw [g3]
                      refine aw_blk oX12_of_72 (pc' := 74) (ls' := [_, _, _]) (st' := [_, _]) (cs := []) rfl trivial ?_
                      refine aw_ciV (rest := []) (c_isSceneM hF2.2.1 (by rw [e1, e58]; exact s1) (by omega)) kX12_isScene eX12_of_74 lX12_of_74 rfl rfl rfl rfl (Nat.le_of_ble_eq_true rfl) ⟨Nat.le_of_ble_eq_true rfl, Nat.le_of_ble_eq_true rfl⟩ ⟨Nat.le_refl _, Nat.le_refl _⟩ ?_
                      cases hq : isSc μ2 (μ2 1 1) f
                      · refine aw_if_eq (tgt := 84) eX12_of_77 (by decide) (by exact b01_r) (fun h7 => ?_) (fun h7 => ?_)
                        · refine aw_blk oX12_of_84 (pc' := 101) (ls' := [_, _, _]) (st' := [_]) (cs := []) rfl trivial ?_
                          refine aw_iret eX12_of_101 rfl (Nat.le_refl _) (Nat.le_refl _) ?_
                          exact ⟨rfl, by rw [ez, hq]; rfl, g1⟩
                        · exfalso; exact absurd rfl h7
                      · refine aw_if_eq (tgt := 84) eX12_of_77 (by decide) (by exact b01_r) (fun h7 => ?_) (fun h7 => ?_)
                        · exfalso; exact absurd h7 (by decide)
                        · refine aw_blk oX12_of_80 (pc' := 101) (ls' := [_, _, _]) (st' := [_]) (cs := []) rfl trivial ?_
                          refine aw_iret eX12_of_101 rfl (Nat.le_refl _) (Nat.le_refl _) ?_
                          exact ⟨rfl, by rw [ez, hq]; rfl, g1⟩
                  · refine aw_blk oX12_of_59 (pc' := 61) (ls' := [_, _, _]) (st' := [_, _]) (cs := []) rfl trivial ?_
                    refine aw_ciV (rest := []) (c_unlikeM hF2.2.1 (by omega)) kX12_unlike eX12_of_61 lX12_of_61 rfl rfl rfl rfl (Nat.le_of_ble_eq_true rfl) ⟨Nat.le_of_ble_eq_true rfl, Nat.le_of_ble_eq_true rfl⟩ ⟨Nat.le_refl _, Nat.le_refl _⟩ ?_
                    refine aw_blk oX12_of_64 (pc' := 101) (ls' := [_, _, _]) (st' := [_]) (cs := []) rfl trivial ?_
                    refine aw_iret eX12_of_101 rfl (Nat.le_refl _) (Nat.le_refl _) ?_
                    exact ⟨rfl, by rw [hz, if_pos (by omega), g3], g1⟩
                · exfalso; omega
              · exfalso; omega
            · exfalso; omega
          · exfalso; have := bt0 h1; omega
    · refine LawOK.st (-2) ?_ ?_ (by decide) (RlW.rf hc)
      · refine AMet.of kX11_of.1 (Nat.le_of_ble_eq_true rfl) rfl ?_
        refine aw_blk oX11_of_0 (pc' := 5) (ls' := [_, _, _]) (st' := [_, _]) (cs := []) rfl trivial ?_
        refine aw_ciV (rest := []) (c_X3_has (by omega) (by omega)) kX3_has eX11_of_5 lX11_of_5 rfl rfl rfl rfl (Nat.le_of_ble_eq_true rfl) ⟨Nat.le_of_ble_eq_true rfl, Nat.le_of_ble_eq_true rfl⟩ ⟨Nat.le_refl _, Nat.le_refl _⟩ ?_
        refine aw_if_ne (tgt := 13) eX11_of_8 (by decide) bt_r (fun hh => have h13 := bt1 hh; ?_) (fun hh => have h13 := bt0 hh; ?_)
        · first
          | (exfalso; omega; done)
          | (refine aw_blk oX11_of_13 (pc' := 14) (ls' := [_, _, _]) (st' := [_]) (cs := []) rfl trivial ?_
             refine aw_tswOut (tgt := 145) eX11_of_14 (by omega) (by omega) (by decide) ?_
             refine aw_blk oX11_of_145 (pc' := 147) (ls' := [_, _, _]) (st' := [_]) (cs := []) rfl trivial ?_
             refine aw_iret eX11_of_147 rfl (Nat.le_refl _) (Nat.le_refl _) ?_
             exact pe_i rfl rfl rfl)
        · first
          | (exfalso; omega; done)
          | (refine aw_blk oX11_of_11 (pc' := 12) (ls' := [_, _, _]) (st' := [_]) (cs := []) rfl trivial ?_
             refine aw_iret eX11_of_12 rfl (Nat.le_refl _) (Nat.le_refl _) ?_
             exact pe_i rfl rfl rfl)
      · refine AMet.of kX12_of.1 (Nat.le_of_ble_eq_true rfl) rfl ?_
        refine aw_blk oX12_of_0 (pc' := 2) (ls' := [_, _, _]) (st' := [_, _]) (cs := []) rfl trivial ?_
        refine aw_ciV (rest := []) (c_X12_isFrame (by omega) (by omega)) kX12_isFrame eX12_of_2 lX12_of_2 rfl rfl rfl rfl (Nat.le_of_ble_eq_true rfl) ⟨Nat.le_of_ble_eq_true rfl, Nat.le_of_ble_eq_true rfl⟩ ⟨Nat.le_refl _, Nat.le_refl _⟩ ?_
        refine aw_if_ne (tgt := 10) eX12_of_5 (by decide) bt_r (fun hh => have h14 := bt1 hh; ?_) (fun hh => have h14 := bt0 hh; ?_)
        · first
          | (exfalso; omega; done)
          | (refine aw_blk oX12_of_10 (pc' := 13) (ls' := [_, _, _]) (st' := [_, _, _]) (cs := []) rfl trivial ?_
             refine aw_ciS (rest := []) (c_X12_in (by omega) (by omega) (by omega)) kX12_in eX12_of_13 lX12_of_13 rfl rfl (Nat.le_of_ble_eq_true rfl) ⟨Nat.le_of_ble_eq_true rfl, Nat.le_of_ble_eq_true rfl⟩ ⟨Nat.le_refl _, Nat.le_refl _⟩ ?_
             refine aw_if_ne (tgt := 22) eX12_of_16 (by decide) bt_r (fun hh => have h15 := bt1 hh; ?_) (fun hh => have h15 := bt0 hh; ?_)
             · first
               | (exfalso; omega; done)
               | (skip)
             · first
               | (exfalso; omega; done)
               | (refine aw_blk oX12_of_19 (pc' := 21) (ls' := [_, _, _]) (st' := [_]) (cs := []) rfl trivial ?_
                  refine aw_iret eX12_of_21 rfl (Nat.le_refl _) (Nat.le_refl _) ?_
                  exact pe_i rfl rfl rfl))
        · first
          | (exfalso; omega; done)
          | (refine aw_blk oX12_of_8 (pc' := 9) (ls' := [_, _, _]) (st' := [_]) (cs := []) rfl trivial ?_
             refine aw_iret eX12_of_9 rfl (Nat.le_refl _) (Nat.le_refl _) ?_
             exact pe_i rfl rfl rfl)
  · refine LawOK.st (-1) ?_ ?_ (by decide) (RlW.rf hc)
    · refine AMet.of kX11_of.1 (Nat.le_of_ble_eq_true rfl) rfl ?_
      refine aw_blk oX11_of_0 (pc' := 5) (ls' := [_, _, _]) (st' := [_, _]) (cs := []) rfl trivial ?_
      refine aw_ciV (rest := []) (c_X3_has (by omega) (by omega)) kX3_has eX11_of_5 lX11_of_5 rfl rfl rfl rfl (Nat.le_of_ble_eq_true rfl) ⟨Nat.le_of_ble_eq_true rfl, Nat.le_of_ble_eq_true rfl⟩ ⟨Nat.le_refl _, Nat.le_refl _⟩ ?_
      refine aw_if_ne (tgt := 13) eX11_of_8 (by decide) bt_r (fun hh => have h16 := bt1 hh; ?_) (fun hh => have h16 := bt0 hh; ?_)
      · first
        | (exfalso; omega; done)
        | (refine aw_blk oX11_of_13 (pc' := 14) (ls' := [_, _, _]) (st' := [_]) (cs := []) rfl trivial ?_
           refine aw_tswOut (tgt := 145) eX11_of_14 (by omega) (by omega) (by decide) ?_
           refine aw_blk oX11_of_145 (pc' := 147) (ls' := [_, _, _]) (st' := [_]) (cs := []) rfl trivial ?_
           refine aw_iret eX11_of_147 rfl (Nat.le_refl _) (Nat.le_refl _) ?_
           exact pe_i rfl rfl rfl)
      · first
        | (exfalso; omega; done)
        | (refine aw_blk oX11_of_11 (pc' := 12) (ls' := [_, _, _]) (st' := [_]) (cs := []) rfl trivial ?_
           refine aw_iret eX11_of_12 rfl (Nat.le_refl _) (Nat.le_refl _) ?_
           exact pe_i rfl rfl rfl)
    · refine AMet.of kX12_of.1 (Nat.le_of_ble_eq_true rfl) rfl ?_
      refine aw_blk oX12_of_0 (pc' := 2) (ls' := [_, _, _]) (st' := [_, _]) (cs := []) rfl trivial ?_
      refine aw_ciV (rest := []) (c_X12_isFrame (by omega) (by omega)) kX12_isFrame eX12_of_2 lX12_of_2 rfl rfl rfl rfl (Nat.le_of_ble_eq_true rfl) ⟨Nat.le_of_ble_eq_true rfl, Nat.le_of_ble_eq_true rfl⟩ ⟨Nat.le_refl _, Nat.le_refl _⟩ ?_
      refine aw_if_ne (tgt := 10) eX12_of_5 (by decide) bt_r (fun hh => have h17 := bt1 hh; ?_) (fun hh => have h17 := bt0 hh; ?_)
      · first
        | (exfalso; omega; done)
        | (refine aw_blk oX12_of_10 (pc' := 13) (ls' := [_, _, _]) (st' := [_, _, _]) (cs := []) rfl trivial ?_
           refine aw_ciS (rest := []) (c_X12_in (by omega) (by omega) (by omega)) kX12_in eX12_of_13 lX12_of_13 rfl rfl (Nat.le_of_ble_eq_true rfl) ⟨Nat.le_of_ble_eq_true rfl, Nat.le_of_ble_eq_true rfl⟩ ⟨Nat.le_refl _, Nat.le_refl _⟩ ?_
           refine aw_if_ne (tgt := 22) eX12_of_16 (by decide) bt_r (fun hh => have h18 := bt1 hh; ?_) (fun hh => have h18 := bt0 hh; ?_)
           · first
             | (exfalso; omega; done)
             | (skip)
           · first
             | (exfalso; omega; done)
             | (refine aw_blk oX12_of_19 (pc' := 21) (ls' := [_, _, _]) (st' := [_]) (cs := []) rfl trivial ?_
                refine aw_iret eX12_of_21 rfl (Nat.le_refl _) (Nat.le_refl _) ?_
                exact pe_i rfl rfl rfl))
      · first
        | (exfalso; omega; done)
        | (refine aw_blk oX12_of_8 (pc' := 9) (ls' := [_, _, _]) (st' := [_]) (cs := []) rfl trivial ?_
           refine aw_iret eX12_of_9 rfl (Nat.le_refl _) (Nat.le_refl _) ?_
           exact pe_i rfl rfl rfl)

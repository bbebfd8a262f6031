/-! ===== the choices of a block ===== -/
/-- the choices of block b: of a key frame two, else four -/
def GC (μ : MM) (key b : Int) : Prop := (key = 1 → μ 11 (b * 4) = 9 ∧ μ 11 (b * 4 + 1) = 10) ∧ (key = 0 → ∃ m : Int, bmP (fun w => μ 10 (b * 11 + w)) m 9 ∧ ((m < 4 ∧ μ 11 (b * 4) = m ∧ μ 11 (b * 4 + 1) = 4) ∨ (4 < m ∧ μ 11 (b * 4) = 4 ∧ μ 11 (b * 4 + 1) = m)) ∧ μ 11 (b * 4 + 2) = 9 ∧ μ 11 (b * 4 + 3) = 10)
theorem c_gather {κ : KX} {μ : MM} {ν : ML} {b key : Int} (hb : 0 ≤ b ∧ b < 4) (hk : key = 0 ∨ key = 1) (hg : key = 0 → ∀ w : Int, 0 ≤ w → w < 11 → 0 ≤ μ 10 (b * 11 + w) ∧ μ 10 (b * 11 + w) ≤ 900) : AQ κ 1 mX1_gather [aR 9, aI b, aI key] μ ν (fun r μ' ν' => r = none ∧ ν' = ν ∧ SR [11] μ μ' ∧ (∀ x : Int, (x < b * 4 ∨ b * 4 + 4 ≤ x) → μ' 11 x = μ 11 x) ∧ GC μ' key b) := by
  rcases hk with rfl | rfl
  · have C := c_bestMoved (κ := κ) (μ := μ) (ν := ν) hb (hg rfl)
    refine AMet.of kX1_gather.1 (Nat.le_of_ble_eq_true rfl) rfl ?_
    refine aw_blk oX1_gather_0 (pc' := 5) (ls' := [_, _, _, _, _]) (st' := [_]) (cs := []) rfl trivial ?_
    refine aw_if_ne (tgt := 44) eX1_gather_5 (by decide) (by omega) (fun h1 => ?_) (fun h1 => ?_)
    · exfalso; omega
    · refine aw_blk oX1_gather_8 (pc' := 10) (ls' := [_, _, _, _, _]) (st' := [_, _]) (cs := []) rfl trivial ?_
      refine aw_crV (rest := []) C kX1_bestMoved eX1_gather_10 lX1_gather_10 rfl rfl rfl rfl (Nat.le_of_ble_eq_true rfl) ⟨Nat.le_of_ble_eq_true rfl, Nat.le_of_ble_eq_true rfl⟩ ⟨Nat.le_refl _, Nat.le_refl _⟩ ?_
      intro r μ1 ν1 hP
      obtain ⟨m, rfl, rfl, rfl, hm⟩ := hP
      obtain ⟨m0, m1, m4, -⟩ := id hm
      refine aw_blk oX1_gather_13 (pc' := 23) (ls' := [_, _, _, _, _]) (st' := [_, _, _, _]) (cs := []) rfl trivial ?_
      refine aw_mmin eX1_gather_23 lX1_gather_23 (by omega) (by omega) (Nat.le_of_ble_eq_true rfl) ⟨Nat.le_of_ble_eq_true rfl, Nat.le_of_ble_eq_true rfl⟩ ⟨Nat.le_refl _, Nat.le_refl _⟩ ?_
      refine aw_blk oX1_gather_26 (pc' := 37) (ls' := [_, _, _, _, _]) (st' := [_, _, _, _]) (cs := [(_, _)]) rfl (⟨⟨by omega, by omega⟩, trivial⟩) ?_
      refine aw_mmax eX1_gather_37 lX1_gather_37 (by omega) (by omega) (Nat.le_of_ble_eq_true rfl) ⟨Nat.le_of_ble_eq_true rfl, Nat.le_of_ble_eq_true rfl⟩ ⟨Nat.le_refl _, Nat.le_refl _⟩ ?_
      refine aw_blk oX1_gather_40 (pc' := 44) (ls' := [_, _, _, _, _]) (st' := []) (cs := [(_, _)]) rfl (⟨⟨by omega, by omega⟩, trivial⟩) ?_
      refine aw_blk oX1_gather_44 (pc' := 62) (ls' := [_, _, _, _, _]) (st' := []) (cs := [(_, _), (_, _)]) rfl (⟨⟨by omega, by omega⟩, ⟨by omega, by omega⟩, trivial⟩) ?_
      refine aw_vret eX1_gather_62 rfl (Nat.le_refl _) (Nat.le_refl _) ?_
      refine ⟨rfl, rfl, rfl, (((SR.rf.put (by decide)).put (by decide)).put (by decide)).put (by decide), fun x hx => ?_, fun q => absurd q (by decide), fun _ => ⟨m, ?_, ?_, ?_, ?_⟩⟩
      · rw [up_ne (Or.inr (by omega)), up_ne (Or.inr (by omega)), up_ne (Or.inr (by omega)), up_ne (Or.inr (by omega))]
      · exact hm
      · by_cases q : m < 4
        · left
          refine ⟨q, ?_, ?_⟩
          · rw [up_ne (Or.inr (by omega)), up_ne (Or.inr (by omega)), up_ne (Or.inr (by omega)), up_at, if_neg (by omega)]
          · rw [up_ne (Or.inr (by omega)), up_ne (Or.inr (by omega)), up_at, if_pos (by omega)]
        · right
          refine ⟨by omega, ?_, ?_⟩
          · rw [up_ne (Or.inr (by omega)), up_ne (Or.inr (by omega)), up_ne (Or.inr (by omega)), up_at, if_pos (by omega)]
          · rw [up_ne (Or.inr (by omega)), up_ne (Or.inr (by omega)), up_at, if_neg (by omega)]
      · rw [up_ne (Or.inr (by omega)), up_at]
      · rw [show b * 4 + 3 = b * 4 + 2 + 1 by omega, up_at]
  · refine AMet.of kX1_gather.1 (Nat.le_of_ble_eq_true rfl) rfl ?_
    refine aw_blk oX1_gather_0 (pc' := 5) (ls' := [_, _, _, _, _]) (st' := [_]) (cs := []) rfl trivial ?_
    refine aw_if_ne (tgt := 44) eX1_gather_5 (by decide) (by omega) (fun h1 => ?_) (fun h1 => ?_)
    · refine aw_blk oX1_gather_44 (pc' := 62) (ls' := [_, _, _, _, _]) (st' := []) (cs := [(_, _), (_, _)]) rfl (⟨⟨by omega, by omega⟩, ⟨by omega, by omega⟩, trivial⟩) ?_
      refine aw_vret eX1_gather_62 rfl (Nat.le_refl _) (Nat.le_refl _) ?_
      refine ⟨rfl, rfl, rfl, (SR.rf.put (by decide)).put (by decide), fun x hx => ?_, fun _ => ⟨?_, ?_⟩, fun q => absurd q (by decide)⟩
      · rw [up_ne (Or.inr (by omega)), up_ne (Or.inr (by omega))]
      · rw [up_ne (Or.inr (by omega)), up_at]
      · rw [up_at]
    · exfalso; omega

/-! ===== the best moved way ===== -/
def bmP (g : Int → Int) (m N : Int) : Prop := 0 ≤ m ∧ m < N ∧ m ≠ 4 ∧ ∀ w : Int, 0 ≤ w → w < N → w ≠ 4 → g m < g w ∨ (g m = g w ∧ m ≤ w)
theorem l_bm {κ : KX} {μ : MM} {ν : ML} {b : Int} (hb : 0 ≤ b ∧ b < 4) (hg : ∀ w : Int, 0 ≤ w → w < 11 → 0 ≤ μ 10 (b * 11 + w) ∧ μ 10 (b * 11 + w) ≤ 900) (n : Nat) : ∀ (w best : Int), 1 ≤ w → w + n = 9 → bmP (fun w => μ 10 (b * 11 + w)) best w → AX κ mX1_bestMoved 0 (QS (fun r μ' ν' => ∃ m : Int, r = some (aI m) ∧ ν' = ν ∧ μ' = μ ∧ bmP (fun w => μ 10 (b * 11 + w)) m 9)) 4 [aR 9, aI b, aI best, aI w] [] μ ν := by
  induction n with
  | zero =>
    intro w best h0 hn hP
    rw [show w = 9 by omega] at hP
    refine aw_blk oX1_bestMoved_4 (pc' := 7) (ls' := [_, _, _, _]) (st' := [_, _]) (cs := []) rfl trivial ?_
    refine aw_icmp_ge (tgt := 48) eX1_bestMoved_7 (by decide) (by omega) (by omega) (fun h1 => ?_) (fun h1 => ?_)
    · refine aw_blk oX1_bestMoved_48 (pc' := 49) (ls' := [_, _, _, _]) (st' := [_]) (cs := []) rfl trivial ?_
      refine aw_iret eX1_bestMoved_49 rfl (Nat.le_refl _) (Nat.le_refl _) ?_
      exact ⟨rfl, best, rfl, rfl, rfl, hP⟩
    · exfalso; omega
  | succ n ih =>
    intro w best h0 hn hP
    obtain ⟨p1, p2, p3, p4⟩ := hP
    have g1 := hg w (by omega) (by omega)
    have g2 := hg best p1 (by omega)
    have K : ∀ best' : Int, bmP (fun w => μ 10 (b * 11 + w)) best' (w + 1) → AX κ mX1_bestMoved 0 (QS (fun r μ' ν' => ∃ m : Int, r = some (aI m) ∧ ν' = ν ∧ μ' = μ ∧ bmP (fun w => μ 10 (b * 11 + w)) m 9)) 42 [aR 9, aI b, aI best', aI w] [] μ ν := fun best' hP' => by
      refine aw_blk oX1_bestMoved_42 (pc' := 4) (ls' := [_, _, _, _]) (st' := []) (cs := []) rfl trivial ?_
      exact ih (w + 1) best' (by omega) (by omega) hP'
    refine aw_blk oX1_bestMoved_4 (pc' := 7) (ls' := [_, _, _, _]) (st' := [_, _]) (cs := []) rfl trivial ?_
    refine aw_icmp_ge (tgt := 48) eX1_bestMoved_7 (by decide) (by omega) (by omega) (fun h1 => ?_) (fun h1 => ?_)
    · exfalso; omega
    · refine aw_blk oX1_bestMoved_10 (pc' := 12) (ls' := [_, _, _, _]) (st' := [_, _]) (cs := []) rfl trivial ?_
      refine aw_icmp_eq (tgt := 42) eX1_bestMoved_12 (by decide) (by omega) (by omega) (fun h2 => ?_) (fun h2 => ?_)
      · refine K best ⟨p1, by omega, p3, fun w' q0 q1 q2 => p4 w' q0 (by omega) q2⟩
      · refine aw_blk oX1_bestMoved_15 (pc' := 37) (ls' := [_, _, _, _]) (st' := [_, _]) (cs := [(_, _), (_, _)]) rfl (⟨⟨by omega, by omega⟩, ⟨by omega, by omega⟩, trivial⟩) ?_
        refine aw_icmp_ge (tgt := 42) eX1_bestMoved_37 (by decide) (by omega) (by omega) (fun h3 => ?_) (fun h3 => ?_)
        · refine K best ⟨p1, by omega, p3, fun w' q0 q1 q2 => ?_⟩
          by_cases e : w' = w
          · subst e
            show μ 10 (b * 11 + best) < μ 10 (b * 11 + w') ∨ (μ 10 (b * 11 + best) = μ 10 (b * 11 + w') ∧ best ≤ w')
            omega
          · exact p4 w' q0 (by omega) q2
        · refine aw_blk oX1_bestMoved_40 (pc' := 42) (ls' := [_, _, _, _]) (st' := []) (cs := []) rfl trivial ?_
          refine K w ⟨by omega, by omega, h2, fun w' q0 q1 q2 => ?_⟩
          by_cases e : w' = w
          · subst e
            exact Or.inr ⟨rfl, Int.le_refl _⟩
          · have h := p4 w' q0 (by omega) q2
            have h : μ 10 (b * 11 + best) < μ 10 (b * 11 + w') ∨ (μ 10 (b * 11 + best) = μ 10 (b * 11 + w') ∧ best ≤ w') := h
            show μ 10 (b * 11 + w) < μ 10 (b * 11 + w') ∨ (μ 10 (b * 11 + w) = μ 10 (b * 11 + w') ∧ w ≤ w')
            omega
theorem c_bestMoved {κ : KX} {μ : MM} {ν : ML} {b : Int} (hb : 0 ≤ b ∧ b < 4) (hg : ∀ w : Int, 0 ≤ w → w < 11 → 0 ≤ μ 10 (b * 11 + w) ∧ μ 10 (b * 11 + w) ≤ 900) : AQ κ 0 mX1_bestMoved [aR 9, aI b] μ ν (fun r μ' ν' => ∃ m : Int, r = some (aI m) ∧ ν' = ν ∧ μ' = μ ∧ bmP (fun w => μ 10 (b * 11 + w)) m 9) := by
  refine AMet.of kX1_bestMoved.1 (Nat.le_of_ble_eq_true rfl) rfl ?_
  refine aw_blk oX1_bestMoved_0 (pc' := 4) (ls' := [_, _, _, _]) (st' := []) (cs := []) rfl trivial ?_
  refine l_bm hb hg 8 1 0 (by omega) (by omega) ⟨by omega, by omega, by decide, fun w' q0 q1 q2 => ?_⟩
  rw [show w' = 0 by omega]
  exact Or.inr ⟨rfl, Int.le_refl _⟩

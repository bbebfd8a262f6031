/-! ===== the class's cut of one frame ===== -/
/-- what the class's cut of frame f changes -/
def CX (μ μ' : MM) (f : Int) : Prop := SR [4, 6, 7, 8, 9, 10, 11, 12, 13] μ μ' ∧ (∀ x : Int, (x < 4 * f ∨ 4 * f + 4 ≤ x) → μ' 6 x = μ 6 x) ∧ (∀ x : Int, (x < 16 * f ∨ 16 * f + 16 ≤ x) → μ' 4 x = μ 4 x) ∧ (∀ x : Int, x ≠ f → μ' 7 x = μ 7 x ∧ μ' 8 x = μ 8 x)
theorem LC.of {μ1 μ μ0 : MM} {l l' : Int → Int → Int} {key most : Int} (hk : key = 0 ∨ key = 1) (hK : KL μ1 μ l key 4 0) (hl : ∀ b w : Int, lst key ≤ w → w < 11 → l b w = l' b w) (hb : ∀ x y : Int, 0 ≤ l' x y ∧ l' x y ≤ 900) (e10 : μ0 10 = μ 10) (e11 : μ0 11 = μ 11) (e94 : μ0 9 4 = if key = 1 then 2 else 4) (e95 : μ0 9 5 = lmt key most) (hm : 0 ≤ most ∧ most ≤ 80) : LC μ0 l' ∧ (∀ b x : Int, rcM μ0 b x → lst key ≤ x ∧ x < 11) ∧ ∃ rep : Int → Int → Int, ∀ b x : Int, 0 ≤ b → b < 4 → lst key ≤ x → x < 11 → rcM μ0 b (rep b x) ∧ cbt (rep b x) = cbt x ∧ (l' b (rep b x) < l' b x ∨ (l' b (rep b x) = l' b x ∧ rep b x ≤ x)) := by
  have hlm : 0 ≤ lmt key most ∧ lmt key most ≤ 80 := by
    unfold lmt
    (repeat' split) <;> omega
  have ls : ∀ b w : Int, 0 ≤ b → b < 4 → lst key ≤ w → w < 11 → μ 10 (b * 11 + w) = l' b w := fun b w q0 q1 q2 q3 => by
    rw [hK.2.1 b w q0 q1 q2 q3 (by omega)]
    exact hl b w q2 q3
  rcases hk with rfl | rfl
  · have e0 : lst 0 = 0 := rfl
    rw [if_neg (by decide)] at e94
    have G := fun b q0 q1 => (hK.2.2 b q0 q1).2 rfl
    have cw : ∀ b i : Int, chW μ0 b i = μ 11 (b * 4 + i) := fun b i => by unfold chW; rw [e11]
    have c0 : ∀ b : Int, chW μ0 b 0 = μ 11 (b * 4) := fun b => by rw [cw, show b * 4 + 0 = b * 4 by omega]
    refine ⟨⟨by omega, by omega, fun b i q0 q1 i0 i1 => ?_, fun b i q0 q1 i0 i1 => ?_, hb⟩, fun b x hx => ?_, ?_⟩
    · obtain ⟨m, ⟨p1, p2, p3, p4⟩, g1, g2, g3⟩ := G b q0 q1
      have hr : 0 ≤ chW μ0 b i ∧ chW μ0 b i < 11 := by
        rcases (show i = 0 ∨ i = 1 ∨ i = 2 ∨ i = 3 by omega) with rfl | rfl | rfl | rfl
        · rw [c0]; omega
        · rw [cw]; omega
        · rw [cw]; omega
        · rw [cw]; omega
      exact ⟨hr.1, hr.2, by rw [e10]; exact ls b _ q0 q1 (by omega) hr.2⟩
    · obtain ⟨m, ⟨p1, p2, p3, p4⟩, g1, g2, g3⟩ := G b q0 q1
      rcases (show i = 0 ∨ i = 1 ∨ i = 2 by omega) with rfl | rfl | rfl
      · rw [c0, cw, show (0 : Int) + 1 = 1 by omega]; omega
      · rw [cw, cw, show (1 : Int) + 1 = 2 by omega]; omega
      · rw [cw, cw, show (2 : Int) + 1 = 3 by omega]; omega
    · obtain ⟨q0, q1, i, i0, i1, rfl⟩ := hx
      obtain ⟨m, ⟨p1, p2, p3, p4⟩, g1, g2, g3⟩ := G b q0 q1
      rcases (show i = 0 ∨ i = 1 ∨ i = 2 ∨ i = 3 by omega) with rfl | rfl | rfl | rfl
      · rw [c0]; omega
      · rw [cw]; omega
      · rw [cw]; omega
      · rw [cw]; omega
    · have G' : ∀ b : Int, ∃ m : Int, 0 ≤ b → b < 4 → bmP (fun w => μ 10 (b * 11 + w)) m 9 ∧ ((m < 4 ∧ μ 11 (b * 4) = m ∧ μ 11 (b * 4 + 1) = 4) ∨ (4 < m ∧ μ 11 (b * 4) = 4 ∧ μ 11 (b * 4 + 1) = m)) ∧ μ 11 (b * 4 + 2) = 9 ∧ μ 11 (b * 4 + 3) = 10 := fun b => by
        by_cases q : 0 ≤ b ∧ b < 4
        · obtain ⟨m, hm⟩ := G b q.1 q.2
          exact ⟨m, fun _ _ => hm⟩
        · exact ⟨0, fun q0 q1 => absurd ⟨q0, q1⟩ q⟩
      obtain ⟨mv, hmv⟩ := Classical.axiomOfChoice G'
      refine ⟨fun b x => if x < 9 ∧ x ≠ 4 then mv b else x, fun b x q0 q1 q2 q3 => ?_⟩
      obtain ⟨⟨p1, p2, p3, p4⟩, g1, g2, g3⟩ := hmv b q0 q1
      have hin : ∀ i : Int, 0 ≤ i → i < 4 → rcM μ0 b (μ 11 (b * 4 + i)) := fun i i0 i1 => ⟨q0, q1, i, i0, by omega, (cw b i).symm⟩
      have h0 := hin 0 (by omega) (by omega)
      rw [show b * 4 + 0 = b * 4 by omega] at h0
      have h1 := hin 1 (by omega) (by omega)
      have h2 := hin 2 (by omega) (by omega)
      have h3 := hin 3 (by omega) (by omega)
      rw [g2] at h2
      rw [g3] at h3
      by_cases k : x < 9 ∧ x ≠ 4
      · show rcM μ0 b (if x < 9 ∧ x ≠ 4 then mv b else x) ∧ cbt (if x < 9 ∧ x ≠ 4 then mv b else x) = cbt x ∧ _
        simp only [if_pos k]
        refine ⟨?_, ?_, ?_⟩
        · rcases g1 with ⟨_, g, _⟩ | ⟨_, _, g⟩
          · rw [g] at h0; exact h0
          · rw [g] at h1; exact h1
        · unfold cbt
          rw [if_neg p3, if_pos (by omega), if_neg k.2, if_pos k.1]
        · have := p4 x (by omega) k.1 k.2
          have : μ 10 (b * 11 + mv b) < μ 10 (b * 11 + x) ∨ (μ 10 (b * 11 + mv b) = μ 10 (b * 11 + x) ∧ mv b ≤ x) := this
          rw [ls b (mv b) q0 q1 (by omega) (by omega), ls b x q0 q1 q2 q3] at this
          exact this
      · show rcM μ0 b (if x < 9 ∧ x ≠ 4 then mv b else x) ∧ cbt (if x < 9 ∧ x ≠ 4 then mv b else x) = cbt x ∧ (l' b (if x < 9 ∧ x ≠ 4 then mv b else x) < l' b x ∨ (l' b (if x < 9 ∧ x ≠ 4 then mv b else x) = l' b x ∧ (if x < 9 ∧ x ≠ 4 then mv b else x) ≤ x))
        rw [if_neg k]
        refine ⟨?_, rfl, Or.inr ⟨rfl, Int.le_refl _⟩⟩
        rcases (show x = 4 ∨ x = 9 ∨ x = 10 by omega) with rfl | rfl | rfl
        · rcases g1 with ⟨_, _, g⟩ | ⟨_, g, _⟩
          · rw [g] at h1; exact h1
          · rw [g] at h0; exact h0
        · exact h2
        · exact h3
  · have e0 : lst 1 = 9 := rfl
    rw [if_pos rfl] at e94
    have G := fun b q0 q1 => (hK.2.2 b q0 q1).1 rfl
    have cw : ∀ b i : Int, chW μ0 b i = μ 11 (b * 4 + i) := fun b i => by unfold chW; rw [e11]
    have c0 : ∀ b : Int, chW μ0 b 0 = μ 11 (b * 4) := fun b => by rw [cw, show b * 4 + 0 = b * 4 by omega]
    refine ⟨⟨by omega, by omega, fun b i q0 q1 i0 i1 => ?_, fun b i q0 q1 i0 i1 => ?_, hb⟩, fun b x hx => ?_, ⟨fun _ x => x, fun b x q0 q1 q2 q3 => ⟨?_, rfl, Or.inr ⟨rfl, Int.le_refl _⟩⟩⟩⟩
    · have g := G b q0 q1
      have hr : 9 ≤ chW μ0 b i ∧ chW μ0 b i < 11 := by
        rcases (show i = 0 ∨ i = 1 by omega) with rfl | rfl
        · rw [c0]; omega
        · rw [cw]; omega
      exact ⟨by omega, hr.2, by rw [e10]; exact ls b _ q0 q1 (by omega) hr.2⟩
    · have g := G b q0 q1
      rcases (show i = 0 by omega) with rfl
      rw [c0, cw, show (0 : Int) + 1 = 1 by omega]; omega
    · obtain ⟨q0, q1, i, i0, i1, rfl⟩ := hx
      have g := G b q0 q1
      rcases (show i = 0 ∨ i = 1 by omega) with rfl | rfl
      · rw [c0]; omega
      · rw [cw]; omega
    · have g := G b q0 q1
      show rcM μ0 b x
      rcases (show x = 9 ∨ x = 10 by omega) with rfl | rfl
      · exact ⟨q0, q1, 0, by omega, by omega, by rw [c0]; exact g.1.symm⟩
      · exact ⟨q0, q1, 1, by omega, by omega, by rw [cw]; exact g.2.symm⟩

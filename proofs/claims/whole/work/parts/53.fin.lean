/-! ===== the best of the choices is the best of all ways ===== -/
theorem DQ.fin {l : Int → Int → Int} {rc : Int → Int → Prop} {key most B L : Int} {w : Int → Int} (rep : Int → Int → Int) (hrep : ∀ b x : Int, 0 ≤ b → b < 4 → lst key ≤ x → x < 11 → rc b (rep b x) ∧ cbt (rep b x) = cbt x ∧ (l b (rep b x) < l b x ∨ (l b (rep b x) = l b x ∧ rep b x ≤ x))) (hok : ∀ b x : Int, rc b x → lst key ≤ x ∧ x < 11) (hlk : 0 ≤ lst key) (h4 : ∃ x : Int, lst key ≤ x ∧ x < 11 ∧ 4 * cbt x ≤ lmt key most) (h : DQ l rc (lmt key most) 14641 B L w) : isB l key most (w 0) (w 1) (w 2) (w 3) ∧ B = qB (w 0) (w 1) (w 2) (w 3) ∧ L = qL l (w 0) (w 1) (w 2) (w 3) := by
  have lt : ∀ a b c d : Int, rcQ rc a b c d → qN a b c d < 14641 := fun a b c d q => by
    have := hok 0 a q.1
    have := hok 1 b q.2.1
    have := hok 2 c q.2.2.1
    have := hok 3 d q.2.2.2
    unfold qN
    omega
  rcases h with ⟨-, -, h⟩ | ⟨h1, h2, h3, hb, h5, h6⟩
  · exfalso
    obtain ⟨x, x0, x1, x2⟩ := h4
    have r0 := hrep 0 x (by decide) (by decide) x0 x1
    have r1 := hrep 1 x (by decide) (by decide) x0 x1
    have r2 := hrep 2 x (by decide) (by decide) x0 x1
    have r3 := hrep 3 x (by decide) (by decide) x0 x1
    have q : rcQ rc (rep 0 x) (rep 1 x) (rep 2 x) (rep 3 x) := ⟨r0.1, r1.1, r2.1, r3.1⟩
    have := h _ _ _ _ q (lt _ _ _ _ q)
    unfold qB at this
    omega
  · refine ⟨⟨⟨hok 0 _ h1.1, hok 1 _ h1.2.1, hok 2 _ h1.2.2.1, hok 3 _ h1.2.2.2⟩, by omega, fun a b c d hq hbits => ?_⟩, h2, h3⟩
    have r0 := hrep 0 a (by decide) (by decide) hq.1.1 hq.1.2
    have r1 := hrep 1 b (by decide) (by decide) hq.2.1.1 hq.2.1.2
    have r2 := hrep 2 c (by decide) (by decide) hq.2.2.1.1 hq.2.2.1.2
    have r3 := hrep 3 d (by decide) (by decide) hq.2.2.2.1 hq.2.2.2.2
    have q : rcQ rc (rep 0 a) (rep 1 b) (rep 2 c) (rep 3 d) := ⟨r0.1, r1.1, r2.1, r3.1⟩
    have eB : qB (rep 0 a) (rep 1 b) (rep 2 c) (rep 3 d) = qB a b c d := by unfold qB; omega
    have eL : qL l (rep 0 a) (rep 1 b) (rep 2 c) (rep 3 d) < qL l a b c d ∨ (qL l (rep 0 a) (rep 1 b) (rep 2 c) (rep 3 d) = qL l a b c d ∧ qN (rep 0 a) (rep 1 b) (rep 2 c) (rep 3 d) ≤ qN a b c d) := by
      unfold qL qN
      omega
    have := h6 _ _ _ _ q (lt _ _ _ _ q) (by omega)
    omega

/-! ===== the class's search: gaps between choices ===== -/
def dg (k : Nat) (a b c d : Int) : Int := if k = 0 then a else if k = 1 then b else if k = 2 then c else d
theorem dig {t : Int → Int} {k : Nat} (hk : k < 4) (ht : ∀ j : Int, 0 ≤ j → j < k → 0 ≤ t j ∧ t j < 11) {a b c d u v : Int} (hq : (0 ≤ a ∧ a < 11) ∧ (0 ≤ b ∧ b < 11) ∧ (0 ≤ c ∧ c < 11) ∧ (0 ≤ d ∧ d < 11)) (hu : 0 ≤ u) (hv : v ≤ 11) (h1 : vN t k + u * pP (k + 1) ≤ qN a b c d) (h2 : qN a b c d < vN t k + v * pP (k + 1)) : u ≤ dg k a b c d ∧ dg k a b c d < v := by
  rcases (show k = 0 ∨ k = 1 ∨ k = 2 ∨ k = 3 by omega) with rfl | rfl | rfl | rfl
  · have e : pP (0 + 1) = 1331 := rfl
    rw [vN_0, e] at h1 h2
    unfold qN at h1 h2
    show u ≤ a ∧ a < v
    omega
  · have t0 := ht 0 (by omega) (by omega)
    have e : pP (1 + 1) = 121 := rfl
    rw [vN_1, e] at h1 h2
    unfold qN at h1 h2
    have e0 : a = t 0 := by omega
    show u ≤ b ∧ b < v
    omega
  · have t0 := ht 0 (by omega) (by omega)
    have t1 := ht 1 (by omega) (by omega)
    have e : pP (2 + 1) = 11 := rfl
    rw [vN_2, e] at h1 h2
    unfold qN at h1 h2
    have e0 : a = t 0 := by omega
    have e1 : b = t 1 := by omega
    show u ≤ c ∧ c < v
    omega
  · have t0 := ht 0 (by omega) (by omega)
    have t1 := ht 1 (by omega) (by omega)
    have t2 := ht 2 (by omega) (by omega)
    have e : pP (3 + 1) = 1 := rfl
    rw [vN_3, e] at h1 h2
    unfold qN at h1 h2
    have e0 : a = t 0 := by omega
    have e1 : b = t 1 := by omega
    have e2 : c = t 2 := by omega
    show u ≤ d ∧ d < v
    omega
theorem LC.gap {μ0 : MM} {l : Int → Int → Int} (h : LC μ0 l) {b x i : Int} (hx : rcM μ0 b x) (h0 : 0 ≤ i) (h1 : i < μ0 9 4) : chW μ0 b 0 ≤ x ∧ (chW μ0 b i < x → i + 1 < μ0 9 4 ∧ chW μ0 b (i + 1) ≤ x) := by
  obtain ⟨hn, -, -, hm, -⟩ := h
  obtain ⟨b0, b1, y, y0, y1, rfl⟩ := hx
  have m0 := hm b 0 b0 b1 (by omega)
  have m1 := hm b 1 b0 b1 (by omega)
  have m2 := hm b 2 b0 b1 (by omega)
  rw [show (0 : Int) + 1 = 1 by omega] at m0
  rw [show (1 : Int) + 1 = 2 by omega] at m1
  rw [show (2 : Int) + 1 = 3 by omega] at m2
  rcases (show y = 0 ∨ y = 1 ∨ y = 2 ∨ y = 3 by omega) with rfl | rfl | rfl | rfl <;> rcases (show i = 0 ∨ i = 1 ∨ i = 2 ∨ i = 3 by omega) with rfl | rfl | rfl | rfl <;> refine ⟨by omega, fun q => ?_⟩ <;> first | (exfalso; omega) | (refine ⟨by omega, ?_⟩; first | exact Int.le_refl _ | (show chW μ0 b 2 ≤ _; omega) | (show chW μ0 b 1 ≤ _; omega))

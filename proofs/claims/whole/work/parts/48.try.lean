/-! ===== the class's search: what a prefix says ===== -/
def pw (j : Int) : Int := if j = 0 then 1331 else if j = 1 then 121 else if j = 2 then 11 else 1
def vN (t : Int → Int) (k : Nat) : Int := sm (fun j => t j * pw j) k
def sB (t : Int → Int) (k : Nat) : Int := sm (fun j => cbt (t j)) k
def sL (l : Int → Int → Int) (t : Int → Int) (k : Nat) : Int := sm (fun j => l j (t j)) k
def pP (k : Nat) : Int := if k = 0 then 14641 else if k = 1 then 1331 else if k = 2 then 121 else if k = 3 then 11 else 1
theorem vN_0 {t : Int → Int} : vN t 0 = 0 := rfl
theorem vN_1 {t : Int → Int} : vN t 1 = 1331 * t 0 := by
  show 0 + t 0 * 1331 = _
  omega
theorem vN_2 {t : Int → Int} : vN t 2 = 1331 * t 0 + 121 * t 1 := by
  show 0 + t 0 * 1331 + t 1 * 121 = _
  omega
theorem vN_3 {t : Int → Int} : vN t 3 = 1331 * t 0 + 121 * t 1 + 11 * t 2 := by
  show 0 + t 0 * 1331 + t 1 * 121 + t 2 * 11 = _
  omega
theorem vN_4 {t : Int → Int} : vN t 4 = qN (t 0) (t 1) (t 2) (t 3) := by
  show 0 + t 0 * 1331 + t 1 * 121 + t 2 * 11 + t 3 * 1 = _
  unfold qN
  omega
theorem sB_4 {t : Int → Int} : sB t 4 = qB (t 0) (t 1) (t 2) (t 3) := by
  show 0 + cbt (t 0) + cbt (t 1) + cbt (t 2) + cbt (t 3) = _
  unfold qB
  omega
theorem sL_4 {l : Int → Int → Int} {t : Int → Int} : sL l t 4 = qL l (t 0) (t 1) (t 2) (t 3) := by
  show 0 + l 0 (t 0) + l 1 (t 1) + l 2 (t 2) + l 3 (t 3) = _
  unfold qL
  omega
theorem cbt_bd (w : Int) : 1 ≤ cbt w ∧ cbt w ≤ 20 := by
  unfold cbt
  (repeat' split) <;> omega
/-- who lies in the stretch of a prefix has it -/
theorem pre {l : Int → Int → Int} {t : Int → Int} {k : Nat} (hk : k ≤ 4) (hl : ∀ x y : Int, 0 ≤ l x y ∧ l x y ≤ 900) (ht : ∀ j : Int, 0 ≤ j → j < k → 0 ≤ t j ∧ t j < 11) {a b c d : Int} (hq : (0 ≤ a ∧ a < 11) ∧ (0 ≤ b ∧ b < 11) ∧ (0 ≤ c ∧ c < 11) ∧ (0 ≤ d ∧ d < 11)) (h1 : vN t k ≤ qN a b c d) (h2 : qN a b c d < vN t k + pP k) : sB t k ≤ qB a b c d ∧ sL l t k ≤ qL l a b c d := by
  have ca := cbt_bd a
  have cb := cbt_bd b
  have cc := cbt_bd c
  have cd := cbt_bd d
  have la := hl 0 a
  have lb := hl 1 b
  have lc := hl 2 c
  have ld := hl 3 d
  rcases (show k = 0 ∨ k = 1 ∨ k = 2 ∨ k = 3 ∨ k = 4 by omega) with rfl | rfl | rfl | rfl | rfl
  · refine ⟨?_, ?_⟩
    · show 0 ≤ qB a b c d
      unfold qB; omega
    · show 0 ≤ qL l a b c d
      unfold qL; omega
  · have t0 := ht 0 (by omega) (by omega)
    rw [vN_1] at h1 h2
    have e : pP 1 = 1331 := rfl
    rw [e] at h2
    unfold qN at h1 h2
    have e0 : a = t 0 := by omega
    subst e0
    refine ⟨?_, ?_⟩
    · show 0 + cbt (t 0) ≤ qB (t 0) b c d
      unfold qB; omega
    · show 0 + l 0 (t 0) ≤ qL l (t 0) b c d
      unfold qL; omega
  · have t0 := ht 0 (by omega) (by omega)
    have t1 := ht 1 (by omega) (by omega)
    rw [vN_2] at h1 h2
    have e : pP 2 = 121 := rfl
    rw [e] at h2
    unfold qN at h1 h2
    have e0 : a = t 0 := by omega
    subst e0
    have e1 : b = t 1 := by omega
    subst e1
    refine ⟨?_, ?_⟩
    · show 0 + cbt (t 0) + cbt (t 1) ≤ qB (t 0) (t 1) c d
      unfold qB; omega
    · show 0 + l 0 (t 0) + l 1 (t 1) ≤ qL l (t 0) (t 1) c d
      unfold qL; omega
  · have t0 := ht 0 (by omega) (by omega)
    have t1 := ht 1 (by omega) (by omega)
    have t2 := ht 2 (by omega) (by omega)
    rw [vN_3] at h1 h2
    have e : pP 3 = 11 := rfl
    rw [e] at h2
    unfold qN at h1 h2
    have e0 : a = t 0 := by omega
    subst e0
    have e1 : b = t 1 := by omega
    subst e1
    have e2 : c = t 2 := by omega
    subst e2
    refine ⟨?_, ?_⟩
    · show 0 + cbt (t 0) + cbt (t 1) + cbt (t 2) ≤ qB (t 0) (t 1) (t 2) d
      unfold qB; omega
    · show 0 + l 0 (t 0) + l 1 (t 1) + l 2 (t 2) ≤ qL l (t 0) (t 1) (t 2) d
      unfold qL; omega
  · have t0 := ht 0 (by omega) (by omega)
    have t1 := ht 1 (by omega) (by omega)
    have t2 := ht 2 (by omega) (by omega)
    have t3 := ht 3 (by omega) (by omega)
    rw [vN_4] at h1 h2
    have e : pP 4 = 1 := rfl
    rw [e] at h2
    obtain ⟨rfl, rfl, rfl, rfl⟩ := qN_inj (a := t 0) (b := t 1) (c := t 2) (d := t 3) ⟨t0, t1, t2, t3⟩ hq (by omega)
    rw [sB_4, sL_4]
    exact ⟨Int.le_refl _, Int.le_refl _⟩
/-- the memory while the class searches -/
def SD (μ0 μ : MM) : Prop := SR [9, 12, 13] μ0 μ ∧ μ 9 4 = μ0 9 4 ∧ μ 9 5 = μ0 9 5
def chW (μ0 : MM) (b i : Int) : Int := μ0 11 (b * 4 + i)
def rcM (μ0 : MM) (b x : Int) : Prop := 0 ≤ b ∧ b < 4 ∧ ∃ i : Int, 0 ≤ i ∧ i < μ0 9 4 ∧ x = chW μ0 b i
/-- losses and choices stand -/
def LC (μ0 : MM) (l : Int → Int → Int) : Prop := (1 ≤ μ0 9 4 ∧ μ0 9 4 ≤ 4) ∧ (0 ≤ μ0 9 5 ∧ μ0 9 5 ≤ 80) ∧ (∀ b i : Int, 0 ≤ b → b < 4 → 0 ≤ i → i < μ0 9 4 → 0 ≤ chW μ0 b i ∧ chW μ0 b i < 11 ∧ μ0 10 (b * 11 + chW μ0 b i) = l b (chW μ0 b i)) ∧ (∀ b i : Int, 0 ≤ b → b < 4 → 0 ≤ i → i + 1 < μ0 9 4 → chW μ0 b i < chW μ0 b (i + 1)) ∧ ∀ x y : Int, 0 ≤ l x y ∧ l x y ≤ 900
theorem LC.rcb {μ0 : MM} {l : Int → Int → Int} (h : LC μ0 l) : rcB (rcM μ0) := by
  intro b x hx
  obtain ⟨b0, b1, i, i0, i1, rfl⟩ := hx
  have := h.2.2.1 b i b0 b1 i0 i1
  omega
theorem LC.ql {μ0 : MM} {l : Int → Int → Int} (h : LC μ0 l) (a b c d : Int) : 0 ≤ qL l a b c d ∧ qL l a b c d ≤ 3600 := by
  have g := h.2.2.2.2
  have := g 0 a
  have := g 1 b
  have := g 2 c
  have := g 3 d
  unfold qL
  omega
/-- what a search below a prefix leaves -/
abbrev TP (ν : ML) (μ0 μ : MM) (l : Int → Int → Int) (k : Nat) (N : Int) : Option AV → MM → ML → Prop := fun r μ' ν' => r = none ∧ ν' = ν ∧ SD μ0 μ' ∧ (∀ j : Int, 0 ≤ j → j < k → μ' 12 j = μ 12 j) ∧ DQ l (rcM μ0) (μ0 9 5) N (μ' 9 7) (μ' 9 6) (μ' 13)

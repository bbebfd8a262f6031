/-! ===== Math, System.arraycopy ===== -/
theorem up_at {μ : MM} {c : Nat} {i v : Int} : up μ c i v c i = v := by simp [up]
theorem up_ne {μ : MM} {c c' : Nat} {i i' v : Int} (h : c' ≠ c ∨ i' ≠ i) : up μ c i v c' i' = μ c' i' := by
  unfold up
  rw [if_neg]
  rintro ⟨h1, h2⟩
  rcases h with h | h
  · exact h h1
  · exact h h2
theorem up_def {μ : MM} {c c' : Nat} {i i' v : Int} : up μ c i v c' i' = if c' = c ∧ i' = i then v else μ c' i' := rfl
def cpy (μ : MM) (c0 : Nat) (sp : Int) (c1 : Nat) (dp n : Int) : MM := fun c i => if c = c1 ∧ dp ≤ i ∧ i < dp + n then μ c0 (sp + (i - dp)) else μ c i
section JDK
variable {κ : KX} {cx : MX} {R : Room} {Qf : List Frame → Array Value → State → State → Prop} {cells slots : Nat} {S : List SH} {pc : Nat} {ls r : List AV} {μ : MM} {ν : ML}
theorem cat_rest {κ : KX} {rest : List AV} (h : 2 * rest.length ≤ 8) {n N : Nat} (hn : 8 + n ≤ N) : ((rest.map (cvA κ)).map fun v => v.category).sum + n ≤ N := by
  have h1 := rest_ok (κ := κ) (m := ⟨0, 0⟩) (pc := 0) (lsA := #[]) (st := []) h
  have : ((rest.map (cvA κ)).map fun v => v.category).sum ≤ 8 := Nat.le_trans (Nat.le_add_left _ _) h1
  omega
theorem aw_mmax {x y : Int} {idx p1 : Nat} (hd : decode cx.2.1 pc = .ok (.invokestatic idx, 3)) (hl : okL p1 (.methodLink cx.1.cls idx mJ9_max.1) = true) (hx : R32 x) (hy : R32 y) (hrest : 2 * r.length ≤ 8) (hR : 1 ≤ R.frames ∧ 21 ≤ R.locals) (hc : cells ≤ R.cells ∧ slots ≤ R.slots) (k : AW κ cx R Qf cells slots S (pc + 3) ls (aI (if x < y then y else x) :: r) μ ν) : AW κ cx R Qf cells slots S pc ls (aI y :: aI x :: r) μ ν := by
  intro hS p l e s m args below meth c F H locs lsA hs hW hl0
  obtain ⟨hx0, hb, -, hml, hown, hts, -, -, hK, hst⟩ := id F
  refine va_mmax hx0 hb (by rw [hml, hl0.1]) hown (hts _ (okL_mem hl)) (hts _ (okL_mem (pos := 498) (by decide +kernel))) (hts _ (okL_mem (pos := 54) (by decide +kernel))) (hts _ (okL_mem (pos := 499) (by decide +kernel))) hR.1 (cat_rest hrest hR.2) hc.1 hc.2 hd ?_
  have := k hS p l e s m args below meth c F H locs lsA hs hW hl0
  by_cases h : x < y
  · rw [if_pos ((lt32 hx hy).mpr h)]; rw [if_pos h] at this; exact this
  · rw [if_neg (fun q => h ((lt32 hx hy).mp q))]; rw [if_neg h] at this; exact this
theorem aw_mmin {x y : Int} {idx p1 : Nat} (hd : decode cx.2.1 pc = .ok (.invokestatic idx, 3)) (hl : okL p1 (.methodLink cx.1.cls idx mJ9_min.1) = true) (hx : R32 x) (hy : R32 y) (hrest : 2 * r.length ≤ 8) (hR : 1 ≤ R.frames ∧ 21 ≤ R.locals) (hc : cells ≤ R.cells ∧ slots ≤ R.slots) (k : AW κ cx R Qf cells slots S (pc + 3) ls (aI (if y < x then y else x) :: r) μ ν) : AW κ cx R Qf cells slots S pc ls (aI y :: aI x :: r) μ ν := by
  intro hS p l e s m args below meth c F H locs lsA hs hW hl0
  obtain ⟨hx0, hb, -, hml, hown, hts, -, -, hK, hst⟩ := id F
  refine va_mmin hx0 hb (by rw [hml, hl0.1]) hown (hts _ (okL_mem hl)) (hts _ (okL_mem (pos := 437) (by decide +kernel))) (hts _ (okL_mem (pos := 54) (by decide +kernel))) (hts _ (okL_mem (pos := 438) (by decide +kernel))) hR.1 (cat_rest hrest hR.2) hc.1 hc.2 hd ?_
  have := k hS p l e s m args below meth c F H locs lsA hs hW hl0
  by_cases h : y < x
  · rw [if_pos ((lt32 hy hx).mpr h)]; rw [if_pos h] at this; exact this
  · rw [if_neg (fun q => h ((lt32 hy hx).mp q))]; rw [if_neg h] at this; exact this
theorem aw_mabs {x : Int} {idx p1 : Nat} (hd : decode cx.2.1 pc = .ok (.invokestatic idx, 3)) (hl : okL p1 (.methodLink cx.1.cls idx mJ9_abs.1) = true) (hx : R32 x) (hrest : 2 * r.length ≤ 8) (hR : 1 ≤ R.frames ∧ 21 ≤ R.locals) (hc : cells ≤ R.cells ∧ slots ≤ R.slots) (k : AW κ cx R Qf cells slots S (pc + 3) ls (aI (if 0 ≤ x then x else 0 - x) :: r) μ ν) : AW κ cx R Qf cells slots S pc ls (aI x :: r) μ ν := by
  intro hS p l e s m args below meth c F H locs lsA hs hW hl0
  obtain ⟨hx0, hb, -, hml, hown, hts, -, -, hK, hst⟩ := id F
  refine va_mabs hx0 hb (by rw [hml, hl0.1]) hown (hts _ (okL_mem hl)) (hts _ (okL_mem (pos := 536) (by decide +kernel))) (hts _ (okL_mem (pos := 54) (by decide +kernel))) (hts _ (okL_mem (pos := 537) (by decide +kernel))) hR.1 (cat_rest hrest hR.2) hc.1 hc.2 hd ?_
  have := k hS p l e s m args below meth c F H locs lsA hs hW hl0
  by_cases h : 0 ≤ x
  · rw [if_pos (by rw [z32]; exact (le32 r0 hx).mpr h)]; rw [if_pos h] at this; exact this
  · rw [if_neg (show ¬ (0 : Int32) ≤ Int32.ofInt x from fun q => h ((le32 r0 hx).mp q))]; rw [if_neg h] at this
    simp only [List.map, cvA, Int32.ofInt_sub] at this
    exact this
end JDK

/-! ===== the relation at the begin ===== -/
def prQ (μ : MM) (c m n : Nat) (lo hi : Int) : Bool := (List.range n).all (fun i => decide (μ m (i : Int) = μ c (i : Int) ∧ lo ≤ μ c (i : Int) ∧ μ c (i : Int) ≤ hi))
theorem prQ_ok {μ : MM} {c m n : Nat} {lo hi : Int} (h : prQ μ c m n lo hi = true) : PR c m (n : Int) lo hi μ := by
  intro i h0 h1
  have := of_decide_eq_true (List.all_eq_true.mp h i.toNat (List.mem_range.mpr (by omega)))
  rw [show ((i.toNat : Nat) : Int) = i by omega] at this
  exact this
def alQ (p : Int → Bool) (n : Nat) : Bool := (List.range n).all (fun i => p (i : Int))
theorem alQ_ok {p : Int → Bool} {n : Nat} (h : alQ p n = true) (i : Int) (h0 : 0 ≤ i) (h1 : i < (n : Int)) : p i = true := by
  have := List.all_eq_true.mp h i.toNat (List.mem_range.mpr (by omega))
  rw [show ((i.toNat : Nat) : Int) = i by omega] at this
  exact this
set_option maxRecDepth 100000 in
theorem i0_T : prQ mu0 34 63 4 0 100 = true ∧ prQ mu0 35 64 4 0 100 = true ∧ prQ mu0 36 65 6 1 50 = true ∧ prQ mu0 37 66 24 0 1000 = true := by decide +kernel
set_option maxRecDepth 100000 in
theorem i0_G : prQ mu0 50 72 24 0 65535 = true ∧ prQ mu0 48 71 8 0 255 = true := by decide +kernel
set_option maxRecDepth 100000 in
theorem i0_N : alQ (fun i => decide (1 ≤ i → (0 ≤ mu0 52 i ∧ mu0 52 i < i) ∧ (1 ≤ mu0 53 i ∧ mu0 53 i ≤ 100) ∧ mu0 73 i = mu0 52 i ∧ mu0 74 i = mu0 53 i ∧ mu0 75 i = mu0 54 i ∧ (mu0 54 i = 0 → mu0 54 (mu0 52 i) = 0)) && decide (0 ≤ mu0 54 i ∧ mu0 54 i ≤ 1)) 10 = true ∧ mu0 54 0 = 0 ∧ mu0 75 0 = 0 := by decide +kernel
set_option maxRecDepth 100000 in
theorem i0_S : alQ (fun i => decide (mu0 58 i = mu0 1 i ∧ stv 0 i ≤ mu0 1 i ∧ mu0 1 i ≤ stv 1 i)) 7 = true := by decide +kernel
set_option maxRecDepth 100000 in
theorem i0_R : (0 ≤ mu0 38 5 ∧ mu0 38 5 ≤ 12 ∧ mu0 55 16 = mu0 38 5) ∧ prQ mu0 44 68 8 0 3 = true ∧ prQ mu0 46 70 48 0 20 = true := by decide +kernel
set_option maxRecDepth 100000 in
theorem i0_R2 : alQ (fun r => decide (mu0 67 (5 * r) = mu0 39 r ∧ mu0 67 (5 * r + 1) = mu0 40 r ∧ mu0 67 (5 * r + 2) = mu0 41 r ∧ mu0 67 (5 * r + 3) = mu0 42 r ∧ mu0 67 (5 * r + 4) = mu0 43 r ∧ R32 (mu0 39 r) ∧ R32 (mu0 40 r) ∧ R32 (mu0 41 r) ∧ R32 (mu0 42 r) ∧ 0 ≤ mu0 43 r ∧ mu0 43 r ≤ 20)) 12 = true := by decide +kernel
set_option maxRecDepth 100000 in
theorem i0_R3 : alQ (fun i => decide (nu0 45 i = 0)) 48 = true := by decide +kernel
set_option maxRecDepth 100000 in
theorem i0_R4 : alQ (fun i => decide (mu0 69 i = 0)) 2880 = true := by decide +kernel
set_option maxRecDepth 100000 in
theorem i0_Fi : (mu0 55 4 = mu0 14 2 ∧ 1 ≤ mu0 14 2 ∧ mu0 14 2 ≤ 8) ∧ (mu0 55 6 = mu0 14 3 ∧ 0 ≤ mu0 14 3 ∧ mu0 14 3 ≤ 255) ∧ prQ mu0 16 59 24 1 1000 = true ∧ prQ mu0 15 60 60 0 1000 = true := by decide +kernel
set_option maxRecDepth 100000 in
theorem i0_U : (mu0 55 8 = mu0 17 1 ∧ 0 ≤ mu0 17 1 ∧ mu0 17 1 ≤ 40) ∧ prQ mu0 18 61 40 0 126 = true ∧ mu0 55 10 = 0 ∧ mu0 17 6 = 0 ∧ mu0 17 7 = 0 ∧ mu0 0 11 = 0 ∧ mu0 0 12 = 0 := by decide +kernel
set_option maxRecDepth 100000 in
theorem i0_F : mu0 55 0 = 0 ∧ mu0 2 7 = 0 ∧ mu0 2 8 = 0 ∧ prQ mu0 3 56 160 0 15 = true ∧ prQ mu0 5 57 10 0 1 = true ∧ alQ (fun i => decide (mu0 3 i = 0)) 160 = true := by decide +kernel

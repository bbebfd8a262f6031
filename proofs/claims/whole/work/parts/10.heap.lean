/-! ===== the heap behind the two constructors ===== -/
abbrev muZ : MM := fun _ _ => 0
abbrev nuZ : ML := fun _ _ => 0
def SX : List SH := [.inr (11, [some (aR 1), some (aR 2), some (aR 14), some (aR 17), some (aR 23), some (aR 25), some (aR 33), some (aR 38), some (aR 47), some (aR 49), some (aR 51), none, none]),
  .inl (0, 7),
  .inr (3, [some (aR 3), some (aR 4), some (aR 5), some (aR 6), some (aR 7), some (aR 8), some (aR 9), none, none]),
  .inl (0, 160),
  .inl (0, 160),
  .inl (1, 10),
  .inl (0, 40),
  .inl (0, 10),
  .inl (0, 10),
  .inr (1, [some (aR 10), some (aR 11), some (aR 12), some (aR 13), none, none, none, none]),
  .inl (0, 44),
  .inl (0, 16),
  .inl (0, 4),
  .inl (0, 4),
  .inr (2, [some (aR 15), some (aR 16), none, none]),
  .inl (0, 60),
  .inl (0, 24),
  .inr (8, [some (aR 18), none, some (aR 19), some (aR 20), some (aR 21), some (aR 22), none, none]),
  .inl (0, 40),
  .inl (0, 6),
  .inl (1, 6),
  .inl (0, 6),
  .inl (0, 6),
  .inr (9, [some (aR 24), none, none, none, none, none, none]),
  .inl (0, 8),
  .inr (0, [some (aR 26), some (aR 28), some (aR 29), some (aR 30), some (aR 31), some (aR 32), none, none, none, none, none]),
  .inr (9, [some (aR 27), none, none, none, none, none, none]),
  .inl (0, 8),
  .inl (0, 60),
  .inl (0, 8),
  .inl (0, 8),
  .inl (0, 8),
  .inl (0, 8),
  .inr (10, [some (aR 34), some (aR 35), some (aR 36), some (aR 37)]),
  .inl (0, 4),
  .inl (0, 4),
  .inl (0, 6),
  .inl (0, 24),
  .inr (7, [some (aR 39), some (aR 40), some (aR 41), some (aR 42), some (aR 43), none, some (aR 44), some (aR 45), some (aR 46)]),
  .inl (0, 12),
  .inl (0, 12),
  .inl (0, 12),
  .inl (0, 12),
  .inl (0, 12),
  .inl (0, 8),
  .inl (2, 48),
  .inl (0, 48),
  .inr (5, [some (aR 48)]),
  .inl (0, 8),
  .inr (4, [some (aR 50)]),
  .inl (0, 24),
  .inr (6, [some (aR 52), some (aR 53), some (aR 54)]),
  .inl (0, 10),
  .inl (0, 10),
  .inl (1, 10)]
def S0 : List SH := [.inr (11, [some (aR 1), some (aR 2), some (aR 14), some (aR 17), some (aR 23), some (aR 25), some (aR 33), some (aR 38), some (aR 47), some (aR 49), some (aR 51), none, none]),
  .inl (0, 7),
  .inr (3, [some (aR 3), some (aR 4), some (aR 5), some (aR 6), some (aR 7), some (aR 8), some (aR 9), none, none]),
  .inl (0, 160),
  .inl (0, 160),
  .inl (1, 10),
  .inl (0, 40),
  .inl (0, 10),
  .inl (0, 10),
  .inr (1, [some (aR 10), some (aR 11), some (aR 12), some (aR 13), none, none, none, none]),
  .inl (0, 44),
  .inl (0, 16),
  .inl (0, 4),
  .inl (0, 4),
  .inr (2, [some (aR 15), some (aR 16), none, none]),
  .inl (0, 60),
  .inl (0, 24),
  .inr (8, [some (aR 18), none, some (aR 19), some (aR 20), some (aR 21), some (aR 22), none, none]),
  .inl (0, 40),
  .inl (0, 6),
  .inl (1, 6),
  .inl (0, 6),
  .inl (0, 6),
  .inr (9, [some (aR 24), none, none, none, none, none, none]),
  .inl (0, 8),
  .inr (0, [some (aR 26), some (aR 28), some (aR 29), some (aR 30), some (aR 31), some (aR 32), none, none, none, none, none]),
  .inr (9, [some (aR 27), none, none, none, none, none, none]),
  .inl (0, 8),
  .inl (0, 60),
  .inl (0, 8),
  .inl (0, 8),
  .inl (0, 8),
  .inl (0, 8),
  .inr (10, [some (aR 34), some (aR 35), some (aR 36), some (aR 37)]),
  .inl (0, 4),
  .inl (0, 4),
  .inl (0, 6),
  .inl (0, 24),
  .inr (7, [some (aR 39), some (aR 40), some (aR 41), some (aR 42), some (aR 43), none, some (aR 44), some (aR 45), some (aR 46)]),
  .inl (0, 12),
  .inl (0, 12),
  .inl (0, 12),
  .inl (0, 12),
  .inl (0, 12),
  .inl (0, 8),
  .inl (2, 48),
  .inl (0, 48),
  .inr (5, [some (aR 48)]),
  .inl (0, 8),
  .inr (4, [some (aR 50)]),
  .inl (0, 24),
  .inr (6, [some (aR 52), some (aR 53), some (aR 54)]),
  .inl (0, 10),
  .inl (0, 10),
  .inl (1, 10),
  .inr (12, [none, some (aR 56), some (aR 57), some (aR 58), none, some (aR 59), none, some (aR 60), none, some (aR 61), none, some (aR 62), some (aR 63), some (aR 64), some (aR 65), some (aR 66), none, some (aR 67), some (aR 68), some (aR 69), some (aR 70), some (aR 71), some (aR 72), some (aR 73), some (aR 74), some (aR 75), some (aR 76), some (aR 77), some (aR 78), some (aR 79), some (aR 80), none, none, none, none, some (aR 81), some (aR 82)]),
  .inl (0, 160),
  .inl (1, 10),
  .inl (0, 7),
  .inl (0, 24),
  .inl (0, 60),
  .inl (0, 40),
  .inl (0, 40),
  .inl (0, 4),
  .inl (0, 4),
  .inl (0, 6),
  .inl (0, 24),
  .inl (0, 60),
  .inl (0, 8),
  .inl (1, 2880),
  .inl (0, 48),
  .inl (0, 8),
  .inl (0, 24),
  .inl (0, 10),
  .inl (0, 10),
  .inl (1, 10),
  .inl (0, 40),
  .inl (0, 160),
  .inl (0, 10),
  .inl (0, 10),
  .inl (0, 44),
  .inl (0, 8),
  .inl (0, 8)]
def run1 : Option (List SH × MM × ML) := crun 3000 5 11 0 [aR 0] [] [.inr (11, dflT TX11 13)] (clr muZ 0) (clrL nuZ 0)
def mu1 : MM := match run1 with
  | some (_, μ, _) => μ
  | none => muZ
def nu1 : ML := match run1 with
  | some (_, _, ν) => ν
  | none => nuZ
def run2 : Option (List SH × MM × ML) := crun 5000 5 12 0 [aR 55, aU] [] (SX ++ [.inr (12, dflT TX12 37)]) (clr mu1 55) (clrL nu1 55)
def mu0 : MM := match run2 with
  | some (_, μ, _) => μ
  | none => muZ
def nu0 : ML := match run2 with
  | some (_, _, ν) => ν
  | none => nuZ
def foEq (a b : Option AV) : Bool := decide (a = b)
def lEq {α : Type} (eq : α → α → Bool) : List α → List α → Bool
  | [], [] => true
  | a :: r, b :: t => eq a b && lEq eq r t
  | _, _ => false
theorem lEq_ok {α : Type} {eq : α → α → Bool} (h : ∀ a b, eq a b = true → a = b) : ∀ l t : List α, lEq eq l t = true → l = t
  | [], [], _ => rfl
  | a :: r, b :: t, q => by
    simp only [lEq, Bool.and_eq_true] at q
    rw [h a b q.1, lEq_ok h r t q.2]
  | [], b :: t, q => by cases q
  | a :: r, [], q => by cases q
def shEq : SH → SH → Bool
  | .inl (a, b), .inl (c, d) => Nat.beq a c && Nat.beq b d
  | .inr (a, b), .inr (c, d) => Nat.beq a c && lEq foEq b d
  | _, _ => false
theorem shEq_ok : ∀ a b : SH, shEq a b = true → a = b
  | .inl (a, b), .inl (c, d), q => by
    simp only [shEq, Bool.and_eq_true] at q
    rw [Nat.eq_of_beq_eq_true q.1, Nat.eq_of_beq_eq_true q.2]
  | .inr (a, b), .inr (c, d), q => by
    simp only [shEq, Bool.and_eq_true] at q
    rw [Nat.eq_of_beq_eq_true q.1, lEq_ok (fun x y h => of_decide_eq_true h) b d q.2]
  | .inl (a, b), .inr (c, d), q => by cases q
  | .inr (a, b), .inl (c, d), q => by cases q
def isS (x : Option (List SH × MM × ML)) (S : List SH) : Bool := match x with
  | some (T, _, _) => lEq shEq T S
  | none => false
theorem isS_ok {x : Option (List SH × MM × ML)} {S : List SH} (h : isS x S = true) : x.map (fun q => q.1) = some S := by
  unfold isS at h
  split at h
  · rw [lEq_ok shEq_ok _ _ h]; rfl
  · cases h
theorem run1_S : run1.map (fun q => q.1) = some SX := isS_ok (by decide +kernel)
theorem run2_S : run2.map (fun q => q.1) = some S0 := isS_ok (by decide +kernel)
theorem run1_eq : run1 = some (SX, mu1, nu1) := by
  have h := run1_S
  unfold mu1 nu1
  revert h
  cases run1 with
  | none => intro h; cases h
  | some q => obtain ⟨a, b, c⟩ := q; intro h; cases h; rfl
theorem run2_eq : run2 = some (S0, mu0, nu0) := by
  have h := run2_S
  unfold mu0 nu0
  revert h
  cases run2 with
  | none => intro h; cases h
  | some q => obtain ⟨a, b, c⟩ := q; intro h; cases h; rfl

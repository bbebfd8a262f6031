/-! ===== sums, bits ===== -/
def sm (g : Int → Int) : Nat → Int
  | 0 => 0
  | n + 1 => sm g n + g (n : Int)
theorem sm_succ {g : Int → Int} {n : Nat} : sm g (n + 1) = sm g n + g (n : Int) := rfl
theorem sm_congr {g h : Int → Int} : ∀ n : Nat, (∀ k : Nat, k < n → g k = h k) → sm g n = sm h n
  | 0, _ => rfl
  | n + 1, H => by
    simp only [sm]
    rw [sm_congr n (fun k hk => H k (by omega)), H n (by omega)]
theorem sm_bd {g : Int → Int} {B : Int} : ∀ n : Nat, (∀ k : Nat, k < n → 0 ≤ g k ∧ g k ≤ B) → 0 ≤ sm g n ∧ sm g n ≤ n * B
  | 0, _ => by simp [sm]
  | n + 1, H => by
    have h1 := sm_bd n (fun k hk => H k (by omega))
    have h2 := H n (by omega)
    simp only [sm]
    have e : ((n + 1 : Nat) : Int) * B = n * B + B := by
      rw [Int.natCast_add, Int.add_mul]; simp
    rw [e]
    omega
theorem sm_mul {g : Int → Int} {c : Int} : ∀ n : Nat, sm g n * c = sm (fun k => g k * c) n
  | 0 => by simp [sm]
  | n + 1 => by simp only [sm]; rw [Int.add_mul, sm_mul n]
def bitk (f k : Int) : Int := bAnd (bShr f k) 1
theorem bAnd1 (x : Int) : bAnd x 1 = 0 ∨ bAnd x 1 = 1 := by
  unfold bAnd
  have h : (Int32.ofInt x &&& Int32.ofInt 1).toBitVec = (Int32.ofInt x).toBitVec &&& 1#32 := rfl
  have h2 : (Int32.ofInt x &&& Int32.ofInt 1).toInt = ((Int32.ofInt x).toBitVec &&& 1#32).toInt := rfl
  rw [h2, BitVec.and_one_eq_setWidth_ofBool_getLsbD]
  cases (Int32.ofInt x).toBitVec.getLsbD 0
  · left; decide
  · right; decide
theorem bitk01 (f k : Int) : bitk f k = 0 ∨ bitk f k = 1 := bAnd1 _
theorem bitk_bd (f k : Int) : 0 ≤ bitk f k ∧ bitk f k ≤ 1 := by
  rcases bitk01 f k with h | h <;> rw [h] <;> decide
theorem bitk_R (f k : Int) : R32 (bitk f k) := by
  rcases bitk01 f k with h | h <;> rw [h] <;> decide
/-- memory that differs on the cells cs at most -/
def SR (cs : List Nat) (μ μ' : MM) : Prop := ∀ c, c ∉ cs → μ' c = μ c
theorem SR.rf {cs : List Nat} {μ : MM} : SR cs μ μ := fun _ _ => rfl
theorem SR.put {cs : List Nat} {μ μ' : MM} {c : Nat} {i v : Int} (h : SR cs μ μ') (hc : c ∈ cs) : SR cs μ (up μ' c i v) := fun c' hc' => by
  have hne : c' ≠ c := fun e => hc' (by rw [e]; exact hc)
  rw [up_cell hne]
  exact h c' hc'
theorem SR.trans {cs ds : List Nat} {μ μ' μ'' : MM} (h : SR cs μ μ') (h2 : SR ds μ' μ'') : SR (cs ++ ds) μ μ'' := fun c hc => by
  rw [h2 c (fun q => hc (List.mem_append_right _ q)), h c (fun q => hc (List.mem_append_left _ q))]
theorem SR.mono {cs ds : List Nat} {μ μ' : MM} (h : SR cs μ μ') (hs : ∀ c, c ∈ cs → c ∈ ds) : SR ds μ μ' := fun c hc => h c (fun q => hc (hs c q))
theorem AMet.mono {κ : KX} {d : Nat} {cy : MX} {As : List AV} {S : List SH} {μ : MM} {ν : ML} {P P' : Option AV → List SH → MM → ML → Prop} {mc ms : Nat} (h : AMet κ d cy As S μ ν P mc ms) (hp : ∀ r S μ ν, P r S μ ν → P' r S μ ν) : AMet κ d cy As S μ ν P' mc ms := by
  intro hS l
  refine MetFree.mono (h hS l) (fun _ _ q => q) (fun _ _ _ _ _ q => q) ?_
  intro a s o t _ q
  obtain ⟨⟨⟨r, S1, μ1, ν1, h1, h2, h3⟩, h4⟩, h5⟩ := q
  exact ⟨⟨⟨r, S1, μ1, ν1, h1, hp _ _ _ _ h2, h3⟩, h4⟩, h5⟩
theorem AMet.eqv {κ : KX} {d : Nat} {cy : MX} {As : List AV} {μ : MM} {ν : ML} {r : Option AV} {μ1 : MM} {ν1 : ML} {P : Option AV → MM → ML → Prop} (h : AE κ d cy As μ ν r μ1 ν1) (hp : P r μ1 ν1) : AQ κ d cy As μ ν P := AMet.mono h (fun r S μ ν q => by obtain ⟨rfl, rfl, rfl, rfl⟩ := q; exact ⟨rfl, hp⟩)
/-- one call of the law: the class, then the reference: one answer, and the relation again -/
def LawOK (Rl : MM → ML → Prop) (κ : KX) (cx cm : MX) (As : List AV) (μ : MM) (ν : ML) : Prop := ∃ P : Option AV → MM → ML → Prop, AQ κ 60 cx (aR 0 :: As) μ ν P ∧ ∀ r μ1 ν1, P r μ1 ν1 → ∃ z, r = some (aI z) ∧ R32 z ∧ AQ κ 60 cm (aR 55 :: As) μ1 ν1 (fun r' μ2 ν2 => r' = some (aI z) ∧ Rl μ2 ν2)
/-- the same where both ends are known; ν stays -/
def LawM (Rl : MM → Prop) (cs : List Nat) (κ : KX) (cx cm : MX) (As : List AV) (μ : MM) (ν : ML) : Prop := ∃ z μ1 μ2, AE κ 60 cx (aR 0 :: As) μ ν (some (aI z)) μ1 ν ∧ AE κ 60 cm (aR 55 :: As) μ1 ν (some (aI z)) μ2 ν ∧ R32 z ∧ Rl μ2 ∧ SR cs μ μ2
/-- a row of the class and its twin: the same numbers, within lo .. hi -/
def PR (c m : Nat) (n lo hi : Int) (μ : MM) : Prop := ∀ i : Int, 0 ≤ i → i < n → μ m i = μ c i ∧ lo ≤ μ c i ∧ μ c i ≤ hi
theorem PR.up2 {c m : Nat} {n lo hi : Int} {μ : MM} (h : PR c m n lo hi μ) (hcm : c ≠ m) {i v : Int} (h1 : lo ≤ v) (h2 : v ≤ hi) : PR c m n lo hi (up (up μ c i v) m i v) := by
  intro x hx0 hx1
  have g := h x hx0 hx1
  by_cases e : x = i
  · subst e
    rw [up_at, up_ne (Or.inl hcm), up_at]
    exact ⟨rfl, h1, h2⟩
  · rw [up_ne (Or.inr e), up_ne (Or.inr e), up_ne (Or.inl hcm), up_ne (Or.inr e)]
    exact g
theorem PR.fr {c m : Nat} {n lo hi : Int} {μ μ' : MM} {cs : List Nat} (h : PR c m n lo hi μ) (hs : SR cs μ μ') (hc : c ∉ cs) (hm : m ∉ cs) : PR c m n lo hi μ' := by
  intro x hx0 hx1
  rw [hs c hc, hs m hm]
  exact h x hx0 hx1
theorem SR.two {μ : MM} {a b : Nat} {i v j w : Int} : SR [a, b] μ (up (up μ a i v) b j w) := (SR.rf.put (by simp)).put (by simp)
theorem SR.sub {cs ds : List Nat} {μ μ' : MM} (h : SR cs μ μ') (hs : cs.all (fun c => decide (c ∈ ds)) = true) : SR ds μ μ' := h.mono (fun c hc => of_decide_eq_true (List.all_eq_true.mp hs c hc))
theorem up_c {μ : MM} {c c' : Nat} {i i' v : Int} (h : c' ≠ c) : up μ c i v c' i' = μ c' i' := up_ne (Or.inl h)

/-! ===== contracts over the heap behind the constructors ===== -/
theorem sm0 : SmallS S0 := by
  intro x t n h
  have hx : x < 83 := by
    have := (List.getElem?_eq_some_iff.mp h).1
    exact this
  have key : ∀ x, x < 83 → (match gt S0 x with
    | some (.inl (_, n)) => Nat.blt n 2147483648
    | _ => true) = true := by decide +kernel
  have := key x hx
  rw [gt_eq, h] at this
  simpa using this
abbrev AX (κ : KX) (cx : MX) (d : Nat) (P : Option AV → List SH → MM → ML → Prop) (pc : Nat) (ls st : List AV) (μ : MM) (ν : ML) : Prop := AW κ cx (rmv d 0 0) (mq κ P 0 0) 0 0 S0 pc ls st μ ν
def PE (r : Option AV) (μ1 : MM) (ν1 : ML) : Option AV → List SH → MM → ML → Prop := fun r' S μ ν => r' = r ∧ S = S0 ∧ μ = μ1 ∧ ν = ν1
/-- a method that gives r and leaves the memory as mu1, nu1 -/
abbrev AE (κ : KX) (d : Nat) (cy : MX) (As : List AV) (μ : MM) (ν : ML) (r : Option AV) (μ1 : MM) (ν1 : ML) : Prop := AMet κ d cy As S0 μ ν (PE r μ1 ν1) 0 0
/-- a method whose end is only known by a relation -/
abbrev AQ (κ : KX) (d : Nat) (cy : MX) (As : List AV) (μ : MM) (ν : ML) (P : Option AV → MM → ML → Prop) : Prop := AMet κ d cy As S0 μ ν (fun r S μ' ν' => S = S0 ∧ P r μ' ν') 0 0
theorem pe_i {z w : Int} {μ μ1 : MM} {ν ν1 : ML} (h : w = z) (hm : μ = μ1) (hn : ν = ν1) : PE (some (aI z)) μ1 ν1 (some (aI w)) S0 μ ν := ⟨by rw [h], rfl, hm, hn⟩
theorem pe_v {μ μ1 : MM} {ν ν1 : ML} (hm : μ = μ1) (hn : ν = ν1) : PE none μ1 ν1 none S0 μ ν := ⟨rfl, rfl, hm, hn⟩
section AEC
variable {κ : KX} {cx : MX} {R : Room} {Qf : List Frame → Array Value → State → State → Prop} {cells slots : Nat} {pc : Nat} {ls : List AV} {μ μ1 : MM} {ν ν1 : ML}
theorem fit_R {cy : MX} {d : Nat} {R : Room} (hm : Nat.ble cy.2.2.1 45 = true) (hR : Nat.ble (d + 1) R.frames = true ∧ Nat.ble (64 * (d + 1)) R.locals = true) : d + 1 ≤ R.frames ∧ 8 + (cy.2.2.1 + 11) + 64 * d ≤ R.locals := by
  have h1 := Nat.le_of_ble_eq_true hm
  have h2 := Nat.le_of_ble_eq_true hR.1
  have h3 := Nat.le_of_ble_eq_true hR.2
  exact ⟨h2, by omega⟩
theorem aw_crV {cy : MX} {d n idx b a p1 : Nat} {As rest st : List AV} {fs : List (Option AV)} {P : Option AV → MM → ML → Prop} (hM : AQ κ d cy (aR b :: As) μ ν P) (hm : MokV cy n) (hd : decode cx.2.1 pc = .ok (.invokevirtual idx, 3)) (hl : okL p1 (.methodLink cx.1.cls idx cy.1) = true) (hob : gt S0 b = some (.inr (a, fs))) (hcl : (gt classes a).map (fun q => q.1) = some cy.1.cls) (hn : As.length = n) (hst : As.reverse ++ aR b :: rest = st) (hrest : 2 * rest.length ≤ 8) (hR : d + 1 ≤ R.frames ∧ 8 + (cy.2.2.1 + 11) + 64 * d ≤ R.locals) (hf : cells ≤ R.cells ∧ slots ≤ R.slots)
    (k : ∀ (r : Option AV) (μ' : MM) (ν' : ML), P r μ' ν' → AW κ cx R Qf cells slots S0 (pc + 3) ls (r.toList ++ rest) μ' ν') : AW κ cx R Qf cells slots S0 pc ls st μ ν := by
  subst hst
  refine aw_callV hM hm hd hl hob hcl hn hrest hR hf ?_
  intro r S' μ' ν' hp
  obtain ⟨rfl, hp⟩ := hp
  exact k r μ' ν' hp
theorem aw_ceV {cy : MX} {d n idx b a p1 : Nat} {As rest st : List AV} {fs : List (Option AV)} {r : Option AV} (hM : AE κ d cy (aR b :: As) μ ν r μ1 ν1) (hm : MokV cy n) (hd : decode cx.2.1 pc = .ok (.invokevirtual idx, 3)) (hl : okL p1 (.methodLink cx.1.cls idx cy.1) = true) (hob : gt S0 b = some (.inr (a, fs))) (hcl : (gt classes a).map (fun q => q.1) = some cy.1.cls) (hn : As.length = n) (hst : As.reverse ++ aR b :: rest = st) (hrest : 2 * rest.length ≤ 8) (hR : d + 1 ≤ R.frames ∧ 8 + (cy.2.2.1 + 11) + 64 * d ≤ R.locals) (hf : cells ≤ R.cells ∧ slots ≤ R.slots)
    (k : AW κ cx R Qf cells slots S0 (pc + 3) ls (r.toList ++ rest) μ1 ν1) : AW κ cx R Qf cells slots S0 pc ls st μ ν := by
  subst hst
  refine aw_callV hM hm hd hl hob hcl hn hrest hR hf ?_
  intro r S' μ' ν' hp
  obtain ⟨rfl, rfl, rfl, rfl⟩ := hp
  exact k
theorem aw_ceS {cy : MX} {d n idx p1 : Nat} {As rest st : List AV} {r : Option AV} (hM : AE κ d cy As μ ν r μ1 ν1) (hm : MokS cy n) (hd : decode cx.2.1 pc = .ok (.invokestatic idx, 3)) (hl : okL p1 (.methodLink cx.1.cls idx cy.1) = true) (hn : As.length = n) (hst : As.reverse ++ rest = st) (hrest : 2 * rest.length ≤ 8) (hR : d + 1 ≤ R.frames ∧ 8 + (cy.2.2.1 + 11) + 64 * d ≤ R.locals) (hf : cells ≤ R.cells ∧ slots ≤ R.slots)
    (k : AW κ cx R Qf cells slots S0 (pc + 3) ls (r.toList ++ rest) μ1 ν1) : AW κ cx R Qf cells slots S0 pc ls st μ ν := by
  subst hst
  refine aw_callS hM hm hd hl hn hrest hR hf ?_
  intro r S' μ' ν' hp
  obtain ⟨rfl, rfl, rfl, rfl⟩ := hp
  exact k
theorem aw_ciV {cy : MX} {d n idx b a p1 : Nat} {As rest st : List AV} {fs : List (Option AV)} {z : Int} (hM : AE κ d cy (aR b :: As) μ ν (some (aI z)) μ1 ν1) (hm : MokV cy n) (hd : decode cx.2.1 pc = .ok (.invokevirtual idx, 3)) (hl : okL p1 (.methodLink cx.1.cls idx cy.1) = true) (hob : gt S0 b = some (.inr (a, fs))) (hcl : (gt classes a).map (fun q => q.1) = some cy.1.cls) (hn : As.length = n) (hst : As.reverse ++ aR b :: rest = st) (hrest : 2 * rest.length ≤ 8) (hR : d + 1 ≤ R.frames ∧ 8 + (cy.2.2.1 + 11) + 64 * d ≤ R.locals) (hf : cells ≤ R.cells ∧ slots ≤ R.slots)
    (k : AW κ cx R Qf cells slots S0 (pc + 3) ls (aI z :: rest) μ1 ν1) : AW κ cx R Qf cells slots S0 pc ls st μ ν := aw_ceV hM hm hd hl hob hcl hn hst hrest hR hf k
theorem aw_cvV {cy : MX} {d n idx b a p1 : Nat} {As rest st : List AV} {fs : List (Option AV)} (hM : AE κ d cy (aR b :: As) μ ν none μ1 ν1) (hm : MokV cy n) (hd : decode cx.2.1 pc = .ok (.invokevirtual idx, 3)) (hl : okL p1 (.methodLink cx.1.cls idx cy.1) = true) (hob : gt S0 b = some (.inr (a, fs))) (hcl : (gt classes a).map (fun q => q.1) = some cy.1.cls) (hn : As.length = n) (hst : As.reverse ++ aR b :: rest = st) (hrest : 2 * rest.length ≤ 8) (hR : d + 1 ≤ R.frames ∧ 8 + (cy.2.2.1 + 11) + 64 * d ≤ R.locals) (hf : cells ≤ R.cells ∧ slots ≤ R.slots)
    (k : AW κ cx R Qf cells slots S0 (pc + 3) ls rest μ1 ν1) : AW κ cx R Qf cells slots S0 pc ls st μ ν := aw_ceV hM hm hd hl hob hcl hn hst hrest hR hf k
theorem aw_ciS {cy : MX} {d n idx p1 : Nat} {As rest st : List AV} {z : Int} (hM : AE κ d cy As μ ν (some (aI z)) μ1 ν1) (hm : MokS cy n) (hd : decode cx.2.1 pc = .ok (.invokestatic idx, 3)) (hl : okL p1 (.methodLink cx.1.cls idx cy.1) = true) (hn : As.length = n) (hst : As.reverse ++ rest = st) (hrest : 2 * rest.length ≤ 8) (hR : d + 1 ≤ R.frames ∧ 8 + (cy.2.2.1 + 11) + 64 * d ≤ R.locals) (hf : cells ≤ R.cells ∧ slots ≤ R.slots)
    (k : AW κ cx R Qf cells slots S0 (pc + 3) ls (aI z :: rest) μ1 ν1) : AW κ cx R Qf cells slots S0 pc ls st μ ν := aw_ceS hM hm hd hl hn hst hrest hR hf k
end AEC
/-! between, in -/
def bt (a b c : Int) : Int := if b ≤ a ∧ a ≤ c then 1 else 0
theorem bt_r {a b c : Int} : R32 (bt a b c) := by unfold bt; split <;> decide
theorem bt1 {a b c : Int} (h : ¬ bt a b c = 0) : b ≤ a ∧ a ≤ c := by
  unfold bt at h
  split at h
  · assumption
  · exact absurd rfl h
theorem bt0 {a b c : Int} (h : bt a b c = 0) : ¬ (b ≤ a ∧ a ≤ c) := by
  unfold bt at h
  split at h
  · cases h
  · assumption

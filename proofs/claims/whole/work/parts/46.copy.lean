/-! ===== System.arraycopy of four ===== -/
def cp4 (μ : MM) (x0 x1 : Nat) : MM := fun c i => if c = x1 ∧ 0 ≤ i ∧ i < 4 then μ x0 i else μ c i
theorem cp4_cell {μ : MM} {x0 x1 c : Nat} (h : c ≠ x1) : cp4 μ x0 x1 c = μ c := by
  funext i
  unfold cp4
  rw [if_neg (fun q => h q.1)]
theorem rdC_cp4 {κ : KX} {μ : MM} {ν : ML} {x0 x1 : Nat} (k' : Nat) (sh : SH) (h : k' ≠ x1) : rdC κ (cp4 μ x0 x1) ν k' sh = rdC κ μ ν k' sh := by
  rcases sh with ⟨t, n⟩ | ⟨ci, fs⟩
  · simp only [rdC, rdA, cp4_cell h]
  · have e : rdF κ (cp4 μ x0 x1) k' = rdF κ μ k' := by
      funext i f
      cases f <;> simp [rdF, cp4_cell h]
    simp only [rdC, e]
section CPY
variable {κ : KX} {cx : MX} {R : Room} {Qf : List Frame → Array Value → State → State → Prop} {cells slots : Nat} {S : List SH} {pc : Nat} {ls r : List AV} {μ : MM} {ν : ML}
theorem aw_copy {idx p1 x0 x1 n0 n1 : Nat} (hd : decode cx.2.1 pc = .ok (.invokestatic idx, 3)) (hl : okL p1 (.methodLink cx.1.cls idx arraycopyName) = true) (hx0 : S[x0]? = some (.inl (0, n0))) (hx1 : S[x1]? = some (.inl (0, n1))) (h40 : 4 ≤ n0) (h41 : 4 ≤ n1) (hrest : 2 * r.length ≤ 8) (hR : 1 ≤ R.frames ∧ 8 + (nativeFrameWords "java/lang/System" "arraycopy" 5 + 11) ≤ R.locals)
    (k : AW κ cx R Qf cells slots S (pc + 3) ls r (cp4 μ x0 x1) ν) : AW κ cx R Qf cells slots S pc ls (aI 4 :: aI 0 :: aR x1 :: aI 0 :: aR x0 :: r) μ ν := by
  intro hS p l e s m args below meth c F H locs lsA hs hW hl0
  obtain ⟨hexec, hb, -, hml, hown, hts, -, -, hK, -⟩ := id F
  intro T hT X
  have hc0 : H[κ.1 + x0]? = some (vp_cell _ (n0, .inl (fun j : Nat => Int32.ofInt (μ x0 (j : Int))))) := hW.2 x0 _ (wsA_in hx0)
  have hc1 : H[κ.1 + x1]? = some (vp_cell _ (n1, .inl (fun j : Nat => Int32.ofInt (μ x1 (j : Int))))) := hW.2 x1 _ (wsA_in hx1)
  obtain ⟨-, k0, hk0, cm0, hkk0⟩ := (hK.2 0 _ rfl).1 n0 (fun j => .int (Int32.ofInt (μ x0 (j : Int))))
  obtain ⟨-, k1, hk1, cm1, hkk1⟩ := (hK.2 0 _ rfl).1 n1 (fun j => .int (Int32.ofInt (μ x1 (j : Int))))
  have e4 : (Int32.ofInt 4).toNatClampNeg = 4 := by decide
  have e0 : (Int32.ofInt 0).toNatClampNeg = 0 := by decide
  obtain ⟨vm', X', step⟩ := X.arraycopy hexec hown (hts _ (okL_mem hl)) (hts _ (okL_mem (pos := 513) (by decide +kernel))) (hts _ (okL_mem (pos := 512) (by decide +kernel))) (hts _ (okL_mem (pos := 55) (by decide +kernel))) (src := κ.1 + x0) (dst := κ.1 + x1) (cs := vp_cell (κ.2.2.2.1 0) (n0, .inl (fun j : Nat => Int32.ofInt (μ x0 (j : Int))))) (cd := vp_cell (κ.2.2.2.1 0) (n1, .inl (fun j : Nat => Int32.ofInt (μ x1 (j : Int))))) (srcPos := Int32.ofInt 0) (destPos := Int32.ofInt 0) (n := Int32.ofInt 4) (by rw [hT]; exact hc0) (by rw [hT]; exact hc1)
    (fun _ h => by cases h) (fun _ h => by cases h) (fun h => by cases h) (fun h => by cases h) hk0 hk1 hkk0 hkk1 (by simp [refKind]) (by decide) (by decide) (by decide)
    (by show ¬ _ > ((arrV _ n0 (fun j => .int (Int32.ofInt (μ x0 (j : Int))))).slots.size : Int); rw [arrV_size]; have e : (Int32.ofInt 0).toInt + (Int32.ofInt 4).toInt = 4 := by decide
        rw [e]; omega)
    (by show ¬ _ > ((arrV _ n1 (fun j => .int (Int32.ofInt (μ x1 (j : Int))))).slots.size : Int); rw [arrV_size]; have e : (Int32.ofInt 0).toInt + (Int32.ofInt 4).toInt = 4 := by decide
        rw [e]; omega)
    (fun vm₁ _ i hi => by
      rw [e4] at hi
      rw [e0]
      show fits FieldType.int ((arrV (κ.2.2.2.1 0) n0 (fun j : Nat => Value.int (Int32.ofInt (μ x0 (j : Int))))).slots.getD (0 + i) .null) = true ∧ (T.setVm vm₁).takes cm1 ((arrV (κ.2.2.2.1 0) n0 (fun j : Nat => Value.int (Int32.ofInt (μ x0 (j : Int))))).slots.getD (0 + i) .null)
      have e : (arrV (κ.2.2.2.1 0) n0 (fun j : Nat => Value.int (Int32.ofInt (μ x0 (j : Int))))).slots.getD (0 + i) .null = .int (Int32.ofInt (μ x0 ((0 + i : Nat) : Int))) := by
        rw [Array.getD_eq_getD_getElem?, arrV_read _ _ (by omega)]
        rfl
      refine ⟨?_, ?_⟩
      · rw [e]
        rfl
      · rw [e]
        exact trivial)
    (g := F0 m pc lsA (.int (Int32.ofInt 4) :: .int (Int32.ofInt 0) :: .ref (κ.1 + x1) :: .int (Int32.ofInt 0) :: .ref (κ.1 + x0) :: r.map (cvA κ))) rfl (by rw [hml, hl0.1]) (rest := r.map (cvA κ)) rfl (by rw [hb]; exact hd) hR.1 (by have := cat_rest (κ := κ) hrest hR.2; show 2 * 0 + _ + _ ≤ _; omega)
  have ec : va_cpy (fun j : Nat => Int32.ofInt (μ x0 (j : Int))) (fun j : Nat => Int32.ofInt (μ x1 (j : Int))) 0 0 4 = fun j : Nat => Int32.ofInt (cp4 μ x0 x1 x1 (j : Int)) := by
    funext j
    unfold va_cpy cp4
    by_cases hj : j < 4
    · rw [if_pos ⟨by omega, by omega⟩, if_pos ⟨rfl, by omega, by omega⟩, show 0 + (j - 0) = j by omega]
    · rw [if_neg (by omega), if_neg (by omega)]
  have e1 : copied (vp_cell (κ.2.2.2.1 0) (n0, .inl (fun j : Nat => Int32.ofInt (μ x0 (j : Int))))) (vp_cell (κ.2.2.2.1 0) (n1, .inl (fun j : Nat => Int32.ofInt (μ x1 (j : Int))))) (Int32.ofInt 0) (Int32.ofInt 0) (Int32.ofInt 4) = vp_cell (κ.2.2.2.1 0) (n1, .inl (fun j : Nat => Int32.ofInt (cp4 μ x0 x1 x1 (j : Int)))) := by
    rw [← ec]
    exact va_copied (fun z => Value.int z) (κ.2.2.2.1 0) (κ.2.2.2.1 0) (sp := 0) (dp := 0) (n := 4) _ _ h40
  obtain ⟨cell, hcell⟩ : ∃ q, q = vp_cell (κ.2.2.2.1 0) (n1, .inl (fun j : Nat => Int32.ofInt (cp4 μ x0 x1 x1 (j : Int)))) := ⟨_, rfl⟩
  rw [← hcell] at e1
  have X2 := X'
  have step2 := step
  rw [e1] at X2 step2
  have hl1 : κ.1 + x1 < H.size := (Array.getElem?_eq_some_iff.mp hc1).1
  have hheap : ((T.setVm vm').setCell (κ.1 + x1) cell).heap = H.setIfInBounds (κ.1 + x1) cell := by rw [← hT]; rfl
  have oq : ∀ q : Nat, q ≠ κ.1 + x1 → (H.setIfInBounds (κ.1 + x1) cell)[q]? = H[q]? := fun q hq => by simp [Array.getElem?_setIfInBounds, Ne.symm hq]
  have am : lwA κ (κ.1 + x1) := Nat.le_add_right _ _
  have sz : (H.setIfInBounds (κ.1 + x1) cell).size = H.size := by simp
  have at1 : (H.setIfInBounds (κ.1 + x1) cell)[κ.1 + x1]? = some cell := by simp [Array.getElem?_setIfInBounds, hl1]
  obtain ⟨t, a1, b1⟩ := k hS p l e s m args below meth c F (H.setIfInBounds (κ.1 + x1) cell) _ lsA ⟨by rw [sz]; exact hs.1, fun q g1 g2 => by
      rw [oq q (fun w => g2 (by rw [w]; exact am))]
      exact hs.2.1 q g1 g2, fun q hq => by
      rcases List.mem_append.mp hq with h | h
      · exact hs.2.2 q h
      · obtain ⟨z, -, hz⟩ := List.mem_map.mp h
        rw [← hz]
        exact am⟩ (hW.put hx1 sz oq (by show (H.setIfInBounds (κ.1 + x1) cell)[κ.1 + x1]? = some _; rw [at1, hcell]; rfl) (fun k' sh' h => rdC_cp4 k' sh' h)) hl0 _ hheap X2
  exact ⟨t, step2 t a1, b1⟩
end CPY

/-! ===== the whole relation between class and reference ===== -/
theorem SR.on {cs ds : List Nat} {μ μ' : MM} (h : SR cs μ μ') (hd : ds.all (fun c => decide (c ∉ cs)) = true) : ∀ c, c ∈ ds → μ' c = μ c := fun c hc => h c (of_decide_eq_true (List.all_eq_true.mp hd c hc))
theorem RT.e {μ μ' : MM} (h : RT μ) (e : ∀ c, c ∈ csT → μ' c = μ c) : RT μ' := by
  unfold RT PR at h ⊢
  rw [e 34 (by decide), e 35 (by decide), e 36 (by decide), e 37 (by decide), e 63 (by decide), e 64 (by decide), e 65 (by decide), e 66 (by decide)]
  exact h
theorem RG.e {μ μ' : MM} (h : RG μ) (e : ∀ c, c ∈ csG → μ' c = μ c) : RG μ' := by
  unfold RG PR at h ⊢
  rw [e 50 (by decide), e 72 (by decide)]
  exact h
theorem RK.e {μ μ' : MM} (h : RK μ) (e : ∀ c, c ∈ csK → μ' c = μ c) : RK μ' := by
  unfold RK PR at h ⊢
  rw [e 48 (by decide), e 71 (by decide)]
  exact h
theorem RN.e {μ μ' : MM} (h : RN μ) (e : ∀ c, c ∈ csN → μ' c = μ c) : RN μ' := by
  unfold RN at h ⊢
  rw [e 52 (by decide), e 53 (by decide), e 54 (by decide), e 73 (by decide), e 74 (by decide), e 75 (by decide)]
  exact h
abbrev csS : List Nat := [1, 58]
theorem RS.e {μ μ' : MM} (h : RS μ) (e : ∀ c, c ∈ csS → μ' c = μ c) : RS μ' := by
  unfold RS at h ⊢
  rw [e 1 (by decide), e 58 (by decide)]
  exact h
theorem RR.e {μ μ' : MM} {ν : ML} (h : RR μ ν) (e : ∀ c, c ∈ csR → μ' c = μ c) (e55 : μ' 55 16 = μ 55 16) : RR μ' ν := by
  unfold RR rgt PR at h ⊢
  rw [e 38 (by decide), e 39 (by decide), e 40 (by decide), e 41 (by decide), e 42 (by decide), e 43 (by decide), e 44 (by decide), e 46 (by decide), e 67 (by decide), e 68 (by decide), e 69 (by decide), e 70 (by decide), e55]
  exact h
theorem RFi.e {μ μ' : MM} (h : RFi μ) (e : ∀ c, c ∈ csFi → μ' c = μ c) (e4 : μ' 55 4 = μ 55 4) (e6 : μ' 55 6 = μ 55 6) : RFi μ' := by
  unfold RFi PR at h ⊢
  rw [e 14 (by decide), e 15 (by decide), e 16 (by decide), e 59 (by decide), e 60 (by decide), e4, e6]
  exact h
abbrev csU : List Nat := [18, 61]
theorem RU.e {μ μ' : MM} (h : RU μ) (e : ∀ c, c ∈ csU → μ' c = μ c) (e17 : μ' 17 1 = μ 17 1) (e8 : μ' 55 8 = μ 55 8) : RU μ' := by
  unfold RU PR at h ⊢
  rw [e 18 (by decide), e 61 (by decide), e17, e8]
  exact h
abbrev csA : List Nat := [19, 20, 21, 22, 62]
theorem RA.e {μ μ' : MM} (h : RA μ) (e : ∀ c, c ∈ csA → μ' c = μ c) (e17 : μ' 17 6 = μ 17 6 ∧ μ' 17 7 = μ 17 7) (e10 : μ' 55 10 = μ 55 10) : RA μ' := h.fr e17 (e 19 (by decide)) (e 20 (by decide)) (e 21 (by decide)) (e 22 (by decide)) (e 62 (by decide)) e10
abbrev csX : List Nat := [14, 15, 16, 19, 20, 21, 22, 23, 24]
theorem RW.e {μ μ' : MM} (h : RW μ) (e : ∀ c, c ∈ csX → μ' c = μ c) (e0 : μ' 0 11 = μ 0 11) (e1 : μ' 1 2 = μ 1 2) (e17 : μ' 17 6 = μ 17 6 ∧ μ' 17 7 = μ 17 7) : RW μ' := h.fr e0 (e 23 (by decide)) (e 24 (by decide)) (e 15 (by decide)) (e 16 (by decide)) (e 14 (by decide)) e1 e17 (e 19 (by decide)) (e 20 (by decide)) (e 21 (by decide)) (e 22 (by decide))
abbrev csF : List Nat := [3, 5, 56, 57]
theorem RF.e {μ μ' : MM} (h : RF μ) (e : ∀ c, c ∈ csF → μ' c = μ c) (e2 : μ' 2 7 = μ 2 7) (e0 : μ' 55 0 = μ 55 0) : RF μ' := h.fr2 e2 (e 3 (by decide)) (e 5 (by decide)) e0 (e 56 (by decide)) (e 57 (by decide))
abbrev csC : List Nat := [3, 4, 5, 6, 7, 8]
theorem RC.e {μ μ' : MM} (h : RC μ) (e : ∀ c, c ∈ csC → μ' c = μ c) (e2 : μ' 2 7 = μ 2 7 ∧ μ' 2 8 = μ 2 8) (e1 : μ' 1 0 = μ 1 0) : RC μ' := by
  obtain ⟨a, b⟩ := h
  refine ⟨by rw [e2.1, e2.2]; exact a, fun f h0 h1 => ?_⟩
  rw [e2.2] at h1
  exact (b f h0 h1).congr (fun _ _ _ => by rw [e 3 (by decide)]) (e 4 (by decide)) (by rw [e 5 (by decide)]) e1 (e 6 (by decide)) (e 7 (by decide)) (e 8 (by decide))
abbrev csY : List Nat := [14, 15, 16, 26, 27]
theorem RB.e {μ μ' : MM} (h : RB μ) (e : ∀ c, c ∈ csY → μ' c = μ c) (e0 : μ' 0 12 = μ 0 12) (e1 : μ' 1 2 = μ 1 2) : RB μ' := h.fr e0 (e 26 (by decide)) (e 27 (by decide)) (e 15 (by decide)) (e 16 (by decide)) (e 14 (by decide)) e1
def Rel (μ : MM) (ν : ML) : Prop := RT μ ∧ RG μ ∧ RK μ ∧ RN μ ∧ RS μ ∧ RR μ ν ∧ RFi μ ∧ RU μ ∧ RA μ ∧ RW μ ∧ RF μ ∧ RC μ ∧ RB μ
theorem cf {μ μ' : MM} {cs : List Nat} (h : SR cs μ μ') {c : Nat} (hc : c ∉ cs) (i : Int) : μ' c i = μ c i := by rw [h c hc]
theorem rel_T {μ μ2 : MM} {ν : ML} (h : Rel μ ν) (r : RT μ2) (S : SR csT μ μ2) : Rel μ2 ν := by
  obtain ⟨hT, hG, hK, hN, hS, hR, hFi, hU, hA, hW, hF, hC, hB⟩ := h
  exact ⟨r, hG.e (S.on (by decide)), hK.e (S.on (by decide)), hN.e (S.on (by decide)), hS.e (S.on (by decide)), hR.e (S.on (by decide)) (cf S (by decide) _), hFi.e (S.on (by decide)) (cf S (by decide) _) (cf S (by decide) _), hU.e (S.on (by decide)) (cf S (by decide) _) (cf S (by decide) _), hA.e (S.on (by decide)) ⟨cf S (by decide) _, cf S (by decide) _⟩ (cf S (by decide) _), hW.e (S.on (by decide)) (cf S (by decide) _) (cf S (by decide) _) ⟨cf S (by decide) _, cf S (by decide) _⟩, hF.e (S.on (by decide)) (cf S (by decide) _) (cf S (by decide) _), hC.e (S.on (by decide)) ⟨cf S (by decide) _, cf S (by decide) _⟩ (cf S (by decide) _), hB.e (S.on (by decide)) (cf S (by decide) _) (cf S (by decide) _)⟩
theorem rel_G {μ μ2 : MM} {ν : ML} (h : Rel μ ν) (r : RG μ2) (S : SR csG μ μ2) : Rel μ2 ν := by
  obtain ⟨hT, hG, hK, hN, hS, hR, hFi, hU, hA, hW, hF, hC, hB⟩ := h
  exact ⟨hT.e (S.on (by decide)), r, hK.e (S.on (by decide)), hN.e (S.on (by decide)), hS.e (S.on (by decide)), hR.e (S.on (by decide)) (cf S (by decide) _), hFi.e (S.on (by decide)) (cf S (by decide) _) (cf S (by decide) _), hU.e (S.on (by decide)) (cf S (by decide) _) (cf S (by decide) _), hA.e (S.on (by decide)) ⟨cf S (by decide) _, cf S (by decide) _⟩ (cf S (by decide) _), hW.e (S.on (by decide)) (cf S (by decide) _) (cf S (by decide) _) ⟨cf S (by decide) _, cf S (by decide) _⟩, hF.e (S.on (by decide)) (cf S (by decide) _) (cf S (by decide) _), hC.e (S.on (by decide)) ⟨cf S (by decide) _, cf S (by decide) _⟩ (cf S (by decide) _), hB.e (S.on (by decide)) (cf S (by decide) _) (cf S (by decide) _)⟩
theorem rel_K {μ μ2 : MM} {ν : ML} (h : Rel μ ν) (r : RK μ2) (S : SR csK μ μ2) : Rel μ2 ν := by
  obtain ⟨hT, hG, hK, hN, hS, hR, hFi, hU, hA, hW, hF, hC, hB⟩ := h
  exact ⟨hT.e (S.on (by decide)), hG.e (S.on (by decide)), r, hN.e (S.on (by decide)), hS.e (S.on (by decide)), hR.e (S.on (by decide)) (cf S (by decide) _), hFi.e (S.on (by decide)) (cf S (by decide) _) (cf S (by decide) _), hU.e (S.on (by decide)) (cf S (by decide) _) (cf S (by decide) _), hA.e (S.on (by decide)) ⟨cf S (by decide) _, cf S (by decide) _⟩ (cf S (by decide) _), hW.e (S.on (by decide)) (cf S (by decide) _) (cf S (by decide) _) ⟨cf S (by decide) _, cf S (by decide) _⟩, hF.e (S.on (by decide)) (cf S (by decide) _) (cf S (by decide) _), hC.e (S.on (by decide)) ⟨cf S (by decide) _, cf S (by decide) _⟩ (cf S (by decide) _), hB.e (S.on (by decide)) (cf S (by decide) _) (cf S (by decide) _)⟩
theorem rel_N {μ μ2 : MM} {ν : ML} (h : Rel μ ν) (r : RN μ2) (S : SR csN μ μ2) : Rel μ2 ν := by
  obtain ⟨hT, hG, hK, hN, hS, hR, hFi, hU, hA, hW, hF, hC, hB⟩ := h
  exact ⟨hT.e (S.on (by decide)), hG.e (S.on (by decide)), hK.e (S.on (by decide)), r, hS.e (S.on (by decide)), hR.e (S.on (by decide)) (cf S (by decide) _), hFi.e (S.on (by decide)) (cf S (by decide) _) (cf S (by decide) _), hU.e (S.on (by decide)) (cf S (by decide) _) (cf S (by decide) _), hA.e (S.on (by decide)) ⟨cf S (by decide) _, cf S (by decide) _⟩ (cf S (by decide) _), hW.e (S.on (by decide)) (cf S (by decide) _) (cf S (by decide) _) ⟨cf S (by decide) _, cf S (by decide) _⟩, hF.e (S.on (by decide)) (cf S (by decide) _) (cf S (by decide) _), hC.e (S.on (by decide)) ⟨cf S (by decide) _, cf S (by decide) _⟩ (cf S (by decide) _), hB.e (S.on (by decide)) (cf S (by decide) _) (cf S (by decide) _)⟩
theorem rel_R {μ μ2 : MM} {ν ν2 : ML} (h : Rel μ ν) (r : RR μ2 ν2) (S : SR (55 :: csR) μ μ2) (F : SF [16] μ μ2) : Rel μ2 ν2 := by
  obtain ⟨hT, hG, hK, hN, hS, hR, hFi, hU, hA, hW, hF, hC, hB⟩ := h
  exact ⟨hT.e (S.on (by decide)), hG.e (S.on (by decide)), hK.e (S.on (by decide)), hN.e (S.on (by decide)), hS.e (S.on (by decide)), r, hFi.e (S.on (by decide)) (F _ (by decide)) (F _ (by decide)), hU.e (S.on (by decide)) (cf S (by decide) _) (F _ (by decide)), hA.e (S.on (by decide)) ⟨cf S (by decide) _, cf S (by decide) _⟩ (F _ (by decide)), hW.e (S.on (by decide)) (cf S (by decide) _) (cf S (by decide) _) ⟨cf S (by decide) _, cf S (by decide) _⟩, hF.e (S.on (by decide)) (cf S (by decide) _) (F _ (by decide)), hC.e (S.on (by decide)) ⟨cf S (by decide) _, cf S (by decide) _⟩ (cf S (by decide) _), hB.e (S.on (by decide)) (cf S (by decide) _) (cf S (by decide) _)⟩
theorem rel_R0 {μ μ2 : MM} {ν ν2 : ML} (h : Rel μ ν) (r : RR μ2 ν2) (S : SR csR μ μ2) : Rel μ2 ν2 := rel_R h r (S.mono (fun c hc => List.mem_cons_of_mem _ hc)) (fun j _ => by rw [S 55 (by decide)])
theorem rel_F {μ μ2 : MM} {ν : ML} (h : Rel μ ν) (r : RFi μ2) (S : SR (0 :: 55 :: csFi) μ μ2) (F : SF [4, 6] μ μ2) (g : FG μ2) : Rel μ2 ν := by
  obtain ⟨hT, hG, hK, hN, hS, hR, hFi, hU, hA, hW, hF, hC, hB⟩ := h
  exact ⟨hT.e (S.on (by decide)), hG.e (S.on (by decide)), hK.e (S.on (by decide)), hN.e (S.on (by decide)), hS.e (S.on (by decide)), hR.e (S.on (by decide)) (F _ (by decide)), r, hU.e (S.on (by decide)) (cf S (by decide) _) (F _ (by decide)), hA.e (S.on (by decide)) ⟨cf S (by decide) _, cf S (by decide) _⟩ (F _ (by decide)), Or.inl g.1, hF.e (S.on (by decide)) (cf S (by decide) _) (F _ (by decide)), hC.e (S.on (by decide)) ⟨cf S (by decide) _, cf S (by decide) _⟩ (cf S (by decide) _), Or.inl g.2⟩
theorem rel_U {μ μ2 : MM} {ν : ML} (h : Rel μ ν) (r : RU μ2) (S : SR [17, 18, 55, 61] μ μ2) (F : SF [8] μ μ2) (j : ∀ j : Int, j ≠ 1 → μ2 17 j = μ 17 j) : Rel μ2 ν := by
  obtain ⟨hT, hG, hK, hN, hS, hR, hFi, hU, hA, hW, hF, hC, hB⟩ := h
  exact ⟨hT.e (S.on (by decide)), hG.e (S.on (by decide)), hK.e (S.on (by decide)), hN.e (S.on (by decide)), hS.e (S.on (by decide)), hR.e (S.on (by decide)) (F _ (by decide)), hFi.e (S.on (by decide)) (F _ (by decide)) (F _ (by decide)), r, hA.e (S.on (by decide)) ⟨j _ (by decide), j _ (by decide)⟩ (F _ (by decide)), hW.e (S.on (by decide)) (cf S (by decide) _) (cf S (by decide) _) ⟨j _ (by decide), j _ (by decide)⟩, hF.e (S.on (by decide)) (cf S (by decide) _) (F _ (by decide)), hC.e (S.on (by decide)) ⟨cf S (by decide) _, cf S (by decide) _⟩ (cf S (by decide) _), hB.e (S.on (by decide)) (cf S (by decide) _) (cf S (by decide) _)⟩
theorem rel_A {μ μ2 : MM} {ν : ML} (h : Rel μ ν) (r : RU μ2) (a : RA μ2) (S : SR [0, 17, 19, 20, 21, 22, 55, 62] μ μ2) (F : SF [8, 10] μ μ2) (z : μ2 0 11 = 0) (j : ∀ j : Int, j ≠ 11 → μ2 0 j = μ 0 j) : Rel μ2 ν := by
  obtain ⟨hT, hG, hK, hN, hS, hR, hFi, hU, hA, hW, hF, hC, hB⟩ := h
  exact ⟨hT.e (S.on (by decide)), hG.e (S.on (by decide)), hK.e (S.on (by decide)), hN.e (S.on (by decide)), hS.e (S.on (by decide)), hR.e (S.on (by decide)) (F _ (by decide)), hFi.e (S.on (by decide)) (F _ (by decide)) (F _ (by decide)), r, a, Or.inl z, hF.e (S.on (by decide)) (cf S (by decide) _) (F _ (by decide)), hC.e (S.on (by decide)) ⟨cf S (by decide) _, cf S (by decide) _⟩ (cf S (by decide) _), hB.e (S.on (by decide)) (j _ (by decide)) (cf S (by decide) _)⟩
theorem rel_S {μ μ2 : MM} {ν : ML} (h : Rel μ ν) (r : RW μ2) (S : SR [0, 23, 24, 55, 81] μ μ2) (F : SF [31, 32, 33, 34] μ μ2) (j : ∀ j : Int, j ≠ 11 → μ2 0 j = μ 0 j) : Rel μ2 ν := by
  obtain ⟨hT, hG, hK, hN, hS, hR, hFi, hU, hA, hW, hF, hC, hB⟩ := h
  exact ⟨hT.e (S.on (by decide)), hG.e (S.on (by decide)), hK.e (S.on (by decide)), hN.e (S.on (by decide)), hS.e (S.on (by decide)), hR.e (S.on (by decide)) (F _ (by decide)), hFi.e (S.on (by decide)) (F _ (by decide)) (F _ (by decide)), hU.e (S.on (by decide)) (cf S (by decide) _) (F _ (by decide)), hA.e (S.on (by decide)) ⟨cf S (by decide) _, cf S (by decide) _⟩ (F _ (by decide)), r, hF.e (S.on (by decide)) (cf S (by decide) _) (F _ (by decide)), hC.e (S.on (by decide)) ⟨cf S (by decide) _, cf S (by decide) _⟩ (cf S (by decide) _), hB.e (S.on (by decide)) (j _ (by decide)) (cf S (by decide) _)⟩
theorem rel_B {μ μ2 : MM} {ν : ML} (h : Rel μ ν) (r : RB μ2) (S : SR [0, 25, 26, 27, 28, 29, 30, 31, 32, 55, 81, 82] μ μ2) (F : SF [31, 32, 33, 34] μ μ2) (j : ∀ j : Int, j ≠ 12 → μ2 0 j = μ 0 j) : Rel μ2 ν := by
  obtain ⟨hT, hG, hK, hN, hS, hR, hFi, hU, hA, hW, hF, hC, hB⟩ := h
  exact ⟨hT.e (S.on (by decide)), hG.e (S.on (by decide)), hK.e (S.on (by decide)), hN.e (S.on (by decide)), hS.e (S.on (by decide)), hR.e (S.on (by decide)) (F _ (by decide)), hFi.e (S.on (by decide)) (F _ (by decide)) (F _ (by decide)), hU.e (S.on (by decide)) (cf S (by decide) _) (F _ (by decide)), hA.e (S.on (by decide)) ⟨cf S (by decide) _, cf S (by decide) _⟩ (F _ (by decide)), hW.e (S.on (by decide)) (j _ (by decide)) (cf S (by decide) _) ⟨cf S (by decide) _, cf S (by decide) _⟩, hF.e (S.on (by decide)) (cf S (by decide) _) (F _ (by decide)), hC.e (S.on (by decide)) ⟨cf S (by decide) _, cf S (by decide) _⟩ (cf S (by decide) _), r⟩
theorem rel_C {μ μ2 : MM} {ν : ML} (h : Rel μ ν) (r : RF μ2) (rc : RC μ2) (S : SR [2, 3, 5, 55, 56, 57] μ μ2) (F : SF [0] μ μ2) : Rel μ2 ν := by
  obtain ⟨hT, hG, hK, hN, hS, hR, hFi, hU, hA, hW, hF, hC, hB⟩ := h
  exact ⟨hT.e (S.on (by decide)), hG.e (S.on (by decide)), hK.e (S.on (by decide)), hN.e (S.on (by decide)), hS.e (S.on (by decide)), hR.e (S.on (by decide)) (F _ (by decide)), hFi.e (S.on (by decide)) (F _ (by decide)) (F _ (by decide)), hU.e (S.on (by decide)) (cf S (by decide) _) (F _ (by decide)), hA.e (S.on (by decide)) ⟨cf S (by decide) _, cf S (by decide) _⟩ (F _ (by decide)), hW.e (S.on (by decide)) (cf S (by decide) _) (cf S (by decide) _) ⟨cf S (by decide) _, cf S (by decide) _⟩, r, rc, hB.e (S.on (by decide)) (cf S (by decide) _) (cf S (by decide) _)⟩
theorem rel_W {μ μ2 : MM} {ν ν2 : ML} (h : Rel μ ν) (r : RlW μ ν μ2 ν2) : Rel μ2 ν2 := by
  obtain ⟨hT, hG, hK, hN, hS, hR, hFi, hU, hA, hW, hF, hC, hB⟩ := h
  obtain ⟨rfl, rc, S, j⟩ := r
  exact ⟨hT.e (S.on (by decide)), hG.e (S.on (by decide)), hK.e (S.on (by decide)), hN.e (S.on (by decide)), hS.e (S.on (by decide)), hR.e (S.on (by decide)) (cf S (by decide) _), hFi.e (S.on (by decide)) (cf S (by decide) _) (cf S (by decide) _), hU.e (S.on (by decide)) (cf S (by decide) _) (cf S (by decide) _), hA.e (S.on (by decide)) ⟨cf S (by decide) _, cf S (by decide) _⟩ (cf S (by decide) _), hW.e (S.on (by decide)) (cf S (by decide) _) (cf S (by decide) _) ⟨cf S (by decide) _, cf S (by decide) _⟩, hF.e (S.on (by decide)) (j _ (by decide)) (cf S (by decide) _), rc, hB.e (S.on (by decide)) (cf S (by decide) _) (cf S (by decide) _)⟩
theorem rel_Set {μ μ2 : MM} {ν : ML} (h : Rel μ ν) (r : RS μ2) (S : SR [0, 1, 2, 58] μ μ2) (j : ∀ j : Int, j ≠ 8 → μ2 2 j = μ 2 j) (a : (μ2 1 0 = μ 1 0 ∧ μ2 2 8 = μ 2 8) ∨ μ2 2 8 = 0) (b : (μ2 1 2 = μ 1 2 ∧ μ2 0 = μ 0) ∨ FG μ2) : Rel μ2 ν := by
  obtain ⟨hT, hG, hK, hN, hS, hR, hFi, hU, hA, hW, hF, hC, hB⟩ := h
  refine ⟨hT.e (S.on (by decide)), hG.e (S.on (by decide)), hK.e (S.on (by decide)), hN.e (S.on (by decide)), r, hR.e (S.on (by decide)) (cf S (by decide) _), hFi.e (S.on (by decide)) (cf S (by decide) _) (cf S (by decide) _), hU.e (S.on (by decide)) (cf S (by decide) _) (cf S (by decide) _), hA.e (S.on (by decide)) ⟨cf S (by decide) _, cf S (by decide) _⟩ (cf S (by decide) _), ?_, hF.e (S.on (by decide)) (j _ (by decide)) (cf S (by decide) _), ?_, ?_⟩
  · rcases b with ⟨b1, b2⟩ | b
    · exact hW.e (S.on (by decide)) (by rw [b2]) b1 ⟨cf S (by decide) _, cf S (by decide) _⟩
    · exact Or.inl b.1
  · rcases a with ⟨a1, a2⟩ | a
    · exact hC.e (S.on (by decide)) ⟨j _ (by decide), a2⟩ a1
    · refine ⟨?_, fun f h0 h1 => by omega⟩
      have := hF.1
      have := j 7 (by decide)
      omega
  · rcases b with ⟨b1, b2⟩ | b
    · exact hB.e (S.on (by decide)) (by rw [b2]) b1
    · exact Or.inl b.2
theorem LawX.ok {Rl : MM → ML → Prop} {κ : KX} {cx cm : MX} {As : List AV} {μ : MM} {ν : ML} (h : LawX Rl κ cx cm As μ ν) (hr : ∀ μ2 ν2, Rl μ2 ν2 → Rel μ2 ν2) : LawOK Rel κ cx cm As μ ν := by
  obtain ⟨z, μ1, ν1, μ2, h1, h2, hz, h3⟩ := h
  refine ⟨fun r μ' ν' => r = some (aI z) ∧ μ' = μ1 ∧ ν' = ν1, AMet.eqv h1 ⟨rfl, rfl, rfl⟩, fun r μ' ν' hP => ?_⟩
  obtain ⟨rfl, rfl, rfl⟩ := hP
  exact ⟨z, rfl, hz, AMet.eqv h2 ⟨rfl, hr _ _ h3⟩⟩
theorem LawM.ok {Rl : MM → Prop} {cs : List Nat} {κ : KX} {cx cm : MX} {As : List AV} {μ : MM} {ν : ML} (h : LawM Rl cs κ cx cm As μ ν) (hr : ∀ μ2, Rl μ2 → SR cs μ μ2 → Rel μ2 ν) : LawOK Rel κ cx cm As μ ν := by
  obtain ⟨z, μ1, μ2, h1, h2, hz, h3, h4⟩ := h
  refine LawX.ok (Rl := fun μ' ν' => ν' = ν ∧ Rl μ' ∧ SR cs μ μ') ⟨z, μ1, ν, μ2, h1, h2, hz, rfl, h3, h4⟩ (fun μ' ν' q => ?_)
  obtain ⟨rfl, q1, q2⟩ := q
  exact hr μ' q1 q2
theorem LawN.ok {Rl : MM → ML → Prop} {cs : List Nat} {κ : KX} {cx cm : MX} {As : List AV} {μ : MM} {ν : ML} (h : LawN Rl cs κ cx cm As μ ν) (hr : ∀ μ2 ν2, Rl μ2 ν2 → SR cs μ μ2 → Rel μ2 ν2) : LawOK Rel κ cx cm As μ ν := by
  obtain ⟨z, μ1, ν1, μ2, h1, h2, hz, h3, h4⟩ := h
  exact LawX.ok (Rl := fun μ' ν' => Rl μ' ν' ∧ SR cs μ μ') ⟨z, μ1, ν1, μ2, h1, h2, hz, h3, h4⟩ (fun μ' ν' q => hr μ' ν' q.1 q.2)
theorem LawOK.mo {Rl Rl' : MM → ML → Prop} {κ : KX} {cx cm : MX} {As : List AV} {μ : MM} {ν : ML} (h : LawOK Rl κ cx cm As μ ν) (hr : ∀ μ2 ν2, Rl μ2 ν2 → Rl' μ2 ν2) : LawOK Rl' κ cx cm As μ ν := by
  obtain ⟨P, h1, h2⟩ := h
  refine ⟨P, h1, fun r μ1 ν1 hP => ?_⟩
  obtain ⟨z, e, hz, hM⟩ := h2 r μ1 ν1 hP
  refine ⟨z, e, hz, AMet.mono hM (fun r S μ' ν' q => ?_)⟩
  exact ⟨q.1, q.2.1, hr _ _ q.2.2⟩
theorem LawF.ok {κ : KX} {cx cm : MX} {As : List AV} {μ : MM} {ν : ML} (hR : Rel μ ν) (h : LawF κ cx cm As μ ν) : LawOK Rel κ cx cm As μ ν := LawX.ok h (fun μ2 ν2 q => by
  obtain ⟨rfl, q | ⟨q1, q2, q3, q4⟩⟩ := q
  · rw [q]; exact hR
  · exact rel_F hR q1 q2 q3 q4)
theorem LawU.ok {κ : KX} {cx cm : MX} {As : List AV} {μ : MM} {ν : ML} (hR : Rel μ ν) (h : LawU κ cx cm As μ ν) : LawOK Rel κ cx cm As μ ν := LawX.ok h (fun μ2 ν2 q => by
  obtain ⟨rfl, q1, q2, q3, q4⟩ := q
  exact rel_U hR q1 q2 q3 q4)
theorem LawR.ok {κ : KX} {cx cm : MX} {As : List AV} {μ : MM} {ν : ML} (hR : Rel μ ν) (h : LawR κ cx cm As μ ν) : LawOK Rel κ cx cm As μ ν := LawX.ok h (fun μ2 ν2 q => by
  obtain ⟨rfl, q | ⟨q1, q2, q3, q4, q5, q6⟩⟩ := q
  · rw [q]; exact hR
  · exact rel_A hR q1 q2 q3 q4 q5 q6)
theorem LawS.ok {κ : KX} {cx cm : MX} {As : List AV} {μ : MM} {ν : ML} (hR : Rel μ ν) (h : LawS κ cx cm As μ ν) : LawOK Rel κ cx cm As μ ν := LawOK.mo h (fun μ2 ν2 q => by
  obtain ⟨rfl, q1, q2, q3, q4⟩ := q
  exact rel_S hR q4 q1 q2 q3)
theorem LawBs.ok {κ : KX} {cx cm : MX} {As : List AV} {μ : MM} {ν : ML} (hR : Rel μ ν) (h : LawBs κ cx cm As μ ν) : LawOK Rel κ cx cm As μ ν := LawOK.mo h (fun μ2 ν2 q => by
  obtain ⟨rfl, q1, q2, q3, q4⟩ := q
  exact rel_B hR q4 q1 q2 q3)
theorem LawC.ok {κ : KX} {cx cm : MX} {As : List AV} {μ : MM} {ν : ML} (hR : Rel μ ν) (h : LawC κ cx cm As μ ν) : LawOK Rel κ cx cm As μ ν := LawX.ok h (fun μ2 ν2 q => by
  obtain ⟨rfl, q1, q2, q3, q4⟩ := q
  exact rel_C hR q1 q2 q3 q4)
theorem LawE.ok {κ : KX} {cx cm : MX} {As : List AV} {μ : MM} {ν : ML} (hR : Rel μ ν) (h : LawE κ cx cm As μ ν) : LawOK Rel κ cx cm As μ ν := LawX.ok h (fun μ2 ν2 q => by
  obtain ⟨rfl, rfl⟩ := q
  exact hR)
theorem LawT.ok {κ : KX} {cx cm : MX} {As : List AV} {μ : MM} {ν : ML} (hR : Rel μ ν) (h : LawT κ cx cm As μ ν) : LawOK Rel κ cx cm As μ ν := LawX.ok h (fun μ2 ν2 q => by
  obtain ⟨rfl, q | ⟨q1, q2, q3, q4, q5⟩⟩ := q
  · rw [q]; exact hR
  · exact rel_Set hR q1 q2 q3 q4 q5)
theorem LawW.ok {κ : KX} {cx cm : MX} {As : List AV} {μ : MM} {ν : ML} (hR : Rel μ ν) (h : LawW κ cx cm As μ ν) : LawOK Rel κ cx cm As μ ν := LawOK.mo h (fun μ2 ν2 q => rel_W hR q)
theorem RS.s2 {μ : MM} (h : RS μ) : 1 ≤ μ 1 2 ∧ μ 1 2 ≤ 8 ∧ μ 58 2 = μ 1 2 := by
  have := h 2 (by decide) (by decide)
  have e0 : stv 0 2 = 1 := rfl
  have e1 : stv 1 2 = 8 := rfl
  omega
section Calls
variable {κ : KX} {μ : MM} {ν : ML} {a b c d e : Int}
theorem q_frame (h : Rel μ ν) : LawOK Rel κ mX11_frame mX12_frame [] μ ν := (law_frame h.2.2.2.2.2.2.2.2.2.2.1 h.2.2.2.2.2.2.2.2.2.2.2.1).ok h
theorem q_dot (h : Rel μ ν) (ha : R32 a) (hb : R32 b) (hc : R32 c) : LawOK Rel κ mX11_dot mX12_dot [aI a, aI b, aI c] μ ν := (law_dot h.2.2.2.2.2.2.2.2.2.2.1 h.2.2.2.2.2.2.2.2.2.2.2.1 ha hb hc).ok h
theorem q_key (h : Rel μ ν) (ha : R32 a) (hb : 0 ≤ b ∧ b ≤ 1) : LawOK Rel κ mX11_key mX12_key [aI a, aI b] μ ν := (law_key h.2.2.2.2.2.2.2.2.2.2.1 h.2.2.2.2.2.2.2.2.2.2.2.1 ha hb).ok h
theorem q_set (h : Rel μ ν) (ha : R32 a) (hb : R32 b) : LawOK Rel κ mX11_set mX12_set [aI a, aI b] μ ν := (law_set h.2.2.2.2.1 (by have := h.2.2.2.2.2.2.2.2.2.2.1.1; have := h.2.2.2.2.2.2.2.2.2.2.2.1.1; omega) ha hb).ok h
theorem q_way (h : Rel μ ν) (ha : R32 a) (hb : R32 b) : LawOK Rel κ mX11_way mX12_way [aI a, aI b] μ ν := (law_way h.2.2.2.2.2.2.2.2.2.2.1 h.2.2.2.2.2.2.2.2.2.2.2.1 h.2.2.2.2.1 ha hb).ok h
theorem q_opened (h : Rel μ ν) (ha : R32 a) (hb : R32 b) : LawOK Rel κ mX11_opened mX12_opened [aI a, aI b] μ ν := (law_opened h.2.2.2.2.2.2.2.2.2.2.1 h.2.2.2.2.2.2.2.2.2.2.2.1 h.2.2.2.2.1 ha hb).ok h
theorem q_of (h : Rel μ ν) (ha : R32 a) (hb : R32 b) : LawOK Rel κ mX11_of mX12_of [aI a, aI b] μ ν := (law_of h.2.2.2.2.2.2.2.2.2.2.1 h.2.2.2.2.2.2.2.2.2.2.2.1 h.2.2.2.2.1 ha hb).ok h
theorem q_pieces (h : Rel μ ν) (ha : R32 a) : LawOK Rel κ mX11_pieces mX12_pieces [aI a] μ ν := (law_pieces h.2.2.2.2.2.2.1 ha).ok h
theorem q_bits (h : Rel μ ν) (ha : R32 a) (hb : R32 b) (hc : R32 c) : LawOK Rel κ mX11_bits mX12_bits [aI a, aI b, aI c] μ ν := (law_bits h.2.2.2.2.2.2.1 ha hb hc).ok h
theorem q_doors (h : Rel μ ν) (ha : R32 a) : LawOK Rel κ mX11_doors mX12_doors [aI a] μ ν := (law_doors h.2.2.2.2.2.2.1 ha).ok h
theorem q_line (h : Rel μ ν) (ha : R32 a) (hb : R32 b) (hc : R32 c) : LawOK Rel κ mX11_line mX12_line [aI a, aI b, aI c] μ ν := (law_line h.2.2.2.2.2.2.1 ha hb hc).ok h
theorem q_say (h : Rel μ ν) (ha : R32 a) : LawOK Rel κ mX11_say mX12_say [aI a] μ ν := (law_say h.2.2.2.2.2.2.2.1 ha).ok h
theorem q_wipe (h : Rel μ ν) : LawOK Rel κ mX11_wipe mX12_wipe [] μ ν := (law_wipe h.2.2.2.2.2.2.2.1).ok h
theorem q_fault (h : Rel μ ν) : LawOK Rel κ mX11_fault mX12_fault [] μ ν := (law_fault h.2.2.2.2.2.2.2.1).ok h
theorem q_rule (h : Rel μ ν) : LawOK Rel κ mX11_rule mX12_rule [] μ ν := (law_rule h.2.2.2.2.2.2.2.1).ok h
theorem Rel.fs {μ : MM} {ν : ML} (h : Rel μ ν) : FS μ := ⟨h.2.2.2.2.2.2.1, h.2.2.2.2.2.2.2.2.1, h.2.2.2.2.1.s2⟩
theorem q_show (h : Rel μ ν) (ha : R32 a) : LawOK Rel κ mX11_show mX12_show [aI a] μ ν := (law_show h.fs h.2.2.2.2.2.2.2.2.2.1 ha).ok h
theorem q_best (h : Rel μ ν) (ha : R32 a) : LawOK Rel κ mX11_best mX12_best [aI a] μ ν := (law_best h.fs h.2.2.2.2.2.2.2.2.2.2.2.2 ha).ok h
theorem q_town (h : Rel μ ν) (ha : R32 a) (hb : R32 b) (hc : R32 c) : LawOK Rel κ mX11_town mX12_town [aI a, aI b, aI c] μ ν := (law_town h.1 ha hb hc).ok (fun _ => rel_T h)
theorem q_weight (h : Rel μ ν) (ha : R32 a) (hb : R32 b) : LawOK Rel κ mX11_weight mX12_weight [aI a, aI b] μ ν := (law_weight h.1 ha hb).ok (fun _ => rel_T h)
theorem q_ask (h : Rel μ ν) (ha : R32 a) (hb : R32 b) (hc : R32 c) : LawOK Rel κ mX11_ask mX12_ask [aI a, aI b, aI c] μ ν := (law_ask h.1 ha hb hc).ok (fun _ => rel_T h)
theorem q_kept (h : Rel μ ν) (ha : R32 a) (hb : R32 b) : LawOK Rel κ mX11_kept mX12_kept [aI a, aI b] μ ν := (law_kept h.1 ha hb).ok (fun _ => rel_T h)
theorem q_right (h : Rel μ ν) (ha : R32 a) (hb : R32 b) (hc : R32 c) (hd : R32 d) (he : R32 e) : LawOK Rel κ mX11_right mX12_right [aI a, aI b, aI c, aI d, aI e] μ ν := (law_right h.2.2.2.2.2.1 ha hb hc hd he).ok (fun _ _ q => rel_R h q.1 q.2.1 q.2.2.1)
theorem q_land (h : Rel μ ν) (ha : R32 a) (hb : R32 b) : LawOK Rel κ mX11_land mX12_land [aI a, aI b] μ ν := (law_land h.2.2.2.2.2.1 ha hb).ok (fun _ _ => rel_R0 h)
theorem q_may (h : Rel μ ν) (ha : R32 a) (hb : R32 b) (hc : R32 c) : LawOK Rel κ mX11_may mX12_may [aI a, aI b, aI c] μ ν := (law_may h.2.2.2.2.2.1 ha hb hc).ok (fun _ _ => rel_R0 h)
theorem q_see (h : Rel μ ν) (ha : R32 a) (hb : R32 b) (hc : R32 c) (hd : R32 d) (he : R32 e) : LawOK Rel κ mX11_see mX12_see [aI a, aI b, aI c, aI d, aI e] μ ν := (law_see h.2.2.2.2.2.1 ha hb hc hd he).ok (fun _ _ => rel_R0 h)
theorem q_seen (h : Rel μ ν) (ha : R32 a) (hb : R32 b) (hc : R32 c) : LawOK Rel κ mX11_seen mX12_seen [aI a, aI b, aI c] μ ν := (law_seen h.2.2.2.2.2.1 ha hb hc).ok (fun _ _ => rel_R0 h)
theorem q_owed (h : Rel μ ν) (ha : R32 a) : LawOK Rel κ mX11_owed mX12_owed [aI a] μ ν := (law_owed h.2.2.2.2.2.1 h.2.2.2.2.1 ha).ok (fun _ _ => rel_R0 h)
theorem q_mark (h : Rel μ ν) (ha : R32 a) (hb : R32 b) : LawOK Rel κ mX11_mark mX12_mark [aI a, aI b] μ ν := (law_mark h.2.2.1 ha hb).ok (fun _ => rel_K h)
theorem q_blame (h : Rel μ ν) (ha : R32 a) (hb : R32 b) (hc : R32 c) : LawOK Rel κ mX11_blame mX12_blame [aI a, aI b, aI c] μ ν := (law_blame h.2.2.1 ha hb hc).ok (fun _ => rel_K h)
theorem q_put (h : Rel μ ν) (ha : R32 a) (hb : R32 b) (hc : R32 c) : LawOK Rel κ mX11_put mX12_put [aI a, aI b, aI c] μ ν := (law_put h.2.1 ha hb hc).ok (fun _ => rel_G h)
theorem q_sum (h : Rel μ ν) (ha : R32 a) (hb : R32 b) : LawOK Rel κ mX11_sum mX12_sum [aI a, aI b] μ ν := (law_sum h.2.1 ha hb).ok (fun _ => rel_G h)
theorem q_restore (h : Rel μ ν) (ha : R32 a) (hb : R32 b) (hc : R32 c) : LawOK Rel κ mX11_restore mX12_restore [aI a, aI b, aI c] μ ν := (law_restore h.2.1 ha hb hc).ok (fun _ => rel_G h)
theorem q_hang (h : Rel μ ν) (ha : R32 a) (hb : R32 b) (hc : R32 c) : LawOK Rel κ mX11_hang mX12_hang [aI a, aI b, aI c] μ ν := (law_hang h.2.2.2.1 h.2.2.2.2.1 ha hb hc).ok (fun _ => rel_N h)
theorem q_behind (h : Rel μ ν) (ha : R32 a) : LawOK Rel κ mX11_behind mX12_behind [aI a] μ ν := (law_behind h.2.2.2.1 ha).ok (fun _ => rel_N h)
theorem q_fall (h : Rel μ ν) (ha : R32 a) : LawOK Rel κ mX11_fall mX12_fall [aI a] μ ν := (law_fall h.2.2.2.1 h.2.2.2.2.1 ha).ok (fun _ => rel_N h)
theorem q_tree (h : Rel μ ν) (ha : R32 a) : LawOK Rel κ mX11_tree mX12_tree [aI a] μ ν := (law_tree h.2.2.2.1 h.2.2.2.2.1 ha).ok (fun _ => rel_N h)
theorem q_told (h : Rel μ ν) (ha : R32 a) : LawOK Rel κ mX11_told mX12_told [aI a] μ ν := (law_told h.2.2.2.2.2.2.2.2.2.2.1 h.2.2.2.2.1 h.2.2.2.2.2.2.2.1 h.2.2.2.2.2.1 h.2.2.2.2.2.2.1 ha).ok h
end Calls

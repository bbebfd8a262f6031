/-! ===== cuts of all frames; way, opened, of ===== -/
def mx (a b : Int) : Int := if a < b then b else a
theorem mx_sp (a b : Int) : (mx a b = a ∧ b ≤ a) ∨ (mx a b = b ∧ a < b) := by
  unfold mx
  split
  · exact Or.inr ⟨rfl, by assumption⟩
  · exact Or.inl ⟨rfl, by omega⟩
theorem dAt_onto {i : Int} (h0 : 0 ≤ i) (h1 : i < 16) : ∃ b k : Int, (0 ≤ b ∧ b < 4) ∧ (0 ≤ k ∧ k < 4) ∧ dAt b k = i := by
  refine ⟨2 * (i / 8) + (i % 4) / 2, 2 * ((i / 4) % 2) + i % 2, by omega, by omega, ?_⟩
  unfold dAt
  omega
theorem isB.uniq {l : Int → Int → Int} {key most a b c d a' b' c' d' : Int} (hk : key = 0 ∨ key = 1) (h : isB l key most a b c d) (h' : isB l key most a' b' c' d') : a' = a ∧ b' = b ∧ c' = c ∧ d' = d := by
  have elk : lst key = 0 ∨ lst key = 9 := by
    rcases hk with rfl | rfl
    · exact Or.inl rfl
    · exact Or.inr rfl
  have q := h.1
  have q' := h'.1
  have g := h.2.2 a' b' c' d' q' h'.2.1
  have g' := h'.2.2 a b c d q h.2.1
  unfold okQ at q q'
  exact qN_inj (by omega) (by omega) (by omega)
theorem isCut.uniq {dt pv w w' op op' : Int → Int} {key most bits loss bits' loss' : Int} (hk : key = 0 ∨ key = 1) (h : isCut dt pv key most w bits loss op) (h' : isCut dt pv key most w' bits' loss' op') : (∀ b : Int, 0 ≤ b → b < 4 → w' b = w b) ∧ bits' = bits ∧ loss' = loss ∧ ∀ i : Int, 0 ≤ i → i < 16 → op' i = op i := by
  obtain ⟨a1, a2, a3, a4⟩ := h
  obtain ⟨b1, b2, b3, b4⟩ := h'
  obtain ⟨u0, u1, u2, u3⟩ := isB.uniq hk a1 b1
  have uw : ∀ b : Int, 0 ≤ b → b < 4 → w' b = w b := fun b q0 q1 => by
    rcases (show b = 0 ∨ b = 1 ∨ b = 2 ∨ b = 3 by omega) with rfl | rfl | rfl | rfl
    · exact u0
    · exact u1
    · exact u2
    · exact u3
  refine ⟨uw, by rw [b2, a2, u0, u1, u2, u3], by rw [b3, a3, u0, u1, u2, u3], fun i q0 q1 => ?_⟩
  obtain ⟨b, k, hb, hk2, e⟩ := dAt_onto q0 q1
  rw [← e, a4 b k hb.1 hb.2 hk2.1 hk2.2, b4 b k hb.1 hb.2 hk2.1 hk2.2, uw b hb.1 hb.2]
theorem isCut.bd {dt pv w op : Int → Int} {key most bits loss : Int} (h : isCut dt pv key most w bits loss op) (hd : ∀ d, 0 ≤ dt d ∧ dt d ≤ 15) (hp : key = 1 ∨ ∀ d, 0 ≤ pv d ∧ pv d ≤ 15) (i : Int) (q0 : 0 ≤ i) (q1 : i < 16) : 0 ≤ op i ∧ op i ≤ 15 := by
  rcases hp with hk | hp
  · have h' := isCut.pv (pv' := fun _ => 0) hk h
    obtain ⟨b, k, hb, hk2, e⟩ := dAt_onto q0 q1
    rw [← e, h'.2.2.2 b k hb.1 hb.2 hk2.1 hk2.2]
    exact ob_bd hd (fun _ => by decide) _ _ _
  · obtain ⟨b, k, hb, hk2, e⟩ := dAt_onto q0 q1
    rw [← e, h.2.2.2 b k hb.1 hb.2 hk2.1 hk2.2]
    exact ob_bd hd hp _ _ _
def bd4 (μ : MM) (c : Nat) (f : Int) : Prop := ∀ i : Int, 0 ≤ i → i < 16 → 0 ≤ μ c (16 * f + i) ∧ μ c (16 * f + i) ≤ 15
theorem bd4.cl {μ : MM} {c : Nat} {f : Int} (h : bd4 μ c f) (d : Int) : 0 ≤ clip μ c 16 f d ∧ clip μ c 16 f d ≤ 15 := clip_bd (by decide) (fun d q0 q1 => h d q0 q1) d
theorem CK.cx {μ μ' : MM} {f g : Int} (hX : CX μ μ' f) (hg : g < f) (h : CK μ g) : CK μ' g := by
  obtain ⟨x1, x2, x3, x4⟩ := hX
  unfold CK at h ⊢
  rw [clip_congr (μ := μ) (μ' := μ') (c := 3) (f := g) (fun _ _ _ => by rw [x1 3 (by decide)]), clip_congr (μ := μ) (μ' := μ') (c := 4) (f := g - 1) (fun _ _ _ => x3 _ (by omega)), clip_congr (μ := μ) (μ' := μ') (c := 4) (f := g) (fun _ _ _ => x3 _ (by omega)), clip_congr (μ := μ) (μ' := μ') (c := 6) (f := g) (fun _ _ _ => x2 _ (by omega)), x1 5 (by decide), x1 1 (by decide), (x4 g (by omega)).1, (x4 g (by omega)).2]
  exact h
/-- the cut of frame f, as the reference has it -/
def CN (μ : MM) (f : Int) : Prop := isCut (clip μ 56 16 f) (clip μ 77 16 (f - 1)) (μ 57 f) (μ 58 0) (clip μ 76 4 f) (μ 78 f) (μ 79 f) (clip μ 77 16 f)
theorem CN.cx {μ μ' : MM} {f g : Int} (hX : CM μ μ' f) (hg : g < f) (h : CN μ g) : CN μ' g := by
  obtain ⟨x1, x2, x3, x4⟩ := hX
  unfold CN at h ⊢
  rw [clip_congr (μ := μ) (μ' := μ') (c := 56) (f := g) (fun _ _ _ => by rw [x1 56 (by decide)]), clip_congr (μ := μ) (μ' := μ') (c := 77) (f := g - 1) (fun _ _ _ => x3 _ (by omega)), clip_congr (μ := μ) (μ' := μ') (c := 77) (f := g) (fun _ _ _ => x3 _ (by omega)), clip_congr (μ := μ) (μ' := μ') (c := 76) (f := g) (fun _ _ _ => x2 _ (by omega)), x1 57 (by decide), x1 58 (by decide), (x4 g (by omega)).1, (x4 g (by omega)).2]
  exact h
theorem RF.b3 {μ : MM} (h : RF μ) (i : Int) (q0 : 0 ≤ i) (q1 : i < 160) : 0 ≤ μ 3 i ∧ μ 3 i ≤ 15 := (h.2.1 i q0 q1).2
theorem RF.b56 {μ : MM} (h : RF μ) (i : Int) (q0 : 0 ≤ i) (q1 : i < 160) : 0 ≤ μ 56 i ∧ μ 56 i ≤ 15 := by
  have := h.2.1 i q0 q1
  omega
theorem RF.fr2 {μ μ' : MM} (h : RF μ) (e2 : μ' 2 7 = μ 2 7) (e3 : μ' 3 = μ 3) (e5 : μ' 5 = μ 5) (e55 : μ' 55 0 = μ 55 0) (e56 : μ' 56 = μ 56) (e57 : μ' 57 = μ 57) : RF μ' := by
  unfold RF PR at h ⊢
  rw [e2, e3, e5, e55, e56, e57]
  exact h
theorem CK.bds {μ : MM} {n : Int} (hF : RF μ) (hn : n ≤ μ 2 7) (hC : ∀ f : Int, 0 ≤ f → f < n → CK μ f) : ∀ (m : Nat) (f : Int), f = m → f < n → bd4 μ 4 f := by
  intro m
  induction m with
  | zero =>
    intro f e h1
    subst e
    have hk := hF.2.2.2.2 (by omega)
    have hc := hF.1
    have D := (hC 0 (by omega) (by omega)).bd (clip_bd (by decide) (fun d q0 q1 => hF.b3 _ (by omega) (by omega))) (Or.inl hk)
    intro i q0 q1
    have := D i q0 q1
    rw [clip_in q0 q1] at this
    exact this
  | succ m ih =>
    intro f e h1
    have hc := hF.1
    have D := (hC f (by omega) (by omega)).bd (clip_bd (by decide) (fun d q0 q1 => hF.b3 _ (by omega) (by omega))) (Or.inr (ih (f - 1) (by omega) (by omega)).cl)
    intro i q0 q1
    have := D i q0 q1
    rw [clip_in q0 q1] at this
    exact this
theorem CN.bds {μ : MM} {n : Int} (hF : RF μ) (hn : n ≤ μ 2 7) (hC : ∀ f : Int, 0 ≤ f → f < n → CN μ f) : ∀ (m : Nat) (f : Int), f = m → f < n → bd4 μ 77 f := by
  intro m
  induction m with
  | zero =>
    intro f e h1
    subst e
    have hc := hF.1
    have hk : μ 57 0 = 1 := by rw [(hF.2.2.1 0 (by omega) (by omega)).1]; exact hF.2.2.2.2 (by omega)
    have D := (hC 0 (by omega) (by omega)).bd (clip_bd (by decide) (fun d q0 q1 => hF.b56 _ (by omega) (by omega))) (Or.inl hk)
    intro i q0 q1
    have := D i q0 q1
    rw [clip_in q0 q1] at this
    exact this
  | succ m ih =>
    intro f e h1
    have hc := hF.1
    have D := (hC f (by omega) (by omega)).bd (clip_bd (by decide) (fun d q0 q1 => hF.b56 _ (by omega) (by omega))) (Or.inr (ih (f - 1) (by omega) (by omega)).cl)
    intro i q0 q1
    have := D i q0 q1
    rw [clip_in q0 q1] at this
    exact this
theorem l_cutU {κ : KX} {μ : MM} {ν : ML} {f most : Int} {P : Option AV → List SH → MM → ML → Prop} (hF : RF μ) (hf : f < μ 2 7) (hm : most = μ 1 0 ∧ 0 ≤ most ∧ most ≤ 80) (K : ∀ μ1 : MM, SR [4, 6, 7, 8, 9, 10, 11, 12, 13] μ μ1 → (∀ g : Int, 0 ≤ g → g < f + 1 → CK μ1 g) → AX κ mX3_cutUpTo 12 P 26 [aR 2, aI f, aI most, aI (f + 1)] [] μ1 ν) (n : Nat) : ∀ (a : Int) (μ1 : MM), 0 ≤ a → a + n = f + 1 → SR [4, 6, 7, 8, 9, 10, 11, 12, 13] μ μ1 → (∀ g : Int, 0 ≤ g → g < a → CK μ1 g) → AX κ mX3_cutUpTo 12 P 5 [aR 2, aI f, aI most, aI a] [] μ1 ν := by
  have hc := hF.1
  induction n with
  | zero =>
    intro a μ1 a0 an hS hC
    have e : a = f + 1 := by omega
    subst e
    refine aw_blk oX3_cutUpTo_5 (pc' := 7) (ls' := [_, _, _, _]) (st' := [_, _]) (cs := []) rfl trivial ?_
    refine aw_icmp_gt (tgt := 26) eX3_cutUpTo_7 (by decide) (by omega) (by omega) (fun h1 => ?_) (fun h1 => ?_)
    · exact K μ1 hS hC
    · exfalso; omega
  | succ n ih =>
    intro a μ1 a0 an hS hC
    have hF1 : RF μ1 := hF.fr2 (by rw [hS 2 (by decide)]) (hS 3 (by decide)) (hS 5 (by decide)) (by rw [hS 55 (by decide)]) (hS 56 (by decide)) (hS 57 (by decide))
    have hB := CK.bds hF1 (n := a) (by rw [hS 2 (by decide)]; omega) hC
    have hk := hF1.2.2.1 a (by omega) (by omega)
    refine aw_blk oX3_cutUpTo_5 (pc' := 7) (ls' := [_, _, _, _]) (st' := [_, _]) (cs := []) rfl trivial ?_
    refine aw_icmp_gt (tgt := 26) eX3_cutUpTo_7 (by decide) (by omega) (by omega) (fun h1 => ?_) (fun h1 => ?_)
    · exfalso; omega
    · refine aw_blk oX3_cutUpTo_10 (pc' := 17) (ls' := [_, _, _, _]) (st' := [_, _, _, _]) (cs := []) rfl trivial ?_
      refine aw_crV (rest := []) (c_cutC hF1.b3 (fun q => hB (a - 1).toNat (a - 1) (by omega) (by omega)) (by omega) (by omega) (fun q => by subst q; exact hF1.2.2.2.2 (by rw [hS 2 (by decide)]; omega)) hm.2) kX1_cut eX3_cutUpTo_17 lX3_cutUpTo_17 rfl rfl rfl rfl (Nat.le_of_ble_eq_true rfl) ⟨Nat.le_of_ble_eq_true rfl, Nat.le_of_ble_eq_true rfl⟩ ⟨Nat.le_refl _, Nat.le_refl _⟩ ?_
      intro r μ2 ν2 hP
      obtain ⟨rfl, rfl, hX, hI⟩ := hP
      refine aw_blk oX3_cutUpTo_20 (pc' := 5) (ls' := [_, _, _, _]) (st' := []) (cs := []) rfl trivial ?_
      refine ih (a + 1) μ2 (by omega) (by omega) (fun c q => by rw [hX.1 c q, hS c q]) (fun g g0 g1 => ?_)
      by_cases e : g = a
      · subst e
        unfold CK
        have x1 := hX.1
        rw [clip_congr (μ := μ1) (μ' := μ2) (c := 3) (f := g) (fun _ _ _ => by rw [x1 3 (by decide)]), clip_congr (μ := μ1) (μ' := μ2) (c := 4) (f := g - 1) (fun _ _ _ => hX.2.2.1 _ (by omega)), x1 5 (by decide), x1 1 (by decide), hS 1 (by decide), ← hm.1]
        exact hI
      · exact (hC g g0 (by omega)).cx hX (by omega)
theorem c_cutUpTo {κ : KX} {μ : MM} {ν : ML} {f most : Int} (hF : RF μ) (hR : RC μ) (hf : 0 ≤ f ∧ f < μ 2 7) (hm : most = μ 1 0 ∧ 0 ≤ most ∧ most ≤ 80) : AQ κ 12 mX3_cutUpTo [aR 2, aI f, aI most] μ ν (fun r μ' ν' => r = none ∧ ν' = ν ∧ SR [2, 4, 6, 7, 8, 9, 10, 11, 12, 13] μ μ' ∧ (∀ j : Int, j ≠ 8 → μ' 2 j = μ 2 j) ∧ RC μ' ∧ f < μ' 2 8) := by
  have hc := hF.1
  have hr := hR.1
  have E : ∀ (μ1 : MM) (u : AV), SR [4, 6, 7, 8, 9, 10, 11, 12, 13] μ μ1 → (∀ g : Int, 0 ≤ g → g < f + 1 ∨ g < μ 2 8 → CK μ1 g) → AX κ mX3_cutUpTo 12 (QS (fun r μ' ν' => r = none ∧ ν' = ν ∧ SR [2, 4, 6, 7, 8, 9, 10, 11, 12, 13] μ μ' ∧ (∀ j : Int, j ≠ 8 → μ' 2 j = μ 2 j) ∧ RC μ' ∧ f < μ' 2 8)) 26 [aR 2, aI f, aI most, u] [] μ1 ν := fun μ1 u hS hC => by
    have e28 : μ1 2 8 = μ 2 8 := by rw [hS 2 (by decide)]
    have q := mx_sp (μ 2 8) (f + 1)
    refine aw_blk oX3_cutUpTo_26 (pc' := 34) (ls' := [_, _, _, _]) (st' := [_, _, _]) (cs := []) rfl trivial ?_
    rw [e28]
    refine aw_mmax eX3_cutUpTo_34 lX3_cutUpTo_34 (by omega) (by omega) (Nat.le_of_ble_eq_true rfl) ⟨Nat.le_of_ble_eq_true rfl, Nat.le_of_ble_eq_true rfl⟩ ⟨Nat.le_refl _, Nat.le_refl _⟩ ?_
    refine aw_blk oX3_cutUpTo_37 (pc' := 40) (ls' := [_, _, _, _]) (st' := []) (cs := []) rfl trivial ?_
    show AX κ mX3_cutUpTo 12 _ 40 _ _ (up μ1 2 8 (mx (μ 2 8) (f + 1))) ν
    generalize hx : mx (μ 2 8) (f + 1) = x at q
    refine aw_vret eX3_cutUpTo_40 rfl (Nat.le_refl _) (Nat.le_refl _) ?_
    refine ⟨rfl, rfl, rfl, ?_, ?_, ⟨?_, ?_⟩, ?_⟩
    · exact (hS.mono (fun c hc => List.mem_cons_of_mem _ hc)).put (by decide)
    · intro j hj
      rw [up_ne (Or.inr hj), hS 2 (by decide)]
    · rw [up_at, up_ne (Or.inr (by decide)), hS 2 (by decide)]
      omega
    · intro g g0 g1
      rw [up_at] at g1
      refine (hC g g0 (by omega)).congr ?_ ?_ ?_ ?_ ?_ ?_ ?_
      · intro d q0 q1; rfl
      · rfl
      · rfl
      · rfl
      · rfl
      · rfl
      · rfl
    · rw [up_at]
      omega
  by_cases h : f < μ 2 8
  · refine AMet.of kX3_cutUpTo.1 (Nat.le_of_ble_eq_true rfl) rfl ?_
    refine aw_blk oX3_cutUpTo_0 (pc' := 5) (ls' := [_, _, _, _]) (st' := []) (cs := []) rfl trivial ?_
    refine aw_blk oX3_cutUpTo_5 (pc' := 7) (ls' := [_, _, _, _]) (st' := [_, _]) (cs := []) rfl trivial ?_
    refine aw_icmp_gt (tgt := 26) eX3_cutUpTo_7 (by decide) (by omega) (by omega) (fun h1 => ?_) (fun h1 => ?_)
    · exact E μ _ SR.rf (fun g g0 g1 => hR.2 g g0 (by omega))
    · exfalso; omega
  · refine AMet.of kX3_cutUpTo.1 (Nat.le_of_ble_eq_true rfl) rfl ?_
    refine aw_blk oX3_cutUpTo_0 (pc' := 5) (ls' := [_, _, _, _]) (st' := []) (cs := []) rfl trivial ?_
    exact l_cutU hF hf.2 hm (fun μ1 hS hC => E μ1 _ hS (fun g g0 g1 => hC g g0 (by omega))) (f + 1 - μ 2 8).toNat (μ 2 8) μ (by omega) (by omega) SR.rf hR.2
theorem l_cutN {κ : KX} {μ : MM} {ν : ML} {f : Int} (hF : RF μ) (hf : f < μ 2 7) (hm : 0 ≤ μ 58 0 ∧ μ 58 0 ≤ 80) (n : Nat) : ∀ (a : Int) (μ1 : MM), 0 ≤ a → a + n = f + 1 → SR [76, 77, 78, 79, 80] μ μ1 → (∀ g : Int, 0 ≤ g → g < a → CN μ1 g) → AX κ mX12_cut 3 (QS (fun r μ' ν' => r = none ∧ ν' = ν ∧ SR [76, 77, 78, 79, 80] μ μ' ∧ ∀ g : Int, 0 ≤ g → g < f + 1 → CN μ' g)) 2 [aR 55, aI f, aI a] [] μ1 ν := by
  have hc := hF.1
  induction n with
  | zero =>
    intro a μ1 a0 an hS hC
    have e : a = f + 1 := by omega
    subst e
    refine aw_blk oX12_cut_2 (pc' := 4) (ls' := [_, _, _]) (st' := [_, _]) (cs := []) rfl trivial ?_
    refine aw_icmp_gt (tgt := 18) eX12_cut_4 (by decide) (by omega) (by omega) (fun h1 => ?_) (fun h1 => ?_)
    · refine aw_vret eX12_cut_18 rfl (Nat.le_refl _) (Nat.le_refl _) ?_
      exact ⟨rfl, rfl, rfl, hS, hC⟩
    · exfalso; omega
  | succ n ih =>
    intro a μ1 a0 an hS hC
    have hF1 : RF μ1 := hF.fr2 (by rw [hS 2 (by decide)]) (hS 3 (by decide)) (hS 5 (by decide)) (by rw [hS 55 (by decide)]) (hS 56 (by decide)) (hS 57 (by decide))
    have hB := CN.bds hF1 (n := a) (by rw [hS 2 (by decide)]; omega) hC
    have hk := hF1.2.2.1 a (by omega) (by omega)
    have hk0 : a = 0 → μ1 5 a = 1 := fun q => by subst q; exact hF1.2.2.2.2 (by rw [hS 2 (by decide)]; omega)
    refine aw_blk oX12_cut_2 (pc' := 4) (ls' := [_, _, _]) (st' := [_, _]) (cs := []) rfl trivial ?_
    refine aw_icmp_gt (tgt := 18) eX12_cut_4 (by decide) (by omega) (by omega) (fun h1 => ?_) (fun h1 => ?_)
    · exfalso; omega
    · refine aw_blk oX12_cut_7 (pc' := 9) (ls' := [_, _, _]) (st' := [_, _]) (cs := []) rfl trivial ?_
      refine aw_crV (rest := []) (c_cutFrame hF1.b56 (fun q => hB (a - 1).toNat (a - 1) (by omega) (by omega)) (by omega) (by omega) (fun q => by have := hk0 q; omega) (by rw [hS 58 (by decide)]; exact hm)) kX12_cutFrame eX12_cut_9 lX12_cut_9 rfl rfl rfl rfl (Nat.le_of_ble_eq_true rfl) ⟨Nat.le_of_ble_eq_true rfl, Nat.le_of_ble_eq_true rfl⟩ ⟨Nat.le_refl _, Nat.le_refl _⟩ ?_
      intro r μ2 ν2 hP
      obtain ⟨rfl, rfl, hX, hI⟩ := hP
      refine aw_blk oX12_cut_12 (pc' := 2) (ls' := [_, _, _]) (st' := []) (cs := []) rfl trivial ?_
      refine ih (a + 1) μ2 (by omega) (by omega) (fun c q => by rw [hX.1 c q, hS c q]) (fun g g0 g1 => ?_)
      by_cases e : g = a
      · subst e
        unfold CN
        have x1 := hX.1
        rw [clip_congr (μ := μ1) (μ' := μ2) (c := 56) (f := g) (fun _ _ _ => by rw [x1 56 (by decide)]), clip_congr (μ := μ1) (μ' := μ2) (c := 77) (f := g - 1) (fun _ _ _ => hX.2.2.1 _ (by omega)), x1 57 (by decide), x1 58 (by decide)]
        exact hI
      · exact (hC g g0 (by omega)).cx hX (by omega)
theorem c_cutM {κ : KX} {μ : MM} {ν : ML} {f : Int} (hF : RF μ) (hf : 0 ≤ f ∧ f < μ 2 7) (hm : 0 ≤ μ 58 0 ∧ μ 58 0 ≤ 80) : AQ κ 3 mX12_cut [aR 55, aI f] μ ν (fun r μ' ν' => r = none ∧ ν' = ν ∧ SR [76, 77, 78, 79, 80] μ μ' ∧ ∀ g : Int, 0 ≤ g → g < f + 1 → CN μ' g) := by
  refine AMet.of kX12_cut.1 (Nat.le_of_ble_eq_true rfl) rfl ?_
  refine aw_blk oX12_cut_0 (pc' := 2) (ls' := [_, _, _]) (st' := []) (cs := []) rfl trivial ?_
  exact l_cutN hF hf.2 hm (f + 1).toNat 0 μ (by omega) (by omega) SR.rf (fun g g0 g1 => by omega)
/-- both have the same cut -/
theorem cut_eq {μ : MM} {n : Int} (hF : RF μ) (hs : μ 58 0 = μ 1 0) (hn : n ≤ μ 2 7) (hC : ∀ f : Int, 0 ≤ f → f < n → CK μ f) (hN : ∀ f : Int, 0 ≤ f → f < n → CN μ f) : ∀ (m : Nat) (f : Int), f = m → f < n → (∀ b : Int, 0 ≤ b → b < 4 → μ 76 (4 * f + b) = μ 6 (4 * f + b)) ∧ μ 78 f = μ 7 f ∧ μ 79 f = μ 8 f ∧ ∀ i : Int, 0 ≤ i → i < 16 → μ 77 (16 * f + i) = μ 4 (16 * f + i) := by
  have hc := hF.1
  have step : ∀ f : Int, 0 ≤ f → f < n → (μ 5 f = 1 ∨ clip μ 77 16 (f - 1) = clip μ 4 16 (f - 1)) → (∀ b : Int, 0 ≤ b → b < 4 → μ 76 (4 * f + b) = μ 6 (4 * f + b)) ∧ μ 78 f = μ 7 f ∧ μ 79 f = μ 8 f ∧ ∀ i : Int, 0 ≤ i → i < 16 → μ 77 (16 * f + i) = μ 4 (16 * f + i) := fun f f0 f1 hp => by
    have a := hC f f0 f1
    have b := hN f f0 f1
    unfold CK at a
    unfold CN at b
    have e3 : clip μ 56 16 f = clip μ 3 16 f := by
      funext d
      unfold clip
      split
      · rename_i q
        exact (hF.2.1 _ (by omega) (by omega)).1
      · rfl
    have k := hF.2.2.1 f (by omega) (by omega)
    rw [e3, k.1, hs] at b
    have b' : isCut (clip μ 3 16 f) (clip μ 4 16 (f - 1)) (μ 5 f) (μ 1 0) (clip μ 76 4 f) (μ 78 f) (μ 79 f) (clip μ 77 16 f) := by
      rcases hp with hp | hp
      · exact b.pv hp
      · rw [hp] at b; exact b
    obtain ⟨u1, u2, u3, u4⟩ := a.uniq (by omega) b'
    refine ⟨fun b q0 q1 => ?_, u2, u3, fun i q0 q1 => ?_⟩
    · have := u1 b q0 q1
      rw [clip_in q0 q1, clip_in q0 q1] at this
      exact this
    · have := u4 i q0 q1
      rw [clip_in q0 q1, clip_in q0 q1] at this
      exact this
  intro m
  induction m with
  | zero =>
    intro f e h1
    subst e
    exact step 0 (by omega) h1 (Or.inl (hF.2.2.2.2 (by omega)))
  | succ m ih =>
    intro f e h1
    refine step f (by omega) h1 (Or.inr ?_)
    have := (ih (f - 1) (by omega) (by omega)).2.2.2
    funext d
    unfold clip
    split
    · rename_i q
      exact this d q.1 q.2
    · rfl

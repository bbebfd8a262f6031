/-! ===== the class's cut: losses and choices ===== -/
/-- losses and choices up to block b, and losses of b up to w -/
def KL (μ1 μ : MM) (l : Int → Int → Int) (key b w : Int) : Prop := SR [10, 11] μ1 μ ∧ (∀ b' w' : Int, 0 ≤ b' → b' < 4 → lst key ≤ w' → w' < 11 → (b' < b ∨ (b' = b ∧ w' < w)) → μ 10 (b' * 11 + w') = l b' w') ∧ ∀ b' : Int, 0 ≤ b' → b' < b → GC μ key b'
theorem GC.keep {μ μ' : MM} {key b : Int} (h : GC μ key b) (e10 : ∀ w : Int, 0 ≤ w → w < 11 → μ' 10 (b * 11 + w) = μ 10 (b * 11 + w)) (e11 : ∀ x : Int, b * 4 ≤ x → x < b * 4 + 4 → μ' 11 x = μ 11 x) : GC μ' key b := by
  obtain ⟨h1, h2⟩ := h
  refine ⟨fun q => ?_, fun q => ?_⟩
  · rw [e11 _ (by omega) (by omega), e11 _ (by omega) (by omega)]
    exact h1 q
  · obtain ⟨m, hm, g1, g2, g3⟩ := h2 q
    rw [e11 _ (by omega) (by omega), e11 _ (by omega) (by omega), e11 (b * 4 + 2) (by omega) (by omega), e11 (b * 4 + 3) (by omega) (by omega)]
    refine ⟨m, ?_, g1, g2, g3⟩
    obtain ⟨p1, p2, p3, p4⟩ := hm
    refine ⟨p1, p2, p3, fun w q0 q1 q2 => ?_⟩
    show μ' 10 (b * 11 + m) < μ' 10 (b * 11 + w) ∨ (μ' 10 (b * 11 + m) = μ' 10 (b * 11 + w) ∧ m ≤ w)
    rw [e10 m p1 (by omega), e10 w q0 (by omega)]
    exact p4 w q0 q1 q2
theorem l_cutW {κ : KX} {μ1 : MM} {ν : ML} {P : Option AV → List SH → MM → ML → Prop} {f key most b : Int} (h3 : ∀ i : Int, 0 ≤ i → i < 160 → 0 ≤ μ1 3 i ∧ μ1 3 i ≤ 15) (hf : 0 ≤ f ∧ f < 10) (hb : 0 ≤ b ∧ b < 4) (hlk : 0 ≤ lst key ∧ lst key ≤ 9) (hfk : f = 0 → lst key = 9)
    (K : ∀ (μ : MM) (u6 : AV), KL μ1 μ (lss (clip μ1 3 16 f) (clip μ1 4 16 (f - 1))) key b 11 → AX κ mX1_cut 11 P 65 [aR 9, aR 2, aI f, aI most, aI key, aI b, u6] [] μ ν) (n : Nat) : ∀ (w : Int) (μ : MM), lst key ≤ w → w + n = 11 → KL μ1 μ (lss (clip μ1 3 16 f) (clip μ1 4 16 (f - 1))) key b w → AX κ mX1_cut 11 P 30 [aR 9, aR 2, aI f, aI most, aI key, aI b, aI w] [] μ ν := by
  induction n with
  | zero =>
    intro w μ h0 hn hK
    rw [show w = 11 by omega] at hK
    refine aw_blk oX1_cut_30 (pc' := 34) (ls' := [_, _, _, _, _, _, _]) (st' := [_, _]) (cs := []) rfl trivial ?_
    refine aw_icmp_ge (tgt := 65) eX1_cut_34 (by decide) (by omega) (by omega) (fun h1 => ?_) (fun h1 => ?_)
    · exact K μ _ hK
    · exfalso; omega
  | succ n ih =>
    intro w μ h0 hn hK
    have e3 : μ 3 = μ1 3 := hK.1 3 (by decide)
    have e4 : μ 4 = μ1 4 := hK.1 4 (by decide)
    have c3 : clip μ 3 16 f = clip μ1 3 16 f := clip_congr (fun _ _ _ => by rw [e3])
    have c4 : clip μ 4 16 (f - 1) = clip μ1 4 16 (f - 1) := clip_congr (fun _ _ _ => by rw [e4])
    have C := c_lossBy (κ := κ) (μ := μ) (ν := ν) (f := f) (b := b) (w := w) (by rw [e3]; exact h3) hf hb (by omega) (fun q => by have := hfk q; omega)
    rw [c3, c4] at C
    refine aw_blk oX1_cut_30 (pc' := 34) (ls' := [_, _, _, _, _, _, _]) (st' := [_, _]) (cs := []) rfl trivial ?_
    refine aw_icmp_ge (tgt := 65) eX1_cut_34 (by decide) (by omega) (by omega) (fun h1 => ?_) (fun h1 => ?_)
    · exfalso; omega
    · refine aw_blk oX1_cut_37 (pc' := 55) (ls' := [_, _, _, _, _, _, _]) (st' := [_, _, _, _, _, _]) (cs := []) rfl trivial ?_
      refine aw_ciS (rest := [_, _]) C kX1_lossBy eX1_cut_55 lX1_cut_55 rfl rfl (Nat.le_of_ble_eq_true rfl) ⟨Nat.le_of_ble_eq_true rfl, Nat.le_of_ble_eq_true rfl⟩ ⟨Nat.le_refl _, Nat.le_refl _⟩ ?_
      refine aw_blk oX1_cut_58 (pc' := 30) (ls' := [_, _, _, _, _, _, _]) (st' := []) (cs := [(_, _)]) rfl (⟨⟨by omega, by omega⟩, trivial⟩) ?_
      refine ih (w + 1) _ (by omega) (by omega) ⟨hK.1.put (by decide), fun b' w' q0 q1 q2 q3 q4 => ?_, fun b' q0 q1 => ?_⟩
      · by_cases e : b' = b ∧ w' = w
        · rw [e.1, e.2, up_at]
        · rw [up_ne (Or.inr (by omega))]
          exact hK.2.1 b' w' q0 q1 q2 q3 (by omega)
      · exact (hK.2.2 b' q0 q1).keep (fun w' r0 r1 => up_ne (Or.inr (by omega))) (fun x r0 r1 => up_c (by decide))
theorem l_cutB {κ : KX} {μ1 : MM} {ν : ML} {P : Option AV → List SH → MM → ML → Prop} {f key most : Int} (h3 : ∀ i : Int, 0 ≤ i → i < 160 → 0 ≤ μ1 3 i ∧ μ1 3 i ≤ 15) (hf : 0 ≤ f ∧ f < 10) (hk : key = 0 ∨ key = 1) (hfk : f = 0 → key = 1) (h4 : 0 < f → ∀ i : Int, 0 ≤ i → i < 16 → 0 ≤ μ1 4 (16 * (f - 1) + i) ∧ μ1 4 (16 * (f - 1) + i) ≤ 15)
    (K : ∀ (μ : MM) (u5 u6 : AV), KL μ1 μ (lss (clip μ1 3 16 f) (clip μ1 4 16 (f - 1))) key 4 0 → AX κ mX1_cut 11 P 79 [aR 9, aR 2, aI f, aI most, aI key, u5, u6] [] μ ν) (n : Nat) : ∀ (b : Int) (μ : MM) (u6 : AV), 0 ≤ b → b + n = 4 → KL μ1 μ (lss (clip μ1 3 16 f) (clip μ1 4 16 (f - 1))) key b 0 → AX κ mX1_cut 11 P 11 [aR 9, aR 2, aI f, aI most, aI key, aI b, u6] [] μ ν := by
  have elk : lst key = 0 ∧ key = 0 ∨ lst key = 9 ∧ key = 1 := by
    rcases hk with rfl | rfl
    · exact Or.inl ⟨rfl, rfl⟩
    · exact Or.inr ⟨rfl, rfl⟩
  have hlb : key = 0 → ∀ b w : Int, 0 ≤ lss (clip μ1 3 16 f) (clip μ1 4 16 (f - 1)) b w ∧ lss (clip μ1 3 16 f) (clip μ1 4 16 (f - 1)) b w ≤ 900 := fun e b w => by
    have f0 : 0 < f := by
      by_cases q : f = 0
      · have := hfk q; omega
      · omega
    exact lss_bd (clip_bd (by decide) (fun d q0 q1 => h3 _ (by omega) (by omega))) (clip_bd (by decide) (fun d q0 q1 => h4 f0 d q0 q1)) b w
  induction n with
  | zero =>
    intro b μ u6 h0 hn hK
    rw [show b = 4 by omega] at hK
    refine aw_blk oX1_cut_11 (pc' := 14) (ls' := [_, _, _, _, _, _, _]) (st' := [_, _]) (cs := []) rfl trivial ?_
    refine aw_icmp_ge (tgt := 79) eX1_cut_14 (by decide) (by omega) (by omega) (fun h1 => ?_) (fun h1 => ?_)
    · exact K μ _ _ hK
    · exfalso; omega
  | succ n ih =>
    intro b μ u6 h0 hn hK
    have E28 : ∀ u6 : AV, AX κ mX1_cut 11 P 28 [aR 9, aR 2, aI f, aI most, aI key, aI b, u6] [aI (lst key)] μ ν := fun u6 => by
      refine aw_blk oX1_cut_28 (pc' := 30) (ls' := [_, _, _, _, _, _, _]) (st' := []) (cs := []) rfl trivial ?_
      refine l_cutW h3 hf ⟨h0, by omega⟩ (by omega) (fun q => by have := hfk q; omega) (fun μ' v6 hK' => ?_) (11 - lst key).toNat (lst key) μ (by omega) (by omega) ⟨hK.1, fun b' w' q0 q1 q2 q3 q4 => hK.2.1 b' w' q0 q1 q2 q3 (by omega), hK.2.2⟩
      refine aw_blk oX1_cut_65 (pc' := 70) (ls' := [_, _, _, _, _, _, _]) (st' := [_, _, _]) (cs := []) rfl trivial ?_
      refine aw_crV (rest := []) (c_gather (b := b) (key := key) ⟨h0, by omega⟩ hk (fun q w q0 q1 => by rw [hK'.2.1 b w h0 (by omega) (by omega) q1 (by omega)]; exact hlb q b w)) kX1_gather eX1_cut_70 lX1_cut_70 rfl rfl rfl rfl (Nat.le_of_ble_eq_true rfl) ⟨Nat.le_of_ble_eq_true rfl, Nat.le_of_ble_eq_true rfl⟩ ⟨Nat.le_refl _, Nat.le_refl _⟩ ?_
      intro r μ2 ν2 hP
      obtain ⟨rfl, rfl, hS2, ho, hG⟩ := hP
      have e10 : μ2 10 = μ' 10 := hS2 10 (by decide)
      refine aw_blk oX1_cut_73 (pc' := 11) (ls' := [_, _, _, _, _, _, _]) (st' := []) (cs := []) rfl trivial ?_
      refine ih (b + 1) μ2 _ (by omega) (by omega) ⟨(hK'.1.trans hS2).sub (by decide), fun b' w' q0 q1 q2 q3 q4 => ?_, fun b' q0 q1 => ?_⟩
      · rw [e10]
        exact hK'.2.1 b' w' q0 q1 q2 q3 (by omega)
      · by_cases e : b' = b
        · rw [e]; exact hG
        · exact (hK'.2.2 b' q0 (by omega)).keep (fun w' r0 r1 => by rw [e10]) (fun x r0 r1 => ho x (by omega))
    refine aw_blk oX1_cut_11 (pc' := 14) (ls' := [_, _, _, _, _, _, _]) (st' := [_, _]) (cs := []) rfl trivial ?_
    refine aw_icmp_ge (tgt := 79) eX1_cut_14 (by decide) (by omega) (by omega) (fun h1 => ?_) (fun h1 => ?_)
    · exfalso; omega
    · refine aw_blk oX1_cut_17 (pc' := 19) (ls' := [_, _, _, _, _, _, _]) (st' := [_]) (cs := []) rfl trivial ?_
      refine aw_if_eq (tgt := 27) eX1_cut_19 (by decide) (by omega) (fun h2 => ?_) (fun h2 => ?_)
      · refine aw_blk oX1_cut_27 (pc' := 28) (ls' := [_, _, _, _, _, _, _]) (st' := [_]) (cs := []) rfl trivial ?_
        have e : lst key = 0 := by omega
        rw [e] at E28
        exact E28 _
      · refine aw_blk oX1_cut_22 (pc' := 28) (ls' := [_, _, _, _, _, _, _]) (st' := [_]) (cs := []) rfl trivial ?_
        have e : lst key = 9 := by omega
        rw [e] at E28
        exact E28 _

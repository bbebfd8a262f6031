/-! ===== the class opens a frame ===== -/
/-- ways and opened dots while they are filled -/
def OC (μ1 μ : MM) (f : Int) (g : Int → Int → Int) (w : Int → Int) (b k bw : Int) : Prop := SR [4, 6] μ1 μ ∧ (∀ x : Int, (x < 16 * f ∨ 16 * f + 16 ≤ x) → μ 4 x = μ1 4 x) ∧ (∀ x : Int, (x < 4 * f ∨ 4 * f + 4 ≤ x) → μ 6 x = μ1 6 x) ∧ (∀ b' k' : Int, 0 ≤ b' → b' < 4 → 0 ≤ k' → k' < 4 → (b' < b ∨ (b' = b ∧ k' < k)) → μ 4 (16 * f + dAt b' k') = g b' k') ∧ ∀ b' : Int, 0 ≤ b' → b' < bw → μ 6 (4 * f + b') = w b'
theorem l_opK {κ : KX} {μ1 : MM} {ν : ML} {P : Option AV → List SH → MM → ML → Prop} {f b : Int} {w : Int → Int} (h3 : ∀ i : Int, 0 ≤ i → i < 160 → 0 ≤ μ1 3 i ∧ μ1 3 i ≤ 15) (hf : 0 ≤ f ∧ f < 10) (hb : 0 ≤ b ∧ b < 4) (hw : 0 ≤ w b ∧ w b < 11) (hfw : f = 0 → 9 ≤ w b) (ew : μ1 13 b = w b)
    (K : ∀ (μ : MM) (u4 u5 : AV), OC μ1 μ f (fun b k => ob (clip μ1 3 16 f) (clip μ1 4 16 (f - 1)) b k (w b)) w (b + 1) 0 (b + 1) → AX κ mX1_open 2 P 98 [aR 9, aR 2, aI f, aI b, u4, u5] [] μ ν) (n : Nat) : ∀ (k : Int) (μ : MM) (u5 : AV), 0 ≤ k → k + n = 4 → OC μ1 μ f (fun b k => ob (clip μ1 3 16 f) (clip μ1 4 16 (f - 1)) b k (w b)) w b k (b + 1) → AX κ mX1_open 2 P 46 [aR 9, aR 2, aI f, aI b, aI k, u5] [] μ ν := by
  have hl := svl
  induction n with
  | zero =>
    intro k μ u5 h0 hn hO
    refine aw_blk oX1_open_46 (pc' := 49) (ls' := [_, _, _, _, _, _]) (st' := [_, _]) (cs := []) rfl trivial ?_
    refine aw_icmp_ge (tgt := 98) eX1_open_49 (by decide) (by omega) (by omega) (fun h1 => ?_) (fun h1 => ?_)
    · exact K μ _ _ ⟨hO.1, hO.2.1, hO.2.2.1, fun b' k' q0 q1 q2 q3 q4 => hO.2.2.2.1 b' k' q0 q1 q2 q3 (by omega), hO.2.2.2.2⟩
    · exfalso; omega
  | succ n ih =>
    intro k μ u5 h0 hn hO
    have hd := sv b k hb (by omega)
    have e3 : μ 3 = μ1 3 := hO.1 3 (by decide)
    have e13 : μ 13 = μ1 13 := hO.1 13 (by decide)
    have c3 : clip μ 3 16 f = clip μ1 3 16 f := clip_congr (fun _ _ _ => by rw [e3])
    have c4 : clip μ 4 16 (f - 1) = clip μ1 4 16 (f - 1) := clip_congr (fun d q0 q1 => hO.2.1 _ (by omega))
    have C := c_dotBy (κ := κ) (μ := μ) (ν := ν) (f := f) (b := b) (k := k) (w := w b) (x := dAt b k) (by rw [e3]; exact h3) hf hb (by omega) hw hfw rfl
    rw [c3, c4] at C
    refine aw_blk oX1_open_46 (pc' := 49) (ls' := [_, _, _, _, _, _]) (st' := [_, _]) (cs := []) rfl trivial ?_
    refine aw_icmp_ge (tgt := 98) eX1_open_49 (by decide) (by omega) (by omega) (fun h1 => ?_) (fun h1 => ?_)
    · exfalso; omega
    · refine aw_blk oX1_open_52 (pc' := 88) (ls' := [_, _, _, _, _, _]) (st' := [_, _, _, _, _, _, _]) (cs := [(_, _), (_, _), (_, _)]) rfl (⟨⟨by omega, by omega⟩, ⟨by omega, by omega⟩, ⟨by omega, by omega⟩, trivial⟩) ?_
      rw [hd.1, e13, ew]
      refine aw_ciS (rest := [_, _]) C kX1_dotBy eX1_open_88 lX1_open_88 rfl rfl (Nat.le_of_ble_eq_true rfl) ⟨Nat.le_of_ble_eq_true rfl, Nat.le_of_ble_eq_true rfl⟩ ⟨Nat.le_refl _, Nat.le_refl _⟩ ?_
      refine aw_blk oX1_open_91 (pc' := 46) (ls' := [_, _, _, _, _, _]) (st' := []) (cs := [(_, _)]) rfl (⟨⟨by omega, by omega⟩, trivial⟩) ?_
      refine ih (k + 1) _ _ (by omega) (by omega) ⟨hO.1.put (by decide), fun x hx => ?_, fun x hx => ?_, fun b' k' q0 q1 q2 q3 q4 => ?_, fun b' q0 q1 => ?_⟩
      · rw [up_ne (Or.inr (by omega))]
        exact hO.2.1 x hx
      · rw [up_c (by decide)]
        exact hO.2.2.1 x hx
      · by_cases e : dAt b' k' = dAt b k
        · obtain ⟨rfl, rfl⟩ := dAt_inj hb (by omega) ⟨q0, q1⟩ ⟨q2, q3⟩ e
          rw [show 16 * f + dAt b' k' = f * 16 + dAt b' k' by omega, up_at]
        · rw [up_ne (Or.inr (by omega))]
          refine hO.2.2.2.1 b' k' q0 q1 q2 q3 ?_
          by_cases e2 : b' = b ∧ k' = k
          · exact absurd (by rw [e2.1, e2.2]) e
          · omega
      · rw [up_c (by decide)]
        exact hO.2.2.2.2 b' q0 q1
theorem l_opB {κ : KX} {μ1 : MM} {ν : ML} {P : Option AV → List SH → MM → ML → Prop} {f : Int} {w : Int → Int} (h3 : ∀ i : Int, 0 ≤ i → i < 160 → 0 ≤ μ1 3 i ∧ μ1 3 i ≤ 15) (hf : 0 ≤ f ∧ f < 10) (hw : ∀ b : Int, 0 ≤ b → b < 4 → (0 ≤ w b ∧ w b < 11) ∧ (f = 0 → 9 ≤ w b) ∧ μ1 13 b = w b)
    (K : ∀ μ : MM, OC μ1 μ f (fun b k => ob (clip μ1 3 16 f) (clip μ1 4 16 (f - 1)) b k (w b)) w 4 0 4 → P none S0 μ ν) (n : Nat) : ∀ (b : Int) (μ : MM) (u4 u5 : AV), 0 ≤ b → b + n = 4 → OC μ1 μ f (fun b k => ob (clip μ1 3 16 f) (clip μ1 4 16 (f - 1)) b k (w b)) w b 0 b → AX κ mX1_open 2 P 22 [aR 9, aR 2, aI f, aI b, u4, u5] [] μ ν := by
  induction n with
  | zero =>
    intro b μ u4 u5 h0 hn hO
    rw [show b = 4 by omega] at hO
    refine aw_blk oX1_open_22 (pc' := 24) (ls' := [_, _, _, _, _, _]) (st' := [_, _]) (cs := []) rfl trivial ?_
    refine aw_icmp_ge (tgt := 104) eX1_open_24 (by decide) (by omega) (by omega) (fun h1 => ?_) (fun h1 => ?_)
    · refine aw_vret eX1_open_104 rfl (Nat.le_refl _) (Nat.le_refl _) ?_
      exact K μ hO
    · exfalso; omega
  | succ n ih =>
    intro b μ u4 u5 h0 hn hO
    have g := hw b h0 (by omega)
    have e13 : μ 13 = μ1 13 := hO.1 13 (by decide)
    refine aw_blk oX1_open_22 (pc' := 24) (ls' := [_, _, _, _, _, _]) (st' := [_, _]) (cs := []) rfl trivial ?_
    refine aw_icmp_ge (tgt := 104) eX1_open_24 (by decide) (by omega) (by omega) (fun h1 => ?_) (fun h1 => ?_)
    · exfalso; omega
    · refine aw_blk oX1_open_27 (pc' := 46) (ls' := [_, _, _, _, _, _]) (st' := []) (cs := [(_, _), (_, _)]) rfl (⟨⟨by omega, by omega⟩, ⟨by omega, by omega⟩, trivial⟩) ?_
      refine l_opK h3 hf ⟨h0, by omega⟩ g.1 g.2.1 g.2.2 (fun μ' v4 v5 hO' => ?_) 4 0 _ _ (by omega) (by omega) ⟨hO.1.put (by decide), fun x hx => ?_, fun x hx => ?_, fun b' k' q0 q1 q2 q3 q4 => ?_, fun b' q0 q1 => ?_⟩
      · refine aw_blk oX1_open_98 (pc' := 22) (ls' := [_, _, _, _, _, _]) (st' := []) (cs := []) rfl trivial ?_
        exact ih (b + 1) μ' _ _ (by omega) (by omega) hO'
      · rw [up_c (by decide)]
        exact hO.2.1 x hx
      · rw [up_ne (Or.inr (by omega))]
        exact hO.2.2.1 x hx
      · rw [up_c (by decide)]
        exact hO.2.2.2.1 b' k' q0 q1 q2 q3 q4
      · by_cases e : b' = b
        · rw [e, show 4 * f + b = f * 4 + b by omega, up_at, e13]
          exact g.2.2
        · rw [up_ne (Or.inr (by omega))]
          exact hO.2.2.2.2 b' q0 (by omega)

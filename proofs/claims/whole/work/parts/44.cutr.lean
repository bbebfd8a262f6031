/-! ===== the reference's cut of one frame, whole ===== -/
/-- the opened dots while they are filled -/
def OM (μ1 μ : MM) (f : Int) (g : Int → Int → Int) (b k : Int) : Prop := SR [77] μ1 μ ∧ (∀ x : Int, (x < 16 * f ∨ 16 * f + 16 ≤ x) → μ 77 x = μ1 77 x) ∧ ∀ b' k' : Int, 0 ≤ b' → b' < 4 → 0 ≤ k' → k' < 4 → (b' < b ∨ (b' = b ∧ k' < k)) → μ 77 (16 * f + dAt b' k') = g b' k'
theorem l_openK {κ : KX} {μ1 : MM} {ν : ML} {P : Option AV → List SH → MM → ML → Prop} {f ls B L F b : Int} {w : Int → Int} (h3 : ∀ i : Int, 0 ≤ i → i < 160 → 0 ≤ μ1 56 i ∧ μ1 56 i ≤ 15) (hf : 0 ≤ f ∧ f < 10) (hb : 0 ≤ b ∧ b < 4) (hw : 0 ≤ w b ∧ w b < 11) (hfw : f = 0 → 9 ≤ w b) (ew : μ1 76 (4 * f + b) = w b)
    (K : ∀ (μ : MM) (u7 u8 u9 u10 u11 u12 u13 u14 : AV), OM μ1 μ f (fun b k => ob (clip μ1 56 16 f) (clip μ1 77 16 (f - 1)) b k (w b)) (b + 1) 0 → AX κ mX12_cutFrame 2 P 489 [aR 55, aI f, aI ls, aI B, aI L, aI F, aI b, u7, u8, u9, u10, u11, u12, u13, u14] [] μ ν) (n : Nat) : ∀ (k : Int) (μ : MM) (u8 u9 u10 u11 u12 u13 u14 : AV), 0 ≤ k → k + n = 4 → OM μ1 μ f (fun b k => ob (clip μ1 56 16 f) (clip μ1 77 16 (f - 1)) b k (w b)) b k → AX κ mX12_cutFrame 2 P 440 [aR 55, aI f, aI ls, aI B, aI L, aI F, aI b, aI k, u8, u9, u10, u11, u12, u13, u14] [] μ ν := by
  induction n with
  | zero =>
    intro k μ u8 u9 u10 u11 u12 u13 u14 h0 hn hO
    refine aw_blk oX12_cutFrame_440 (pc' := 443) (ls' := [_, _, _, _, _, _, _, _, _, _, _, _, _, _, _]) (st' := [_, _]) (cs := []) rfl trivial ?_
    refine aw_icmp_ge (tgt := 489) eX12_cutFrame_443 (by decide) (by omega) (by omega) (fun h1 => ?_) (fun h1 => ?_)
    · exact K μ _ _ _ _ _ _ _ _ ⟨hO.1, hO.2.1, fun b' k' q0 q1 q2 q3 q4 => hO.2.2 b' k' q0 q1 q2 q3 (by omega)⟩
    · exfalso; omega
  | succ n ih =>
    intro k μ u8 u9 u10 u11 u12 u13 u14 h0 hn hO
    have hd := (sv b k hb (by omega)).2
    have e56 : μ 56 = μ1 56 := hO.1 56 (by decide)
    have e76 : μ 76 = μ1 76 := hO.1 76 (by decide)
    have c56 : clip μ 56 16 f = clip μ1 56 16 f := clip_congr (fun _ _ _ => by rw [e56])
    have c77 : clip μ 77 16 (f - 1) = clip μ1 77 16 (f - 1) := clip_congr (fun d q0 q1 => hO.2.1 _ (by omega))
    have C := c_openBy (κ := κ) (μ := μ) (ν := ν) (f := f) (b := b) (k := k) (w := w b) (by rw [e56]; exact h3) hf hb (by omega) hw hfw
    rw [c56, c77] at C
    refine aw_blk oX12_cutFrame_440 (pc' := 443) (ls' := [_, _, _, _, _, _, _, _, _, _, _, _, _, _, _]) (st' := [_, _]) (cs := []) rfl trivial ?_
    refine aw_icmp_ge (tgt := 489) eX12_cutFrame_443 (by decide) (by omega) (by omega) (fun h1 => ?_) (fun h1 => ?_)
    · exfalso; omega
    · refine aw_blk oX12_cutFrame_446 (pc' := 458) (ls' := [_, _, _, _, _, _, _, _, _, _, _, _, _, _, _]) (st' := [_, _, _, _]) (cs := []) rfl trivial ?_
      refine aw_ciS (rest := [_, _]) (c_dotAt hb (by omega)) kX12_dotAt eX12_cutFrame_458 lX12_cutFrame_458 rfl rfl (Nat.le_of_ble_eq_true rfl) ⟨Nat.le_of_ble_eq_true rfl, Nat.le_of_ble_eq_true rfl⟩ ⟨Nat.le_refl _, Nat.le_refl _⟩ ?_
      refine aw_blk oX12_cutFrame_461 (pc' := 479) (ls' := [_, _, _, _, _, _, _, _, _, _, _, _, _, _, _]) (st' := [_, _, _, _, _, _, _]) (cs := [(_, _)]) rfl (⟨⟨by omega, by omega⟩, trivial⟩) ?_
      rw [e76, ew]
      refine aw_ciV (rest := [_, _]) C kX12_openBy eX12_cutFrame_479 lX12_cutFrame_479 rfl rfl rfl rfl (Nat.le_of_ble_eq_true rfl) ⟨Nat.le_of_ble_eq_true rfl, Nat.le_of_ble_eq_true rfl⟩ ⟨Nat.le_refl _, Nat.le_refl _⟩ ?_
      refine aw_blk oX12_cutFrame_482 (pc' := 440) (ls' := [_, _, _, _, _, _, _, _, _, _, _, _, _, _, _]) (st' := []) (cs := [(_, _)]) rfl (⟨⟨by omega, by omega⟩, trivial⟩) ?_
      refine ih (k + 1) _ _ _ _ _ _ _ _ (by omega) (by omega) ⟨hO.1.put (by decide), fun x hx => ?_, fun b' k' q0 q1 q2 q3 q4 => ?_⟩
      · rw [up_ne (Or.inr (by omega))]
        exact hO.2.1 x hx
      · by_cases e : dAt b' k' = dAt b k
        · obtain ⟨rfl, rfl⟩ := dAt_inj hb (by omega) ⟨q0, q1⟩ ⟨q2, q3⟩ e
          rw [up_at]
        · rw [up_ne (Or.inr (by omega))]
          refine hO.2.2 b' k' q0 q1 q2 q3 ?_
          by_cases e2 : b' = b ∧ k' = k
          · exact absurd (by rw [e2.1, e2.2]) e
          · omega
theorem l_openB {κ : KX} {μ1 : MM} {ν : ML} {P : Option AV → List SH → MM → ML → Prop} {f ls B L F : Int} {w : Int → Int} (h3 : ∀ i : Int, 0 ≤ i → i < 160 → 0 ≤ μ1 56 i ∧ μ1 56 i ≤ 15) (hf : 0 ≤ f ∧ f < 10) (hw : ∀ b : Int, 0 ≤ b → b < 4 → (0 ≤ w b ∧ w b < 11) ∧ (f = 0 → 9 ≤ w b) ∧ μ1 76 (4 * f + b) = w b)
    (K : ∀ μ : MM, OM μ1 μ f (fun b k => ob (clip μ1 56 16 f) (clip μ1 77 16 (f - 1)) b k (w b)) 4 0 → P none S0 μ ν) (n : Nat) : ∀ (b : Int) (μ : MM) (u7 u8 u9 u10 u11 u12 u13 u14 : AV), 0 ≤ b → b + n = 4 → OM μ1 μ f (fun b k => ob (clip μ1 56 16 f) (clip μ1 77 16 (f - 1)) b k (w b)) b 0 → AX κ mX12_cutFrame 2 P 431 [aR 55, aI f, aI ls, aI B, aI L, aI F, aI b, u7, u8, u9, u10, u11, u12, u13, u14] [] μ ν := by
  induction n with
  | zero =>
    intro b μ u7 u8 u9 u10 u11 u12 u13 u14 h0 hn hO
    rw [show b = 4 by omega] at hO
    refine aw_blk oX12_cutFrame_431 (pc' := 434) (ls' := [_, _, _, _, _, _, _, _, _, _, _, _, _, _, _]) (st' := [_, _]) (cs := []) rfl trivial ?_
    refine aw_icmp_ge (tgt := 495) eX12_cutFrame_434 (by decide) (by omega) (by omega) (fun h1 => ?_) (fun h1 => ?_)
    · refine aw_vret eX12_cutFrame_495 rfl (Nat.le_refl _) (Nat.le_refl _) ?_
      exact K μ hO
    · exfalso; omega
  | succ n ih =>
    intro b μ u7 u8 u9 u10 u11 u12 u13 u14 h0 hn hO
    have g := hw b h0 (by omega)
    refine aw_blk oX12_cutFrame_431 (pc' := 434) (ls' := [_, _, _, _, _, _, _, _, _, _, _, _, _, _, _]) (st' := [_, _]) (cs := []) rfl trivial ?_
    refine aw_icmp_ge (tgt := 495) eX12_cutFrame_434 (by decide) (by omega) (by omega) (fun h1 => ?_) (fun h1 => ?_)
    · exfalso; omega
    · refine aw_blk oX12_cutFrame_437 (pc' := 440) (ls' := [_, _, _, _, _, _, _, _, _, _, _, _, _, _, _]) (st' := []) (cs := []) rfl trivial ?_
      refine l_openK h3 hf ⟨h0, by omega⟩ g.1 g.2.1 g.2.2 (fun μ' v7 v8 v9 v10 v11 v12 v13 v14 hO' => ?_) 4 0 μ _ _ _ _ _ _ _ (by omega) (by omega) hO
      refine aw_blk oX12_cutFrame_489 (pc' := 431) (ls' := [_, _, _, _, _, _, _, _, _, _, _, _, _, _, _]) (st' := []) (cs := []) rfl trivial ?_
      exact ih (b + 1) μ' _ _ _ _ _ _ _ _ (by omega) (by omega) hO'
/-- what one cut changes -/
def CM (μ μ' : MM) (f : Int) : Prop := SR [76, 77, 78, 79, 80] μ μ' ∧ (∀ x : Int, (x < 4 * f ∨ 4 * f + 4 ≤ x) → μ' 76 x = μ 76 x) ∧ (∀ x : Int, (x < 16 * f ∨ 16 * f + 16 ≤ x) → μ' 77 x = μ 77 x) ∧ (∀ x : Int, x ≠ f → μ' 78 x = μ 78 x ∧ μ' 79 x = μ 79 x)

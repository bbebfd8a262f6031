/-! ===== MARKS ===== -/
def RK (μ : MM) : Prop := PR 48 71 8 0 255 μ
abbrev csK : List Nat := [48, 71]
def unl (r : Int → Int) (known is s : Int) : Int := bAnd (bXor (r s) is) known
def blm (r : Int → Int) (known is : Int) : Nat → Int
  | 0 => 0
  | n + 1 => bOr (blm r known is n) (if unl r known is (n : Int) = 0 then bShl 1 (n : Int) else 0)
theorem blm_R {r : Int → Int} {known is : Int} : ∀ n : Nat, R32 (blm r known is n)
  | 0 => r0
  | n + 1 => bOr_R
def blB (z : Nat → Bool) : Nat → Int
  | 0 => 0
  | n + 1 => bOr (blB z n) (if z n = true then bShl 1 (n : Int) else 0)
theorem blB_eq {r : Int → Int} {known is : Int} : ∀ n : Nat, blm r known is n = blB (fun k => decide (unl r known is (k : Int) = 0)) n
  | 0 => rfl
  | n + 1 => by
    simp only [blm, blB, blB_eq n, decide_eq_true_eq]
theorem blB_congr {z y : Nat → Bool} : ∀ n : Nat, (∀ k, k < n → z k = y k) → blB z n = blB y n
  | 0, _ => rfl
  | n + 1, h => by simp only [blB, blB_congr n (fun k hk => h k (by omega)), h n (by omega)]
theorem blB_bits : ∀ a b c d e f g h : Bool, ∀ k : Nat, k < 8 → bitk (blB (fun n => [a, b, c, d, e, f, g, h].getD n false) 8) (k : Int) = if [a, b, c, d, e, f, g, h].getD k false = true then 1 else 0 := by decide +kernel
theorem blm_bit {r : Int → Int} {known is : Int} (k : Nat) (hk : k < 8) : bitk (blm r known is 8) (k : Int) = if unl r known is (k : Int) = 0 then 1 else 0 := by
  rw [blB_eq]
  generalize hz : (fun k : Nat => decide (unl r known is (k : Int) = 0)) = z
  have e : blB z 8 = blB (fun n => [z 0, z 1, z 2, z 3, z 4, z 5, z 6, z 7].getD n false) 8 := blB_congr 8 (fun k hk => by
    rcases (show k = 0 ∨ k = 1 ∨ k = 2 ∨ k = 3 ∨ k = 4 ∨ k = 5 ∨ k = 6 ∨ k = 7 by omega) with rfl | rfl | rfl | rfl | rfl | rfl | rfl | rfl <;> rfl)
  rw [e, blB_bits _ _ _ _ _ _ _ _ k hk]
  have e2 : [z 0, z 1, z 2, z 3, z 4, z 5, z 6, z 7].getD k false = z k := by
    rcases (show k = 0 ∨ k = 1 ∨ k = 2 ∨ k = 3 ∨ k = 4 ∨ k = 5 ∨ k = 6 ∨ k = 7 by omega) with rfl | rfl | rfl | rfl | rfl | rfl | rfl | rfl <;> rfl
  rw [e2, ← hz]
  simp only [decide_eq_true_eq]
def prB (r : Int → Int) (known is a b : Int) : Bool := decide (¬ unl r known is a = 0 ∧ ¬ unl r known is b = 0 ∧ bAnd (unl r known is a) (unl r known is b) = 0)
def stP (q : Bool) (a b : Int) (s : Int × Int) : Int × Int := if q = true then (s.1 + 1, if s.2 < 0 then 10 * a + b else s.2) else s
def inL (pr : Int → Int → Bool) (a : Int) : Nat → Int → Int × Int → Int × Int
  | 0, _, s => s
  | n + 1, b, s => inL pr a n (b + 1) (stP (pr a b) a b s)
def outL (pr : Int → Int → Bool) : Nat → Int → Int × Int → Int × Int
  | 0, _, s => s
  | n + 1, a, s => outL pr n (a + 1) (inL pr a n (a + 1) s)
theorem inL_keep {pr : Int → Int → Bool} {a : Int} : ∀ (n : Nat) (b p f : Int), 0 ≤ f → (inL pr a n b (p, f)).2 = f
  | 0, _, _, _, _ => rfl
  | n + 1, b, p, f, h => by
    simp only [inL, stP]
    split
    · rw [if_neg (by omega)]; exact inL_keep n _ _ _ h
    · exact inL_keep n _ _ _ h
theorem outL_keep {pr : Int → Int → Bool} : ∀ (n : Nat) (a : Int) (s : Int × Int), 0 ≤ s.2 → (outL pr n a s).2 = s.2
  | 0, _, _, _ => rfl
  | n + 1, a, (p, f), h => by
    simp only [outL]
    have e := inL_keep (pr := pr) (a := a) n (a + 1) p f h
    rw [outL_keep n (a + 1) _ (by rw [e]; exact h), e]
theorem inL_bd {pr : Int → Int → Bool} {a : Int} (ha : 0 ≤ a ∧ a ≤ 8) : ∀ (n : Nat) (b p f : Int), 0 ≤ b → b + n ≤ 8 → -6 ≤ f → f ≤ 100 → 0 ≤ p → p ≤ (inL pr a n b (p, f)).1 ∧ (inL pr a n b (p, f)).1 ≤ p + n ∧ -6 ≤ (inL pr a n b (p, f)).2 ∧ (inL pr a n b (p, f)).2 ≤ 100
  | 0, b, p, f, _, _, _, _, _ => by simp [inL]; omega
  | n + 1, b, p, f, hb, hn, h1, h2, h3 => by
    simp only [inL, stP]
    split
    · have := inL_bd (pr := pr) ha n (b + 1) (p + 1) (if f < 0 then 10 * a + b else f) (by omega) (by omega) (by split <;> omega) (by split <;> omega) (by omega)
      omega
    · have := inL_bd (pr := pr) ha n (b + 1) p f (by omega) (by omega) h1 h2 h3
      omega
theorem outL_bd {pr : Int → Int → Bool} : ∀ (n : Nat) (a : Int) (s : Int × Int), 0 ≤ a → a + n ≤ 8 → -6 ≤ s.2 → s.2 ≤ 100 → 0 ≤ s.1 → 0 ≤ (outL pr n a s).1 ∧ (outL pr n a s).1 ≤ s.1 + 8 * n ∧ -6 ≤ (outL pr n a s).2 ∧ (outL pr n a s).2 ≤ 100
  | 0, a, s, _, _, _, _, _ => by simp [outL]; omega
  | n + 1, a, (p, f), ha, hn, h1, h2, h3 => by
    simp only [outL]
    have e := inL_bd (pr := pr) (a := a) (by omega) n (a + 1) p f (by omega) (by omega) h1 h2 h3
    have := outL_bd (pr := pr) n (a + 1) (inL pr a n (a + 1) (p, f)) (by omega) (by omega) (by omega) (by omega) (by omega)
    omega
theorem c_X5_change {κ : KX} {μ : MM} {ν : ML} {t v : Int} (ht : 0 ≤ t ∧ t < 8) : AE κ 0 mX5_change [aR 47, aI t, aI v] μ ν (some (aI (μ 48 t))) (up μ 48 t v) ν := by
  refine AMet.of kX5_change.1 (Nat.le_of_ble_eq_true rfl) rfl ?_
  refine aw_blk oX5_change_0 (pc' := 15) (ls' := [_, _, _, _]) (st' := [_]) (cs := [(_, _), (_, _)]) rfl (⟨⟨by omega, by omega⟩, ⟨by omega, by omega⟩, trivial⟩) ?_
  refine aw_iret eX5_change_15 rfl (Nat.le_refl _) (Nat.le_refl _) ?_
  exact pe_i rfl rfl rfl
theorem c_X5_unlike {κ : KX} {μ : MM} {ν : ML} {t k i : Int} (ht : 0 ≤ t ∧ t < 8) : AE κ 0 mX5_unlike [aR 47, aI t, aI k, aI i] μ ν (some (aI (unl (μ 48) k i t))) μ ν := by
  refine AMet.of kX5_unlike.1 (Nat.le_of_ble_eq_true rfl) rfl ?_
  refine aw_blk oX5_unlike_0 (pc' := 10) (ls' := [_, _, _, _]) (st' := [_]) (cs := [(_, _)]) rfl (⟨⟨by omega, by omega⟩, trivial⟩) ?_
  refine aw_iret eX5_unlike_10 rfl (Nat.le_refl _) (Nat.le_refl _) ?_
  exact pe_i rfl rfl rfl
theorem unl_R {r : Int → Int} {k i t : Int} : R32 (unl r k i t) := bAnd_R
theorem c_isPair {κ : KX} {μ : MM} {ν : ML} {a b k i : Int} (ha : 0 ≤ a ∧ a < 8) (hb : 0 ≤ b ∧ b < 8) : AE κ 1 mX5_isPair [aR 47, aI a, aI b, aI k, aI i] μ ν (some (aI (if prB (μ 48) k i a b = true then 1 else 0))) μ ν := by
  refine AMet.of kX5_isPair.1 (Nat.le_of_ble_eq_true rfl) rfl ?_
  refine aw_blk oX5_isPair_0 (pc' := 5) (ls' := [_, _, _, _, _, _, _]) (st' := [_, _, _, _]) (cs := []) rfl trivial ?_
  refine aw_ciV (rest := []) (c_X5_unlike (by omega)) kX5_unlike eX5_isPair_5 lX5_isPair_5 rfl rfl rfl rfl (Nat.le_of_ble_eq_true rfl) ⟨Nat.le_of_ble_eq_true rfl, Nat.le_of_ble_eq_true rfl⟩ ⟨Nat.le_refl _, Nat.le_refl _⟩ ?_
  refine aw_blk oX5_isPair_8 (pc' := 15) (ls' := [_, _, _, _, _, _, _]) (st' := [_, _, _, _]) (cs := []) rfl trivial ?_
  refine aw_ciV (rest := []) (c_X5_unlike (by omega)) kX5_unlike eX5_isPair_15 lX5_isPair_15 rfl rfl rfl rfl (Nat.le_of_ble_eq_true rfl) ⟨Nat.le_of_ble_eq_true rfl, Nat.le_of_ble_eq_true rfl⟩ ⟨Nat.le_refl _, Nat.le_refl _⟩ ?_
  refine aw_blk oX5_isPair_18 (pc' := 22) (ls' := [_, _, _, _, _, _, _]) (st' := [_]) (cs := []) rfl trivial ?_
  refine aw_if_eq (tgt := 42) eX5_isPair_22 (by decide) (by first | exact bAnd_R | omega) (fun h1 => ?_) (fun h1 => ?_)
  · first
    | (exfalso; omega; done)
    | (refine aw_blk oX5_isPair_42 (pc' := 43) (ls' := [_, _, _, _, _, _, _]) (st' := [_]) (cs := []) rfl trivial ?_
       refine aw_zret eX5_isPair_43 rfl (by first | exact bAnd_R | omega) (Nat.le_refl _) (Nat.le_refl _) ?_
       exact pe_i (by unfold prB; simp only [decide_eq_true_eq]; first | (rw [if_pos ⟨by assumption, by assumption, by assumption⟩]; done) | (rw [if_neg (fun q => by first | exact absurd (by assumption) q.1 | exact absurd (by assumption) q.2.1 | exact absurd q.2.2 (by assumption))]; done)) rfl rfl)
  · first
    | (exfalso; omega; done)
    | (refine aw_blk oX5_isPair_25 (pc' := 27) (ls' := [_, _, _, _, _, _, _]) (st' := [_]) (cs := []) rfl trivial ?_
       refine aw_if_eq (tgt := 42) eX5_isPair_27 (by decide) (by first | exact bAnd_R | omega) (fun h2 => ?_) (fun h2 => ?_)
       · first
         | (exfalso; omega; done)
         | (refine aw_blk oX5_isPair_42 (pc' := 43) (ls' := [_, _, _, _, _, _, _]) (st' := [_]) (cs := []) rfl trivial ?_
            refine aw_zret eX5_isPair_43 rfl (by first | exact bAnd_R | omega) (Nat.le_refl _) (Nat.le_refl _) ?_
            exact pe_i (by unfold prB; simp only [decide_eq_true_eq]; first | (rw [if_pos ⟨by assumption, by assumption, by assumption⟩]; done) | (rw [if_neg (fun q => by first | exact absurd (by assumption) q.1 | exact absurd (by assumption) q.2.1 | exact absurd q.2.2 (by assumption))]; done)) rfl rfl)
       · first
         | (exfalso; omega; done)
         | (refine aw_blk oX5_isPair_30 (pc' := 35) (ls' := [_, _, _, _, _, _, _]) (st' := [_]) (cs := []) rfl trivial ?_
            refine aw_if_ne (tgt := 42) eX5_isPair_35 (by decide) (by first | exact bAnd_R | omega) (fun h3 => ?_) (fun h3 => ?_)
            · first
              | (exfalso; omega; done)
              | (refine aw_blk oX5_isPair_42 (pc' := 43) (ls' := [_, _, _, _, _, _, _]) (st' := [_]) (cs := []) rfl trivial ?_
                 refine aw_zret eX5_isPair_43 rfl (by first | exact bAnd_R | omega) (Nat.le_refl _) (Nat.le_refl _) ?_
                 exact pe_i (by unfold prB; simp only [decide_eq_true_eq]; first | (rw [if_pos ⟨by assumption, by assumption, by assumption⟩]; done) | (rw [if_neg (fun q => by first | exact absurd (by assumption) q.1 | exact absurd (by assumption) q.2.1 | exact absurd q.2.2 (by assumption))]; done)) rfl rfl)
            · first
              | (exfalso; omega; done)
              | (refine aw_blk oX5_isPair_38 (pc' := 43) (ls' := [_, _, _, _, _, _, _]) (st' := [_]) (cs := []) rfl trivial ?_
                 refine aw_zret eX5_isPair_43 rfl (by first | exact bAnd_R | omega) (Nat.le_refl _) (Nat.le_refl _) ?_
                 exact pe_i (by unfold prB; simp only [decide_eq_true_eq]; first | (rw [if_pos ⟨by assumption, by assumption, by assumption⟩]; done) | (rw [if_neg (fun q => by first | exact absurd (by assumption) q.1 | exact absurd (by assumption) q.2.1 | exact absurd q.2.2 (by assumption))]; done)) rfl rfl)))
theorem l_blamed {κ : KX} {μ : MM} {ν : ML} {k i : Int} (n : Nat) : ∀ j : Nat, j + n = 8 → AX κ mX5_blamed 1 (PE (some (aI (blm (μ 48) k i 8))) μ ν) 5 [aR 47, aI k, aI i, aI (blm (μ 48) k i j), aI j] [] μ ν := by
  induction n with
  | zero =>
    intro j hj
    refine aw_blk oX5_blamed_5 (pc' := 9) (ls' := [_, _, _, _, _]) (st' := [_, _]) (cs := []) rfl trivial ?_
    refine aw_icmp_ge (tgt := 36) eX5_blamed_9 (by decide) (by first | exact unl_R | omega) (by first | exact unl_R | omega) (fun h4 => ?_) (fun h4 => ?_)
    · first
      | (exfalso; omega; done)
      | (refine aw_blk oX5_blamed_36 (pc' := 37) (ls' := [_, _, _, _, _]) (st' := [_]) (cs := []) rfl trivial ?_
         refine aw_iret eX5_blamed_37 rfl (Nat.le_refl _) (Nat.le_refl _) ?_
         (have e : j = 8 := by omega)
         subst e
         exact pe_i rfl rfl rfl)
    · first
      | (exfalso; omega; done)
      | (refine aw_blk oX5_blamed_12 (pc' := 17) (ls' := [_, _, _, _, _]) (st' := [_, _, _, _]) (cs := []) rfl trivial ?_
         refine aw_ciV (rest := []) (c_X5_unlike (by omega)) kX5_unlike eX5_blamed_17 lX5_blamed_17 rfl rfl rfl rfl (Nat.le_of_ble_eq_true rfl) ⟨Nat.le_of_ble_eq_true rfl, Nat.le_of_ble_eq_true rfl⟩ ⟨Nat.le_refl _, Nat.le_refl _⟩ ?_
         refine aw_if_ne (tgt := 30) eX5_blamed_20 (by decide) (by first | exact unl_R | omega) (fun h5 => ?_) (fun h5 => ?_)
         · first
           | (exfalso; omega; done)
           | (refine aw_blk oX5_blamed_30 (pc' := 5) (ls' := [_, _, _, _, _]) (st' := []) (cs := []) rfl trivial ?_
              skip)
         · first
           | (exfalso; omega; done)
           | (refine aw_blk oX5_blamed_23 (pc' := 30) (ls' := [_, _, _, _, _]) (st' := []) (cs := []) rfl trivial ?_
              refine aw_blk oX5_blamed_30 (pc' := 5) (ls' := [_, _, _, _, _]) (st' := []) (cs := []) rfl trivial ?_
              skip))
  | succ n ih =>
    intro j hj
    refine aw_blk oX5_blamed_5 (pc' := 9) (ls' := [_, _, _, _, _]) (st' := [_, _]) (cs := []) rfl trivial ?_
    refine aw_icmp_ge (tgt := 36) eX5_blamed_9 (by decide) (by omega) (by omega) (fun h => ?_) (fun h => ?_)
    · exfalso; omega
    · refine aw_blk oX5_blamed_12 (pc' := 17) (ls' := [_, _, _, _, _]) (st' := [_, _, _, _]) (cs := []) rfl trivial ?_
      refine aw_ciV (rest := []) (c_X5_unlike (by omega)) kX5_unlike eX5_blamed_17 lX5_blamed_17 rfl rfl rfl rfl (Nat.le_of_ble_eq_true rfl) ⟨Nat.le_of_ble_eq_true rfl, Nat.le_of_ble_eq_true rfl⟩ ⟨Nat.le_refl _, Nat.le_refl _⟩ ?_
      refine aw_if_ne (tgt := 30) eX5_blamed_20 (by decide) (by exact unl_R) (fun h2 => ?_) (fun h2 => ?_)
      · refine aw_blk oX5_blamed_30 (pc' := 5) (ls' := [_, _, _, _, _]) (st' := []) (cs := []) rfl trivial ?_
        have := ih (j + 1) (by omega)
        simp only [blm] at this
        rw [if_neg h2, bOr_zero (blm_R j)] at this
        exact this
      · refine aw_blk oX5_blamed_23 (pc' := 30) (ls' := [_, _, _, _, _]) (st' := []) (cs := []) rfl trivial ?_
        refine aw_blk oX5_blamed_30 (pc' := 5) (ls' := [_, _, _, _, _]) (st' := []) (cs := []) rfl trivial ?_
        have := ih (j + 1) (by omega)
        simp only [blm] at this
        rw [if_pos h2] at this
        exact this
theorem c_blamed {κ : KX} {μ : MM} {ν : ML} {k i : Int} : AE κ 1 mX5_blamed [aR 47, aI k, aI i] μ ν (some (aI (blm (μ 48) k i 8))) μ ν := by
  refine AMet.of kX5_blamed.1 (Nat.le_of_ble_eq_true rfl) rfl ?_
  refine aw_blk oX5_blamed_0 (pc' := 5) (ls' := [_, _, _, _, _]) (st' := []) (cs := []) rfl trivial ?_
  exact l_blamed 8 0 rfl

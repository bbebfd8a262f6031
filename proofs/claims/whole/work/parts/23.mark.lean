/-! ===== MARKS ===== -/
def RK (μ : MM) : Prop := PR 48 71 8 0 255 μ
abbrev csK : List Nat := [48, 71]
def unl (r : Int → Int) (known is s : Int) : Int := bAnd (bXor (r s) is) known
def blm (r : Int → Int) (known is : Int) : Nat → Int
  | 0 => 0
  | n + 1 => bOr (blm r known is n) (if unl r known is (n : Int) = 0 then bShl 1 (n : Int) else 0)
theorem blm_R {r : Int → Int} {known is : Int} : ∀ n : Nat, R32 (blm r known is n)
  | 0 => r0
  | n + 1 => bOr_R
def blB (z : Nat → Bool) : Nat → Int
  | 0 => 0
  | n + 1 => bOr (blB z n) (if z n = true then bShl 1 (n : Int) else 0)
theorem blB_eq {r : Int → Int} {known is : Int} : ∀ n : Nat, blm r known is n = blB (fun k => decide (unl r known is (k : Int) = 0)) n
  | 0 => rfl
  | n + 1 => by
    simp only [blm, blB, blB_eq n, decide_eq_true_eq]
theorem blB_congr {z y : Nat → Bool} : ∀ n : Nat, (∀ k, k < n → z k = y k) → blB z n = blB y n
  | 0, _ => rfl
  | n + 1, h => by simp only [blB, blB_congr n (fun k hk => h k (by omega)), h n (by omega)]
theorem blB_bits : ∀ a b c d e f g h : Bool, ∀ k : Nat, k < 8 → bitk (blB (fun n => [a, b, c, d, e, f, g, h].getD n false) 8) (k : Int) = if [a, b, c, d, e, f, g, h].getD k false = true then 1 else 0 := by decide +kernel
theorem blm_bit {r : Int → Int} {known is : Int} (k : Nat) (hk : k < 8) : bitk (blm r known is 8) (k : Int) = if unl r known is (k : Int) = 0 then 1 else 0 := by
  rw [blB_eq]
  generalize hz : (fun k : Nat => decide (unl r known is (k : Int) = 0)) = z
  have e : blB z 8 = blB (fun n => [z 0, z 1, z 2, z 3, z 4, z 5, z 6, z 7].getD n false) 8 := blB_congr 8 (fun k hk => by
    rcases (show k = 0 ∨ k = 1 ∨ k = 2 ∨ k = 3 ∨ k = 4 ∨ k = 5 ∨ k = 6 ∨ k = 7 by omega) with rfl | rfl | rfl | rfl | rfl | rfl | rfl | rfl <;> rfl)
  rw [e, blB_bits _ _ _ _ _ _ _ _ k hk]
  have e2 : [z 0, z 1, z 2, z 3, z 4, z 5, z 6, z 7].getD k false = z k := by
    rcases (show k = 0 ∨ k = 1 ∨ k = 2 ∨ k = 3 ∨ k = 4 ∨ k = 5 ∨ k = 6 ∨ k = 7 by omega) with rfl | rfl | rfl | rfl | rfl | rfl | rfl | rfl <;> rfl
  rw [e2, ← hz]
  simp only [decide_eq_true_eq]
def prB (r : Int → Int) (known is a b : Int) : Bool := decide (¬ unl r known is a = 0 ∧ ¬ unl r known is b = 0 ∧ bAnd (unl r known is a) (unl r known is b) = 0)
def stP (q : Bool) (a b : Int) (s : Int × Int) : Int × Int := if q = true then (s.1 + 1, if s.2 < 0 then 10 * a + b else s.2) else s
def inL (pr : Int → Int → Bool) (a : Int) : Nat → Int → Int × Int → Int × Int
  | 0, _, s => s
  | n + 1, b, s => inL pr a n (b + 1) (stP (pr a b) a b s)
def outL (pr : Int → Int → Bool) : Nat → Int → Int × Int → Int × Int
  | 0, _, s => s
  | n + 1, a, s => outL pr n (a + 1) (inL pr a n (a + 1) s)
theorem inL_keep {pr : Int → Int → Bool} {a : Int} : ∀ (n : Nat) (b p f : Int), 0 ≤ f → (inL pr a n b (p, f)).2 = f
  | 0, _, _, _, _ => rfl
  | n + 1, b, p, f, h => by
    simp only [inL, stP]
    split
    · rw [if_neg (by omega)]; exact inL_keep n _ _ _ h
    · exact inL_keep n _ _ _ h
theorem outL_keep {pr : Int → Int → Bool} : ∀ (n : Nat) (a : Int) (s : Int × Int), 0 ≤ s.2 → (outL pr n a s).2 = s.2
  | 0, _, _, _ => rfl
  | n + 1, a, (p, f), h => by
    simp only [outL]
    have e := inL_keep (pr := pr) (a := a) n (a + 1) p f h
    rw [outL_keep n (a + 1) _ (by rw [e]; exact h), e]
theorem inL_bd {pr : Int → Int → Bool} {a : Int} (ha : 0 ≤ a ∧ a ≤ 8) : ∀ (n : Nat) (b p f : Int), 0 ≤ b → b + n ≤ 8 → -6 ≤ f → f ≤ 100 → 0 ≤ p → p ≤ (inL pr a n b (p, f)).1 ∧ (inL pr a n b (p, f)).1 ≤ p + n ∧ -6 ≤ (inL pr a n b (p, f)).2 ∧ (inL pr a n b (p, f)).2 ≤ 100
  | 0, b, p, f, _, _, _, _, _ => by simp [inL]; omega
  | n + 1, b, p, f, hb, hn, h1, h2, h3 => by
    simp only [inL, stP]
    split
    · have := inL_bd (pr := pr) ha n (b + 1) (p + 1) (if f < 0 then 10 * a + b else f) (by omega) (by omega) (by split <;> omega) (by split <;> omega) (by omega)
      omega
    · have := inL_bd (pr := pr) ha n (b + 1) p f (by omega) (by omega) h1 h2 h3
      omega
theorem outL_bd {pr : Int → Int → Bool} : ∀ (n : Nat) (a : Int) (s : Int × Int), 0 ≤ a → a + n ≤ 8 → -6 ≤ s.2 → s.2 ≤ 100 → 0 ≤ s.1 → 0 ≤ (outL pr n a s).1 ∧ (outL pr n a s).1 ≤ s.1 + 8 * n ∧ -6 ≤ (outL pr n a s).2 ∧ (outL pr n a s).2 ≤ 100
  | 0, a, s, _, _, _, _, _ => by simp [outL]; omega
  | n + 1, a, (p, f), ha, hn, h1, h2, h3 => by
    simp only [outL]
    have e := inL_bd (pr := pr) (a := a) (by omega) n (a + 1) p f (by omega) (by omega) h1 h2 h3
    have := outL_bd (pr := pr) n (a + 1) (inL pr a n (a + 1) (p, f)) (by omega) (by omega) (by omega) (by omega) (by omega)
    omega
theorem c_X5_change {κ : KX} {μ : MM} {ν : ML} {t v : Int} (ht : 0 ≤ t ∧ t < 8) : AE κ 0 mX5_change [aR 47, aI t, aI v] μ ν (some (aI (μ 48 t))) (up μ 48 t v) ν := by
  refine AMet.of kX5_change.1 (Nat.le_of_ble_eq_true rfl) rfl ?_
  refine aw_blk oX5_change_0 (pc' := 15) (ls' := [_, _, _, _]) (st' := [_]) (cs := [(_, _), (_, _)]) rfl (⟨⟨by omega, by omega⟩, ⟨by omega, by omega⟩, trivial⟩) ?_
  refine aw_iret eX5_change_15 rfl (Nat.le_refl _) (Nat.le_refl _) ?_
  exact pe_i rfl rfl rfl
theorem c_X5_unlike {κ : KX} {μ : MM} {ν : ML} {t k i : Int} (ht : 0 ≤ t ∧ t < 8) : AE κ 0 mX5_unlike [aR 47, aI t, aI k, aI i] μ ν (some (aI (unl (μ 48) k i t))) μ ν := by
  refine AMet.of kX5_unlike.1 (Nat.le_of_ble_eq_true rfl) rfl ?_
  refine aw_blk oX5_unlike_0 (pc' := 10) (ls' := [_, _, _, _]) (st' := [_]) (cs := [(_, _)]) rfl (⟨⟨by omega, by omega⟩, trivial⟩) ?_
  refine aw_iret eX5_unlike_10 rfl (Nat.le_refl _) (Nat.le_refl _) ?_
  exact pe_i rfl rfl rfl
theorem unl_R {r : Int → Int} {k i t : Int} : R32 (unl r k i t) := bAnd_R
theorem c_isPair {κ : KX} {μ : MM} {ν : ML} {a b k i : Int} (ha : 0 ≤ a ∧ a < 8) (hb : 0 ≤ b ∧ b < 8) : AE κ 1 mX5_isPair [aR 47, aI a, aI b, aI k, aI i] μ ν (some (aI (if prB (μ 48) k i a b = true then 1 else 0))) μ ν := by
  refine AMet.of kX5_isPair.1 (Nat.le_of_ble_eq_true rfl) rfl ?_
  refine aw_blk oX5_isPair_0 (pc' := 5) (ls' := [_, _, _, _, _, _, _]) (st' := [_, _, _, _]) (cs := []) rfl trivial ?_
  refine aw_ciV (rest := []) (c_X5_unlike (by omega)) kX5_unlike eX5_isPair_5 lX5_isPair_5 rfl rfl rfl rfl (Nat.le_of_ble_eq_true rfl) ⟨Nat.le_of_ble_eq_true rfl, Nat.le_of_ble_eq_true rfl⟩ ⟨Nat.le_refl _, Nat.le_refl _⟩ ?_
  refine aw_blk oX5_isPair_8 (pc' := 15) (ls' := [_, _, _, _, _, _, _]) (st' := [_, _, _, _]) (cs := []) rfl trivial ?_
  refine aw_ciV (rest := []) (c_X5_unlike (by omega)) kX5_unlike eX5_isPair_15 lX5_isPair_15 rfl rfl rfl rfl (Nat.le_of_ble_eq_true rfl) ⟨Nat.le_of_ble_eq_true rfl, Nat.le_of_ble_eq_true rfl⟩ ⟨Nat.le_refl _, Nat.le_refl _⟩ ?_
  refine aw_blk oX5_isPair_18 (pc' := 22) (ls' := [_, _, _, _, _, _, _]) (st' := [_]) (cs := []) rfl trivial ?_
  refine aw_if_eq (tgt := 42) eX5_isPair_22 (by decide) (by first | exact bAnd_R | omega) (fun h1 => ?_) (fun h1 => ?_)
  · first
    | (exfalso; omega; done)
    | (refine aw_blk oX5_isPair_42 (pc' := 43) (ls' := [_, _, _, _, _, _, _]) (st' := [_]) (cs := []) rfl trivial ?_
       refine aw_zret eX5_isPair_43 rfl (by first | exact bAnd_R | omega) (Nat.le_refl _) (Nat.le_refl _) ?_
       exact pe_i (by unfold prB; simp only [decide_eq_true_eq]; first | (rw [if_pos ⟨by assumption, by assumption, by assumption⟩]; done) | (rw [if_neg (fun q => by first | exact absurd (by assumption) q.1 | exact absurd (by assumption) q.2.1 | exact absurd q.2.2 (by assumption))]; done)) rfl rfl)
  · first
    | (exfalso; omega; done)
    | (refine aw_blk oX5_isPair_25 (pc' := 27) (ls' := [_, _, _, _, _, _, _]) (st' := [_]) (cs := []) rfl trivial ?_
       refine aw_if_eq (tgt := 42) eX5_isPair_27 (by decide) (by first | exact bAnd_R | omega) (fun h2 => ?_) (fun h2 => ?_)
       · first
         | (exfalso; omega; done)
         | (refine aw_blk oX5_isPair_42 (pc' := 43) (ls' := [_, _, _, _, _, _, _]) (st' := [_]) (cs := []) rfl trivial ?_
            refine aw_zret eX5_isPair_43 rfl (by first | exact bAnd_R | omega) (Nat.le_refl _) (Nat.le_refl _) ?_
            exact pe_i (by unfold prB; simp only [decide_eq_true_eq]; first | (rw [if_pos ⟨by assumption, by assumption, by assumption⟩]; done) | (rw [if_neg (fun q => by first | exact absurd (by assumption) q.1 | exact absurd (by assumption) q.2.1 | exact absurd q.2.2 (by assumption))]; done)) rfl rfl)
       · first
         | (exfalso; omega; done)
         | (refine aw_blk oX5_isPair_30 (pc' := 35) (ls' := [_, _, _, _, _, _, _]) (st' := [_]) (cs := []) rfl trivial ?_
            refine aw_if_ne (tgt := 42) eX5_isPair_35 (by decide) (by first | exact bAnd_R | omega) (fun h3 => ?_) (fun h3 => ?_)
            · first
              | (exfalso; omega; done)
              | (refine aw_blk oX5_isPair_42 (pc' := 43) (ls' := [_, _, _, _, _, _, _]) (st' := [_]) (cs := []) rfl trivial ?_
                 refine aw_zret eX5_isPair_43 rfl (by first | exact bAnd_R | omega) (Nat.le_refl _) (Nat.le_refl _) ?_
                 exact pe_i (by unfold prB; simp only [decide_eq_true_eq]; first | (rw [if_pos ⟨by assumption, by assumption, by assumption⟩]; done) | (rw [if_neg (fun q => by first | exact absurd (by assumption) q.1 | exact absurd (by assumption) q.2.1 | exact absurd q.2.2 (by assumption))]; done)) rfl rfl)
            · first
              | (exfalso; omega; done)
              | (refine aw_blk oX5_isPair_38 (pc' := 43) (ls' := [_, _, _, _, _, _, _]) (st' := [_]) (cs := []) rfl trivial ?_
                 refine aw_zret eX5_isPair_43 rfl (by first | exact bAnd_R | omega) (Nat.le_refl _) (Nat.le_refl _) ?_
                 exact pe_i (by unfold prB; simp only [decide_eq_true_eq]; first | (rw [if_pos ⟨by assumption, by assumption, by assumption⟩]; done) | (rw [if_neg (fun q => by first | exact absurd (by assumption) q.1 | exact absurd (by assumption) q.2.1 | exact absurd q.2.2 (by assumption))]; done)) rfl rfl)))
theorem l_blamed {κ : KX} {μ : MM} {ν : ML} {k i : Int} (n : Nat) : ∀ j : Nat, j + n = 8 → AX κ mX5_blamed 1 (PE (some (aI (blm (μ 48) k i 8))) μ ν) 5 [aR 47, aI k, aI i, aI (blm (μ 48) k i j), aI j] [] μ ν := by
  induction n with
  | zero =>
    intro j hj
    refine aw_blk oX5_blamed_5 (pc' := 9) (ls' := [_, _, _, _, _]) (st' := [_, _]) (cs := []) rfl trivial ?_
    refine aw_icmp_ge (tgt := 36) eX5_blamed_9 (by decide) (by first | exact unl_R | omega) (by first | exact unl_R | omega) (fun h4 => ?_) (fun h4 => ?_)
    · first
      | (exfalso; omega; done)
      | (refine aw_blk oX5_blamed_36 (pc' := 37) (ls' := [_, _, _, _, _]) (st' := [_]) (cs := []) rfl trivial ?_
         refine aw_iret eX5_blamed_37 rfl (Nat.le_refl _) (Nat.le_refl _) ?_
         (have e : j = 8 := by omega)
         subst e
         exact pe_i rfl rfl rfl)
    · first
      | (exfalso; omega; done)
      | (refine aw_blk oX5_blamed_12 (pc' := 17) (ls' := [_, _, _, _, _]) (st' := [_, _, _, _]) (cs := []) rfl trivial ?_
         refine aw_ciV (rest := []) (c_X5_unlike (by omega)) kX5_unlike eX5_blamed_17 lX5_blamed_17 rfl rfl rfl rfl (Nat.le_of_ble_eq_true rfl) ⟨Nat.le_of_ble_eq_true rfl, Nat.le_of_ble_eq_true rfl⟩ ⟨Nat.le_refl _, Nat.le_refl _⟩ ?_
         refine aw_if_ne (tgt := 30) eX5_blamed_20 (by decide) (by first | exact unl_R | omega) (fun h5 => ?_) (fun h5 => ?_)
         · first
           | (exfalso; omega; done)
           | (refine aw_blk oX5_blamed_30 (pc' := 5) (ls' := [_, _, _, _, _]) (st' := []) (cs := []) rfl trivial ?_
              skip)
         · first
           | (exfalso; omega; done)
           | (refine aw_blk oX5_blamed_23 (pc' := 30) (ls' := [_, _, _, _, _]) (st' := []) (cs := []) rfl trivial ?_
              refine aw_blk oX5_blamed_30 (pc' := 5) (ls' := [_, _, _, _, _]) (st' := []) (cs := []) rfl trivial ?_
              skip))
  | succ n ih =>
    intro j hj
    refine aw_blk oX5_blamed_5 (pc' := 9) (ls' := [_, _, _, _, _]) (st' := [_, _]) (cs := []) rfl trivial ?_
    refine aw_icmp_ge (tgt := 36) eX5_blamed_9 (by decide) (by omega) (by omega) (fun h => ?_) (fun h => ?_)
    · exfalso; omega
    · refine aw_blk oX5_blamed_12 (pc' := 17) (ls' := [_, _, _, _, _]) (st' := [_, _, _, _]) (cs := []) rfl trivial ?_
      refine aw_ciV (rest := []) (c_X5_unlike (by omega)) kX5_unlike eX5_blamed_17 lX5_blamed_17 rfl rfl rfl rfl (Nat.le_of_ble_eq_true rfl) ⟨Nat.le_of_ble_eq_true rfl, Nat.le_of_ble_eq_true rfl⟩ ⟨Nat.le_refl _, Nat.le_refl _⟩ ?_
      refine aw_if_ne (tgt := 30) eX5_blamed_20 (by decide) (by exact unl_R) (fun h2 => ?_) (fun h2 => ?_)
      · refine aw_blk oX5_blamed_30 (pc' := 5) (ls' := [_, _, _, _, _]) (st' := []) (cs := []) rfl trivial ?_
        have := ih (j + 1) (by omega)
        simp only [blm] at this
        rw [if_neg h2, bOr_zero (blm_R j)] at this
        exact this
      · refine aw_blk oX5_blamed_23 (pc' := 30) (ls' := [_, _, _, _, _]) (st' := []) (cs := []) rfl trivial ?_
        refine aw_blk oX5_blamed_30 (pc' := 5) (ls' := [_, _, _, _, _]) (st' := []) (cs := []) rfl trivial ?_
        have := ih (j + 1) (by omega)
        simp only [blm] at this
        rw [if_pos h2] at this
        exact this
theorem c_blamed {κ : KX} {μ : MM} {ν : ML} {k i : Int} : AE κ 1 mX5_blamed [aR 47, aI k, aI i] μ ν (some (aI (blm (μ 48) k i 8))) μ ν := by
  refine AMet.of kX5_blamed.1 (Nat.le_of_ble_eq_true rfl) rfl ?_
  refine aw_blk oX5_blamed_0 (pc' := 5) (ls' := [_, _, _, _, _]) (st' := []) (cs := []) rfl trivial ?_
  exact l_blamed 8 0 rfl
theorem l_pairsIn {κ : KX} {μ : MM} {ν : ML} {P : Option AV → List SH → MM → ML → Prop} {k i a : Int} (ha : 0 ≤ a ∧ a < 8) (n : Nat) : ∀ (b p f : Int), a < b → b + n = 8 → AX κ mX5_pairs 2 P 47 [aR 47, aI k, aI i, aI (inL (prB (μ 48) k i) a n b (p, f)).1, aI a, aI 8] [] μ ν → AX κ mX5_pairs 2 P 18 [aR 47, aI k, aI i, aI p, aI a, aI b] [] μ ν := by
  induction n with
  | zero =>
    intro b p f hb hn K
    have e : b = 8 := by omega
    subst e
    refine aw_blk oX5_pairs_18 (pc' := 22) (ls' := [_, _, _, _, _, _]) (st' := [_, _]) (cs := []) rfl trivial ?_
    refine aw_icmp_ge (tgt := 47) eX5_pairs_22 (by decide) (by omega) (by omega) (fun h => ?_) (fun h => ?_)
    · exact K
    · exfalso; omega
  | succ n ih =>
    intro b p f hb hn K
    simp only [inL, stP] at K
    refine aw_blk oX5_pairs_18 (pc' := 22) (ls' := [_, _, _, _, _, _]) (st' := [_, _]) (cs := []) rfl trivial ?_
    refine aw_icmp_ge (tgt := 47) eX5_pairs_22 (by decide) (by omega) (by omega) (fun h => ?_) (fun h => ?_)
    · exfalso; omega
    · refine aw_blk oX5_pairs_25 (pc' := 32) (ls' := [_, _, _, _, _, _]) (st' := [_, _, _, _, _]) (cs := []) rfl trivial ?_
      refine aw_ciV (rest := []) (c_isPair (by omega) (by omega)) kX5_isPair eX5_pairs_32 lX5_pairs_32 rfl rfl rfl rfl (Nat.le_of_ble_eq_true rfl) ⟨Nat.le_of_ble_eq_true rfl, Nat.le_of_ble_eq_true rfl⟩ ⟨Nat.le_refl _, Nat.le_refl _⟩ ?_
      refine aw_if_eq (tgt := 41) eX5_pairs_35 (by decide) (by (split <;> decide)) (fun h2 => ?_) (fun h2 => ?_)
      · refine aw_blk oX5_pairs_41 (pc' := 18) (ls' := [_, _, _, _, _, _]) (st' := []) (cs := []) rfl trivial ?_
        by_cases q : prB (μ 48) k i a b = true
        · rw [if_pos q] at h2; cases h2
        · rw [if_neg q] at K
          exact ih (b + 1) p f (by omega) (by omega) K
      · refine aw_blk oX5_pairs_38 (pc' := 41) (ls' := [_, _, _, _, _, _]) (st' := []) (cs := []) rfl trivial ?_
        refine aw_blk oX5_pairs_41 (pc' := 18) (ls' := [_, _, _, _, _, _]) (st' := []) (cs := []) rfl trivial ?_
        by_cases q : prB (μ 48) k i a b = true
        · rw [if_pos q] at K
          exact ih (b + 1) (p + 1) _ (by omega) (by omega) K
        · rw [if_neg q] at h2; exact absurd rfl h2
theorem l_pairs {κ : KX} {μ : MM} {ν : ML} {k i : Int} (n : Nat) : ∀ (a : Int) (s : Int × Int) (u5 : AV), 0 ≤ a → a + n = 8 → AX κ mX5_pairs 2 (PE (some (aI (outL (prB (μ 48) k i) n a s).1)) μ ν) 5 [aR 47, aI k, aI i, aI s.1, aI a, u5] [] μ ν := by
  induction n with
  | zero =>
    intro a s u5 ha hn
    have e : a = 8 := by omega
    subst e
    refine aw_blk oX5_pairs_5 (pc' := 9) (ls' := [_, _, _, _, _, _]) (st' := [_, _]) (cs := []) rfl trivial ?_
    refine aw_icmp_ge (tgt := 53) eX5_pairs_9 (by decide) (by omega) (by omega) (fun h => ?_) (fun h => ?_)
    · refine aw_blk oX5_pairs_53 (pc' := 54) (ls' := [_, _, _, _, _, _]) (st' := [_]) (cs := []) rfl trivial ?_
      refine aw_iret eX5_pairs_54 rfl (Nat.le_refl _) (Nat.le_refl _) ?_
      exact pe_i rfl rfl rfl
    · exfalso; omega
  | succ n ih =>
    intro a s u5 ha hn
    obtain ⟨p, f⟩ := s
    refine aw_blk oX5_pairs_5 (pc' := 9) (ls' := [_, _, _, _, _, _]) (st' := [_, _]) (cs := []) rfl trivial ?_
    refine aw_icmp_ge (tgt := 53) eX5_pairs_9 (by decide) (by omega) (by omega) (fun h => ?_) (fun h => ?_)
    · exfalso; omega
    · refine aw_blk oX5_pairs_12 (pc' := 18) (ls' := [_, _, _, _, _, _]) (st' := []) (cs := []) rfl trivial ?_
      refine l_pairsIn (by omega) n (a + 1) p f (by omega) (by omega) ?_
      refine aw_blk oX5_pairs_47 (pc' := 5) (ls' := [_, _, _, _, _, _]) (st' := []) (cs := []) rfl trivial ?_
      exact ih (a + 1) (inL (prB (μ 48) k i) a n (a + 1) (p, f)) _ (by omega) (by omega)
theorem c_pairs {κ : KX} {μ : MM} {ν : ML} {k i : Int} : AE κ 2 mX5_pairs [aR 47, aI k, aI i] μ ν (some (aI (outL (prB (μ 48) k i) 8 0 (0, -6)).1)) μ ν := by
  refine AMet.of kX5_pairs.1 (Nat.le_of_ble_eq_true rfl) rfl ?_
  refine aw_blk oX5_pairs_0 (pc' := 5) (ls' := [_, _, _, _, _, _]) (st' := []) (cs := []) rfl trivial ?_
  exact l_pairs 8 0 (0, -6) _ (by omega) (by omega)
theorem l_firstIn {κ : KX} {μ : MM} {ν : ML} {k i a r : Int} (ha : 0 ≤ a ∧ a < 8) (n : Nat) : ∀ (b p : Int), a < b → b + n = 8 → ((inL (prB (μ 48) k i) a n b (p, -6)).2 = -6 → AX κ mX5_firstPair 2 (PE (some (aI r)) μ ν) 46 [aR 47, aI k, aI i, aI a, aI 8] [] μ ν) → (0 ≤ (inL (prB (μ 48) k i) a n b (p, -6)).2 → (inL (prB (μ 48) k i) a n b (p, -6)).2 = r) → AX κ mX5_firstPair 2 (PE (some (aI r)) μ ν) 13 [aR 47, aI k, aI i, aI a, aI b] [] μ ν := by
  induction n with
  | zero =>
    intro b p hb hn K1 K2
    have e : b = 8 := by omega
    subst e
    refine aw_blk oX5_firstPair_13 (pc' := 17) (ls' := [_, _, _, _, _]) (st' := [_, _]) (cs := []) rfl trivial ?_
    refine aw_icmp_ge (tgt := 46) eX5_firstPair_17 (by decide) (by omega) (by omega) (fun h => ?_) (fun h => ?_)
    · exact K1 rfl
    · exfalso; omega
  | succ n ih =>
    intro b p hb hn K1 K2
    simp only [inL, stP] at K1 K2
    refine aw_blk oX5_firstPair_13 (pc' := 17) (ls' := [_, _, _, _, _]) (st' := [_, _]) (cs := []) rfl trivial ?_
    refine aw_icmp_ge (tgt := 46) eX5_firstPair_17 (by decide) (by omega) (by omega) (fun h => ?_) (fun h => ?_)
    · exfalso; omega
    · refine aw_blk oX5_firstPair_20 (pc' := 26) (ls' := [_, _, _, _, _]) (st' := [_, _, _, _, _]) (cs := []) rfl trivial ?_
      refine aw_ciV (rest := []) (c_isPair (by omega) (by omega)) kX5_isPair eX5_firstPair_26 lX5_firstPair_26 rfl rfl rfl rfl (Nat.le_of_ble_eq_true rfl) ⟨Nat.le_of_ble_eq_true rfl, Nat.le_of_ble_eq_true rfl⟩ ⟨Nat.le_refl _, Nat.le_refl _⟩ ?_
      refine aw_if_eq (tgt := 40) eX5_firstPair_29 (by decide) (by (split <;> decide)) (fun h2 => ?_) (fun h2 => ?_)
      · refine aw_blk oX5_firstPair_40 (pc' := 13) (ls' := [_, _, _, _, _]) (st' := []) (cs := []) rfl trivial ?_
        by_cases q : prB (μ 48) k i a b = true
        · rw [if_pos q] at h2; cases h2
        · rw [if_neg q] at K1 K2
          exact ih (b + 1) p (by omega) (by omega) K1 K2
      · refine aw_blk oX5_firstPair_32 (pc' := 39) (ls' := [_, _, _, _, _]) (st' := [_]) (cs := []) rfl trivial ?_
        by_cases q : prB (μ 48) k i a b = true
        · rw [if_pos q] at K2
          simp only [show ((-6 : Int) < 0) from by decide, if_true] at K2
          have e := inL_keep (pr := prB (μ 48) k i) (a := a) n (b + 1) (p + 1) (10 * a + b) (by omega)
          rw [e] at K2
          refine aw_iret eX5_firstPair_39 rfl (Nat.le_refl _) (Nat.le_refl _) ?_
          exact pe_i (K2 (by omega)) rfl rfl
        · rw [if_neg q] at h2; exact absurd rfl h2
theorem l_first {κ : KX} {μ : MM} {ν : ML} {k i : Int} (n : Nat) : ∀ (a p : Int) (u4 : AV), 0 ≤ a → a + n = 8 → AX κ mX5_firstPair 2 (PE (some (aI (outL (prB (μ 48) k i) n a (p, -6)).2)) μ ν) 2 [aR 47, aI k, aI i, aI a, u4] [] μ ν := by
  induction n with
  | zero =>
    intro a p u4 ha hn
    have e : a = 8 := by omega
    subst e
    refine aw_blk oX5_firstPair_2 (pc' := 5) (ls' := [_, _, _, _, _]) (st' := [_, _]) (cs := []) rfl trivial ?_
    refine aw_icmp_ge (tgt := 52) eX5_firstPair_5 (by decide) (by omega) (by omega) (fun h => ?_) (fun h => ?_)
    · refine aw_blk oX5_firstPair_52 (pc' := 54) (ls' := [_, _, _, _, _]) (st' := [_]) (cs := []) rfl trivial ?_
      refine aw_iret eX5_firstPair_54 rfl (Nat.le_refl _) (Nat.le_refl _) ?_
      exact pe_i rfl rfl rfl
    · exfalso; omega
  | succ n ih =>
    intro a p u4 ha hn
    refine aw_blk oX5_firstPair_2 (pc' := 5) (ls' := [_, _, _, _, _]) (st' := [_, _]) (cs := []) rfl trivial ?_
    refine aw_icmp_ge (tgt := 52) eX5_firstPair_5 (by decide) (by omega) (by omega) (fun h => ?_) (fun h => ?_)
    · exfalso; omega
    · refine aw_blk oX5_firstPair_8 (pc' := 13) (ls' := [_, _, _, _, _]) (st' := []) (cs := []) rfl trivial ?_
      have hbd := inL_bd (pr := prB (μ 48) k i) (a := a) (by omega) n (a + 1) 0 (-6) (by omega) (by omega) (by omega) (by omega) (by omega)
      refine l_firstIn (p := p) (by omega) n (a + 1) (by omega) (by omega) (fun e => ?_) (fun e => ?_)
      · refine aw_blk oX5_firstPair_46 (pc' := 2) (ls' := [_, _, _, _, _]) (st' := []) (cs := []) rfl trivial ?_
        have := ih (a + 1) (inL (prB (μ 48) k i) a n (a + 1) (p, -6)).1 (aI 8) (by omega) (by omega)
        have e2 : ((inL (prB (μ 48) k i) a n (a + 1) (p, -6)).1, (-6 : Int)) = inL (prB (μ 48) k i) a n (a + 1) (p, -6) := Prod.ext rfl e.symm
        rw [e2] at this
        exact this
      · simp only [outL]
        exact (outL_keep n (a + 1) _ e).symm
theorem c_firstPair {κ : KX} {μ : MM} {ν : ML} {k i : Int} : AE κ 2 mX5_firstPair [aR 47, aI k, aI i] μ ν (some (aI (outL (prB (μ 48) k i) 8 0 (0, -6)).2)) μ ν := by
  refine AMet.of kX5_firstPair.1 (Nat.le_of_ble_eq_true rfl) rfl ?_
  refine aw_blk oX5_firstPair_0 (pc' := 2) (ls' := [_, _, _, _, _]) (st' := []) (cs := []) rfl trivial ?_
  exact l_first 8 0 0 _ (by omega) (by omega)
theorem law_mark {κ : KX} {μ : MM} {ν : ML} {t v : Int} (h : RK μ) (ht : R32 t) (hv : R32 v) : LawM RK csK κ mX11_mark mX12_mark [aI t, aI v] μ ν := by
  by_cases c1 : 0 ≤ t ∧ t ≤ 7
  · by_cases c2 : 0 ≤ v ∧ v ≤ 255
    · have g1 := h t (by omega) (by omega)
      refine ⟨μ 48 t, up μ 48 t v, up (up μ 48 t v) 71 t v, ?_, ?_, by omega, ?_, SR.two.sub (by decide)⟩
      · refine AMet.of kX11_mark.1 (Nat.le_of_ble_eq_true rfl) rfl ?_
        refine aw_blk oX11_mark_0 (pc' := 1) (ls' := [_, _, _]) (st' := [_]) (cs := []) rfl trivial ?_
        refine aw_ciS (rest := []) (c_X11_isSeer (by omega)) kX11_isSeer eX11_mark_1 lX11_mark_1 rfl rfl (Nat.le_of_ble_eq_true rfl) ⟨Nat.le_of_ble_eq_true rfl, Nat.le_of_ble_eq_true rfl⟩ ⟨Nat.le_refl _, Nat.le_refl _⟩ ?_
        refine aw_if_ne (tgt := 9) eX11_mark_4 (by decide) bt_r (fun hh => have h6 := bt1 hh; ?_) (fun hh => have h6 := bt0 hh; ?_)
        · first
          | (exfalso; omega; done)
          | (refine aw_blk oX11_mark_9 (pc' := 14) (ls' := [_, _, _]) (st' := [_, _, _]) (cs := []) rfl trivial ?_
             refine aw_ciS (rest := []) (c_X11_between (by omega) (by omega) (by omega)) kX11_between eX11_mark_14 lX11_mark_14 rfl rfl (Nat.le_of_ble_eq_true rfl) ⟨Nat.le_of_ble_eq_true rfl, Nat.le_of_ble_eq_true rfl⟩ ⟨Nat.le_refl _, Nat.le_refl _⟩ ?_
             refine aw_if_ne (tgt := 23) eX11_mark_17 (by decide) bt_r (fun hh => have h7 := bt1 hh; ?_) (fun hh => have h7 := bt0 hh; ?_)
             · first
               | (exfalso; omega; done)
               | (refine aw_blk oX11_mark_23 (pc' := 29) (ls' := [_, _, _]) (st' := [_, _, _]) (cs := []) rfl trivial ?_
                  refine aw_ciV (rest := []) (c_X5_change (by omega)) kX5_change eX11_mark_29 lX11_mark_29 rfl rfl rfl rfl (Nat.le_of_ble_eq_true rfl) ⟨Nat.le_of_ble_eq_true rfl, Nat.le_of_ble_eq_true rfl⟩ ⟨Nat.le_refl _, Nat.le_refl _⟩ ?_
                  refine aw_iret eX11_mark_32 rfl (Nat.le_refl _) (Nat.le_refl _) ?_
                  exact pe_i rfl rfl rfl)
             · first
               | (exfalso; omega; done)
               | (refine aw_blk oX11_mark_20 (pc' := 22) (ls' := [_, _, _]) (st' := [_]) (cs := []) rfl trivial ?_
                  refine aw_iret eX11_mark_22 rfl (Nat.le_refl _) (Nat.le_refl _) ?_
                  exact pe_i rfl rfl rfl))
        · first
          | (exfalso; omega; done)
          | (refine aw_blk oX11_mark_7 (pc' := 8) (ls' := [_, _, _]) (st' := [_]) (cs := []) rfl trivial ?_
             refine aw_iret eX11_mark_8 rfl (Nat.le_refl _) (Nat.le_refl _) ?_
             exact pe_i rfl rfl rfl)
      · refine AMet.of kX12_mark.1 (Nat.le_of_ble_eq_true rfl) rfl ?_
        refine aw_blk oX12_mark_0 (pc' := 1) (ls' := [_, _, _, _]) (st' := [_]) (cs := []) rfl trivial ?_
        refine aw_ciS (rest := []) (c_X12_isSeer (by omega)) kX12_isSeer eX12_mark_1 lX12_mark_1 rfl rfl (Nat.le_of_ble_eq_true rfl) ⟨Nat.le_of_ble_eq_true rfl, Nat.le_of_ble_eq_true rfl⟩ ⟨Nat.le_refl _, Nat.le_refl _⟩ ?_
        refine aw_if_ne (tgt := 9) eX12_mark_4 (by decide) bt_r (fun hh => have h8 := bt1 hh; ?_) (fun hh => have h8 := bt0 hh; ?_)
        · first
          | (exfalso; omega; done)
          | (refine aw_blk oX12_mark_9 (pc' := 14) (ls' := [_, _, _, _]) (st' := [_, _, _]) (cs := []) rfl trivial ?_
             refine aw_ciS (rest := []) (c_X12_in (by omega) (by omega) (by omega)) kX12_in eX12_mark_14 lX12_mark_14 rfl rfl (Nat.le_of_ble_eq_true rfl) ⟨Nat.le_of_ble_eq_true rfl, Nat.le_of_ble_eq_true rfl⟩ ⟨Nat.le_refl _, Nat.le_refl _⟩ ?_
             refine aw_if_ne (tgt := 23) eX12_mark_17 (by decide) bt_r (fun hh => have h9 := bt1 hh; ?_) (fun hh => have h9 := bt0 hh; ?_)
             · first
               | (exfalso; omega; done)
               | (refine aw_blk oX12_mark_23 (pc' := 38) (ls' := [_, _, _, _]) (st' := [_]) (cs := [(_, _), (_, _)]) rfl (⟨⟨by omega, by omega⟩, ⟨by omega, by omega⟩, trivial⟩) ?_
                  refine aw_iret eX12_mark_38 rfl (Nat.le_refl _) (Nat.le_refl _) ?_
                  exact pe_i (by rw [up_c (by decide)]; exact g1.1) rfl rfl)
             · first
               | (exfalso; omega; done)
               | (refine aw_blk oX12_mark_20 (pc' := 22) (ls' := [_, _, _, _]) (st' := [_]) (cs := []) rfl trivial ?_
                  refine aw_iret eX12_mark_22 rfl (Nat.le_refl _) (Nat.le_refl _) ?_
                  exact pe_i (by rw [up_c (by decide)]; exact g1.1) rfl rfl))
        · first
          | (exfalso; omega; done)
          | (refine aw_blk oX12_mark_7 (pc' := 8) (ls' := [_, _, _, _]) (st' := [_]) (cs := []) rfl trivial ?_
             refine aw_iret eX12_mark_8 rfl (Nat.le_refl _) (Nat.le_refl _) ?_
             exact pe_i (by rw [up_c (by decide)]; exact g1.1) rfl rfl)
      exact PR.up2 h (by decide) c2.1 c2.2
    · refine ⟨-2, μ, μ, ?_, ?_, by decide, h, SR.rf⟩
      · refine AMet.of kX11_mark.1 (Nat.le_of_ble_eq_true rfl) rfl ?_
        refine aw_blk oX11_mark_0 (pc' := 1) (ls' := [_, _, _]) (st' := [_]) (cs := []) rfl trivial ?_
        refine aw_ciS (rest := []) (c_X11_isSeer (by omega)) kX11_isSeer eX11_mark_1 lX11_mark_1 rfl rfl (Nat.le_of_ble_eq_true rfl) ⟨Nat.le_of_ble_eq_true rfl, Nat.le_of_ble_eq_true rfl⟩ ⟨Nat.le_refl _, Nat.le_refl _⟩ ?_
        refine aw_if_ne (tgt := 9) eX11_mark_4 (by decide) bt_r (fun hh => have h10 := bt1 hh; ?_) (fun hh => have h10 := bt0 hh; ?_)
        · first
          | (exfalso; omega; done)
          | (refine aw_blk oX11_mark_9 (pc' := 14) (ls' := [_, _, _]) (st' := [_, _, _]) (cs := []) rfl trivial ?_
             refine aw_ciS (rest := []) (c_X11_between (by omega) (by omega) (by omega)) kX11_between eX11_mark_14 lX11_mark_14 rfl rfl (Nat.le_of_ble_eq_true rfl) ⟨Nat.le_of_ble_eq_true rfl, Nat.le_of_ble_eq_true rfl⟩ ⟨Nat.le_refl _, Nat.le_refl _⟩ ?_
             refine aw_if_ne (tgt := 23) eX11_mark_17 (by decide) bt_r (fun hh => have h11 := bt1 hh; ?_) (fun hh => have h11 := bt0 hh; ?_)
             · first
               | (exfalso; omega; done)
               | (refine aw_blk oX11_mark_23 (pc' := 29) (ls' := [_, _, _]) (st' := [_, _, _]) (cs := []) rfl trivial ?_
                  refine aw_ciV (rest := []) (c_X5_change (by omega)) kX5_change eX11_mark_29 lX11_mark_29 rfl rfl rfl rfl (Nat.le_of_ble_eq_true rfl) ⟨Nat.le_of_ble_eq_true rfl, Nat.le_of_ble_eq_true rfl⟩ ⟨Nat.le_refl _, Nat.le_refl _⟩ ?_
                  refine aw_iret eX11_mark_32 rfl (Nat.le_refl _) (Nat.le_refl _) ?_
                  exact pe_i rfl rfl rfl)
             · first
               | (exfalso; omega; done)
               | (refine aw_blk oX11_mark_20 (pc' := 22) (ls' := [_, _, _]) (st' := [_]) (cs := []) rfl trivial ?_
                  refine aw_iret eX11_mark_22 rfl (Nat.le_refl _) (Nat.le_refl _) ?_
                  exact pe_i rfl rfl rfl))
        · first
          | (exfalso; omega; done)
          | (refine aw_blk oX11_mark_7 (pc' := 8) (ls' := [_, _, _]) (st' := [_]) (cs := []) rfl trivial ?_
             refine aw_iret eX11_mark_8 rfl (Nat.le_refl _) (Nat.le_refl _) ?_
             exact pe_i rfl rfl rfl)
      · refine AMet.of kX12_mark.1 (Nat.le_of_ble_eq_true rfl) rfl ?_
        refine aw_blk oX12_mark_0 (pc' := 1) (ls' := [_, _, _, _]) (st' := [_]) (cs := []) rfl trivial ?_
        refine aw_ciS (rest := []) (c_X12_isSeer (by omega)) kX12_isSeer eX12_mark_1 lX12_mark_1 rfl rfl (Nat.le_of_ble_eq_true rfl) ⟨Nat.le_of_ble_eq_true rfl, Nat.le_of_ble_eq_true rfl⟩ ⟨Nat.le_refl _, Nat.le_refl _⟩ ?_
        refine aw_if_ne (tgt := 9) eX12_mark_4 (by decide) bt_r (fun hh => have h12 := bt1 hh; ?_) (fun hh => have h12 := bt0 hh; ?_)
        · first
          | (exfalso; omega; done)
          | (refine aw_blk oX12_mark_9 (pc' := 14) (ls' := [_, _, _, _]) (st' := [_, _, _]) (cs := []) rfl trivial ?_
             refine aw_ciS (rest := []) (c_X12_in (by omega) (by omega) (by omega)) kX12_in eX12_mark_14 lX12_mark_14 rfl rfl (Nat.le_of_ble_eq_true rfl) ⟨Nat.le_of_ble_eq_true rfl, Nat.le_of_ble_eq_true rfl⟩ ⟨Nat.le_refl _, Nat.le_refl _⟩ ?_
             refine aw_if_ne (tgt := 23) eX12_mark_17 (by decide) bt_r (fun hh => have h13 := bt1 hh; ?_) (fun hh => have h13 := bt0 hh; ?_)
             · first
               | (exfalso; omega; done)
               | (refine aw_blk oX12_mark_23 (pc' := 38) (ls' := [_, _, _, _]) (st' := [_]) (cs := [(_, _), (_, _)]) rfl (⟨⟨by omega, by omega⟩, ⟨by omega, by omega⟩, trivial⟩) ?_
                  refine aw_iret eX12_mark_38 rfl (Nat.le_refl _) (Nat.le_refl _) ?_
                  exact pe_i rfl rfl rfl)
             · first
               | (exfalso; omega; done)
               | (refine aw_blk oX12_mark_20 (pc' := 22) (ls' := [_, _, _, _]) (st' := [_]) (cs := []) rfl trivial ?_
                  refine aw_iret eX12_mark_22 rfl (Nat.le_refl _) (Nat.le_refl _) ?_
                  exact pe_i rfl rfl rfl))
        · first
          | (exfalso; omega; done)
          | (refine aw_blk oX12_mark_7 (pc' := 8) (ls' := [_, _, _, _]) (st' := [_]) (cs := []) rfl trivial ?_
             refine aw_iret eX12_mark_8 rfl (Nat.le_refl _) (Nat.le_refl _) ?_
             exact pe_i rfl rfl rfl)
  · refine ⟨-1, μ, μ, ?_, ?_, by decide, h, SR.rf⟩
    · refine AMet.of kX11_mark.1 (Nat.le_of_ble_eq_true rfl) rfl ?_
      refine aw_blk oX11_mark_0 (pc' := 1) (ls' := [_, _, _]) (st' := [_]) (cs := []) rfl trivial ?_
      refine aw_ciS (rest := []) (c_X11_isSeer (by omega)) kX11_isSeer eX11_mark_1 lX11_mark_1 rfl rfl (Nat.le_of_ble_eq_true rfl) ⟨Nat.le_of_ble_eq_true rfl, Nat.le_of_ble_eq_true rfl⟩ ⟨Nat.le_refl _, Nat.le_refl _⟩ ?_
      refine aw_if_ne (tgt := 9) eX11_mark_4 (by decide) bt_r (fun hh => have h14 := bt1 hh; ?_) (fun hh => have h14 := bt0 hh; ?_)
      · first
        | (exfalso; omega; done)
        | (refine aw_blk oX11_mark_9 (pc' := 14) (ls' := [_, _, _]) (st' := [_, _, _]) (cs := []) rfl trivial ?_
           refine aw_ciS (rest := []) (c_X11_between (by omega) (by omega) (by omega)) kX11_between eX11_mark_14 lX11_mark_14 rfl rfl (Nat.le_of_ble_eq_true rfl) ⟨Nat.le_of_ble_eq_true rfl, Nat.le_of_ble_eq_true rfl⟩ ⟨Nat.le_refl _, Nat.le_refl _⟩ ?_
           refine aw_if_ne (tgt := 23) eX11_mark_17 (by decide) bt_r (fun hh => have h15 := bt1 hh; ?_) (fun hh => have h15 := bt0 hh; ?_)
           · first
             | (exfalso; omega; done)
             | (refine aw_blk oX11_mark_23 (pc' := 29) (ls' := [_, _, _]) (st' := [_, _, _]) (cs := []) rfl trivial ?_
                refine aw_ciV (rest := []) (c_X5_change (by omega)) kX5_change eX11_mark_29 lX11_mark_29 rfl rfl rfl rfl (Nat.le_of_ble_eq_true rfl) ⟨Nat.le_of_ble_eq_true rfl, Nat.le_of_ble_eq_true rfl⟩ ⟨Nat.le_refl _, Nat.le_refl _⟩ ?_
                refine aw_iret eX11_mark_32 rfl (Nat.le_refl _) (Nat.le_refl _) ?_
                exact pe_i rfl rfl rfl)
           · first
             | (exfalso; omega; done)
             | (refine aw_blk oX11_mark_20 (pc' := 22) (ls' := [_, _, _]) (st' := [_]) (cs := []) rfl trivial ?_
                refine aw_iret eX11_mark_22 rfl (Nat.le_refl _) (Nat.le_refl _) ?_
                exact pe_i rfl rfl rfl))
      · first
        | (exfalso; omega; done)
        | (refine aw_blk oX11_mark_7 (pc' := 8) (ls' := [_, _, _]) (st' := [_]) (cs := []) rfl trivial ?_
           refine aw_iret eX11_mark_8 rfl (Nat.le_refl _) (Nat.le_refl _) ?_
           exact pe_i rfl rfl rfl)
    · refine AMet.of kX12_mark.1 (Nat.le_of_ble_eq_true rfl) rfl ?_
      refine aw_blk oX12_mark_0 (pc' := 1) (ls' := [_, _, _, _]) (st' := [_]) (cs := []) rfl trivial ?_
      refine aw_ciS (rest := []) (c_X12_isSeer (by omega)) kX12_isSeer eX12_mark_1 lX12_mark_1 rfl rfl (Nat.le_of_ble_eq_true rfl) ⟨Nat.le_of_ble_eq_true rfl, Nat.le_of_ble_eq_true rfl⟩ ⟨Nat.le_refl _, Nat.le_refl _⟩ ?_
      refine aw_if_ne (tgt := 9) eX12_mark_4 (by decide) bt_r (fun hh => have h16 := bt1 hh; ?_) (fun hh => have h16 := bt0 hh; ?_)
      · first
        | (exfalso; omega; done)
        | (refine aw_blk oX12_mark_9 (pc' := 14) (ls' := [_, _, _, _]) (st' := [_, _, _]) (cs := []) rfl trivial ?_
           refine aw_ciS (rest := []) (c_X12_in (by omega) (by omega) (by omega)) kX12_in eX12_mark_14 lX12_mark_14 rfl rfl (Nat.le_of_ble_eq_true rfl) ⟨Nat.le_of_ble_eq_true rfl, Nat.le_of_ble_eq_true rfl⟩ ⟨Nat.le_refl _, Nat.le_refl _⟩ ?_
           refine aw_if_ne (tgt := 23) eX12_mark_17 (by decide) bt_r (fun hh => have h17 := bt1 hh; ?_) (fun hh => have h17 := bt0 hh; ?_)
           · first
             | (exfalso; omega; done)
             | (refine aw_blk oX12_mark_23 (pc' := 38) (ls' := [_, _, _, _]) (st' := [_]) (cs := [(_, _), (_, _)]) rfl (⟨⟨by omega, by omega⟩, ⟨by omega, by omega⟩, trivial⟩) ?_
                refine aw_iret eX12_mark_38 rfl (Nat.le_refl _) (Nat.le_refl _) ?_
                exact pe_i rfl rfl rfl)
           · first
             | (exfalso; omega; done)
             | (refine aw_blk oX12_mark_20 (pc' := 22) (ls' := [_, _, _, _]) (st' := [_]) (cs := []) rfl trivial ?_
                refine aw_iret eX12_mark_22 rfl (Nat.le_refl _) (Nat.le_refl _) ?_
                exact pe_i rfl rfl rfl))
      · first
        | (exfalso; omega; done)
        | (refine aw_blk oX12_mark_7 (pc' := 8) (ls' := [_, _, _, _]) (st' := [_]) (cs := []) rfl trivial ?_
           refine aw_iret eX12_mark_8 rfl (Nat.le_refl _) (Nat.le_refl _) ?_
           exact pe_i rfl rfl rfl)
/-! the reference's blame -/
def lwr (known : Int) : Nat → Int
  | 0 => 1
  | n + 1 => lwr known n * (if bitk known (n : Int) = 1 then 2 else 1)
theorem lwr_all : ∀ k : Nat, k < 256 → lwr k 8 = bShl 1 (bitC k) := by decide +kernel
theorem prB_eq {r : Int → Int} {k i : Int} (a b : Nat) (ha : a < 8) (hb : b < 8) : prB r k i a b = decide (bitk (blm r k i 8) a = 0 ∧ bitk (blm r k i 8) b = 0 ∧ bAnd (bAnd (bXor (r a) i) (bXor (r b) i)) k = 0) := by
  unfold prB
  rw [blm_bit a ha, blm_bit b hb, ← bAnd3]
  show decide (_ ∧ _ ∧ bAnd (unl r k i a) (unl r k i b) = 0) = _
  by_cases h1 : unl r k i a = 0 <;> by_cases h2 : unl r k i b = 0 <;> simp [h1, h2] <;> rfl
theorem l_blA {κ : KX} {μ : MM} {ν : ML} {P : Option AV → List SH → MM → ML → Prop} {k i w : Int} (n : Nat) : ∀ (j : Nat) (u7 u8 u9 u10 : AV), j + n = 8 → AX κ mX12_blame 60 P 103 [aR 55, aI k, aI i, aI w, aI (blm (μ 71) k i 8), aI (lwr k 8), aI 8, u7, u8, u9, u10] [] μ ν → AX κ mX12_blame 60 P 43 [aR 55, aI k, aI i, aI w, aI (blm (μ 71) k i j), aI (lwr k j), aI j, u7, u8, u9, u10] [] μ ν := by
  induction n with
  | zero =>
    intro j u7 u8 u9 u10 hj K
    have e : j = 8 := by omega
    subst e
    refine aw_blk oX12_blame_43 (pc' := 47) (ls' := [_, _, _, _, _, _, _, _, _, _, _]) (st' := [_, _]) (cs := []) rfl trivial ?_
    refine aw_icmp_ge (tgt := 103) eX12_blame_47 (by decide) (by omega) (by omega) (fun h => ?_) (fun h => ?_)
    · exact K
    · exfalso; omega
  | succ n ih =>
    intro j u7 u8 u9 u10 hj K
    have T := ih (j + 1) u7 u8 u9 u10 (by omega) K
    simp only [blm, lwr] at T
    refine aw_blk oX12_blame_43 (pc' := 47) (ls' := [_, _, _, _, _, _, _, _, _, _, _]) (st' := [_, _]) (cs := []) rfl trivial ?_
    refine aw_icmp_ge (tgt := 103) eX12_blame_47 (by decide) (by omega) (by omega) (fun h => ?_) (fun h => ?_)
    · exfalso; omega
    · refine aw_blk oX12_blame_50 (pc' := 63) (ls' := [_, _, _, _, _, _, _, _, _, _, _]) (st' := [_, _]) (cs := [(_, _)]) rfl (⟨⟨by omega, by omega⟩, trivial⟩) ?_
      refine aw_if_ne (tgt := 73) eX12_blame_63 (by decide) (by exact bAnd_R) (fun h2 => ?_) (fun h2 => ?_)
      · rw [if_neg (show ¬ unl (μ 71) k i j = 0 from h2)] at T
        refine aw_blk oX12_blame_73 (pc' := 74) (ls' := [_, _, _, _, _, _, _, _, _, _, _]) (st' := [_, _]) (cs := []) rfl trivial ?_
        refine aw_blk oX12_blame_74 (pc' := 86) (ls' := [_, _, _, _, _, _, _, _, _, _, _]) (st' := [_, _, _]) (cs := []) rfl trivial ?_
        refine aw_icmp_ne (tgt := 93) eX12_blame_86 (by decide) (by first | exact bAnd_R | decide) (by first | exact bAnd_R | decide) (fun h3 => ?_) (fun h3 => ?_)
        · rw [if_neg (show ¬ bitk k j = 1 from h3)] at T
          refine aw_blk oX12_blame_93 (pc' := 94) (ls' := [_, _, _, _, _, _, _, _, _, _, _]) (st' := [_, _]) (cs := []) rfl trivial ?_
          refine aw_blk oX12_blame_94 (pc' := 43) (ls' := [_, _, _, _, _, _, _, _, _, _, _]) (st' := []) (cs := []) rfl trivial ?_
          exact T
        · rw [if_pos (show bitk k j = 1 from h3)] at T
          refine aw_blk oX12_blame_89 (pc' := 94) (ls' := [_, _, _, _, _, _, _, _, _, _, _]) (st' := [_, _]) (cs := []) rfl trivial ?_
          refine aw_blk oX12_blame_94 (pc' := 43) (ls' := [_, _, _, _, _, _, _, _, _, _, _]) (st' := []) (cs := []) rfl trivial ?_
          exact T
      · rw [if_pos (show unl (μ 71) k i j = 0 from h2)] at T
        refine aw_blk oX12_blame_66 (pc' := 74) (ls' := [_, _, _, _, _, _, _, _, _, _, _]) (st' := [_, _]) (cs := []) rfl trivial ?_
        refine aw_blk oX12_blame_74 (pc' := 86) (ls' := [_, _, _, _, _, _, _, _, _, _, _]) (st' := [_, _, _]) (cs := []) rfl trivial ?_
        refine aw_icmp_ne (tgt := 93) eX12_blame_86 (by decide) (by first | exact bAnd_R | decide) (by first | exact bAnd_R | decide) (fun h3 => ?_) (fun h3 => ?_)
        · rw [if_neg (show ¬ bitk k j = 1 from h3)] at T
          refine aw_blk oX12_blame_93 (pc' := 94) (ls' := [_, _, _, _, _, _, _, _, _, _, _]) (st' := [_, _]) (cs := []) rfl trivial ?_
          refine aw_blk oX12_blame_94 (pc' := 43) (ls' := [_, _, _, _, _, _, _, _, _, _, _]) (st' := []) (cs := []) rfl trivial ?_
          exact T
        · rw [if_pos (show bitk k j = 1 from h3)] at T
          refine aw_blk oX12_blame_89 (pc' := 94) (ls' := [_, _, _, _, _, _, _, _, _, _, _]) (st' := [_, _]) (cs := []) rfl trivial ?_
          refine aw_blk oX12_blame_94 (pc' := 43) (ls' := [_, _, _, _, _, _, _, _, _, _, _]) (st' := []) (cs := []) rfl trivial ?_
          exact T
theorem l_blI {κ : KX} {μ : MM} {ν : ML} {P : Option AV → List SH → MM → ML → Prop} {k i w lo a : Int} (ha : 0 ≤ a ∧ a < 8) (n : Nat) : ∀ (b p f : Int) (u10 : AV), a < b → b + n = 8 → -6 ≤ f → f ≤ 100 → (∀ u10 : AV, AX κ mX12_blame 60 P 218 [aR 55, aI k, aI i, aI w, aI (blm (μ 71) k i 8), aI lo, aI (inL (prB (μ 71) k i) a n b (p, f)).1, aI (inL (prB (μ 71) k i) a n b (p, f)).2, aI a, aI 8, u10] [] μ ν) → AX κ mX12_blame 60 P 126 [aR 55, aI k, aI i, aI w, aI (blm (μ 71) k i 8), aI lo, aI p, aI f, aI a, aI b, u10] [] μ ν := by
  induction n with
  | zero =>
    intro b p f u10 hb hn hf0 hf1 K
    have e : b = 8 := by omega
    subst e
    refine aw_blk oX12_blame_126 (pc' := 130) (ls' := [_, _, _, _, _, _, _, _, _, _, _]) (st' := [_, _]) (cs := []) rfl trivial ?_
    refine aw_icmp_ge (tgt := 218) eX12_blame_130 (by decide) (by omega) (by omega) (fun h => ?_) (fun h => ?_)
    · exact K _
    · exfalso; omega
  | succ n ih =>
    intro b p f u10 hb hn hf0 hf1 K
    have hq := prB_eq (r := μ 71) (k := k) (i := i) a.toNat b.toNat (by omega) (by omega)
    rw [show ((a.toNat : Nat) : Int) = a by omega, show ((b.toNat : Nat) : Int) = b by omega] at hq
    simp only [inL, stP, hq, decide_eq_true_eq] at K
    have no : ¬ (bitk (blm (μ 71) k i 8) a = 0 ∧ bitk (blm (μ 71) k i 8) b = 0 ∧ bAnd (bAnd (bXor (μ 71 a) i) (bXor (μ 71 b) i)) k = 0) → ∀ u : AV, AX κ mX12_blame 60 P 126 [aR 55, aI k, aI i, aI w, aI (blm (μ 71) k i 8), aI lo, aI p, aI f, aI a, aI (b + 1), u] [] μ ν := by
      intro q u
      simp only [if_neg q] at K
      exact ih (b + 1) p f _ (by omega) (by omega) hf0 hf1 K
    refine aw_blk oX12_blame_126 (pc' := 130) (ls' := [_, _, _, _, _, _, _, _, _, _, _]) (st' := [_, _]) (cs := []) rfl trivial ?_
    refine aw_icmp_ge (tgt := 218) eX12_blame_130 (by decide) (by omega) (by omega) (fun h => ?_) (fun h => ?_)
    · exfalso; omega
    · refine aw_blk oX12_blame_133 (pc' := 140) (ls' := [_, _, _, _, _, _, _, _, _, _, _]) (st' := [_]) (cs := []) rfl trivial ?_
      refine aw_if_ne (tgt := 157) eX12_blame_140 (by decide) (by exact bitk_R _ _) (fun h2 => ?_) (fun h2 => ?_)
      · refine aw_blk oX12_blame_157 (pc' := 158) (ls' := [_, _, _, _, _, _, _, _, _, _, _]) (st' := [_]) (cs := []) rfl trivial ?_
        refine aw_blk oX12_blame_158 (pc' := 162) (ls' := [_, _, _, _, _, _, _, _, _, _, _]) (st' := [_]) (cs := []) rfl trivial ?_
        refine aw_if_eq (tgt := 212) eX12_blame_162 (by decide) (by omega) (fun h3 => ?_) (fun h3 => ?_)
        · refine aw_blk oX12_blame_212 (pc' := 126) (ls' := [_, _, _, _, _, _, _, _, _, _, _]) (st' := []) (cs := []) rfl trivial ?_
          exact no (fun q => h2 q.1) _
        · exfalso; omega
      · refine aw_blk oX12_blame_143 (pc' := 150) (ls' := [_, _, _, _, _, _, _, _, _, _, _]) (st' := [_]) (cs := []) rfl trivial ?_
        refine aw_if_ne (tgt := 157) eX12_blame_150 (by decide) (by exact bitk_R _ _) (fun h3 => ?_) (fun h3 => ?_)
        · refine aw_blk oX12_blame_157 (pc' := 158) (ls' := [_, _, _, _, _, _, _, _, _, _, _]) (st' := [_]) (cs := []) rfl trivial ?_
          refine aw_blk oX12_blame_158 (pc' := 162) (ls' := [_, _, _, _, _, _, _, _, _, _, _]) (st' := [_]) (cs := []) rfl trivial ?_
          refine aw_if_eq (tgt := 212) eX12_blame_162 (by decide) (by omega) (fun h4 => ?_) (fun h4 => ?_)
          · refine aw_blk oX12_blame_212 (pc' := 126) (ls' := [_, _, _, _, _, _, _, _, _, _, _]) (st' := []) (cs := []) rfl trivial ?_
            exact no (fun q => h3 q.2.1) _
          · exfalso; omega
        · refine aw_blk oX12_blame_153 (pc' := 158) (ls' := [_, _, _, _, _, _, _, _, _, _, _]) (st' := [_]) (cs := []) rfl trivial ?_
          refine aw_blk oX12_blame_158 (pc' := 162) (ls' := [_, _, _, _, _, _, _, _, _, _, _]) (st' := [_]) (cs := []) rfl trivial ?_
          refine aw_if_eq (tgt := 212) eX12_blame_162 (by decide) (by omega) (fun h4 => ?_) (fun h4 => ?_)
          · exfalso; omega
          · refine aw_blk oX12_blame_165 (pc' := 186) (ls' := [_, _, _, _, _, _, _, _, _, _, _]) (st' := [_]) (cs := [(_, _), (_, _)]) rfl (⟨⟨by omega, by omega⟩, ⟨by omega, by omega⟩, trivial⟩) ?_
            refine aw_if_ne (tgt := 212) eX12_blame_186 (by decide) (by exact bAnd_R) (fun h5 => ?_) (fun h5 => ?_)
            · refine aw_blk oX12_blame_212 (pc' := 126) (ls' := [_, _, _, _, _, _, _, _, _, _, _]) (st' := []) (cs := []) rfl trivial ?_
              exact no (fun q => h5 q.2.2) _
            · have q : bitk (blm (μ 71) k i 8) a = 0 ∧ bitk (blm (μ 71) k i 8) b = 0 ∧ bAnd (bAnd (bXor (μ 71 a) i) (bXor (μ 71 b) i)) k = 0 := ⟨h2, h3, h5⟩
              simp only [if_pos q] at K
              refine aw_blk oX12_blame_189 (pc' := 194) (ls' := [_, _, _, _, _, _, _, _, _, _, _]) (st' := [_]) (cs := []) rfl trivial ?_
              refine aw_if_ge (tgt := 208) eX12_blame_194 (by decide) (by omega) (fun h6 => ?_) (fun h6 => ?_)
              · simp only [if_neg (show ¬ f < 0 by omega)] at K
                refine aw_blk oX12_blame_208 (pc' := 210) (ls' := [_, _, _, _, _, _, _, _, _, _, _]) (st' := [_]) (cs := []) rfl trivial ?_
                refine aw_blk oX12_blame_210 (pc' := 212) (ls' := [_, _, _, _, _, _, _, _, _, _, _]) (st' := []) (cs := []) rfl trivial ?_
                refine aw_blk oX12_blame_212 (pc' := 126) (ls' := [_, _, _, _, _, _, _, _, _, _, _]) (st' := []) (cs := []) rfl trivial ?_
                exact ih (b + 1) (p + 1) f _ (by omega) (by omega) hf0 hf1 K
              · simp only [if_pos (show f < 0 by omega)] at K
                refine aw_blk oX12_blame_197 (pc' := 210) (ls' := [_, _, _, _, _, _, _, _, _, _, _]) (st' := [_]) (cs := []) rfl trivial ?_
                refine aw_blk oX12_blame_210 (pc' := 212) (ls' := [_, _, _, _, _, _, _, _, _, _, _]) (st' := []) (cs := []) rfl trivial ?_
                refine aw_blk oX12_blame_212 (pc' := 126) (ls' := [_, _, _, _, _, _, _, _, _, _, _]) (st' := []) (cs := []) rfl trivial ?_
                exact ih (b + 1) (p + 1) (10 * a + b) _ (by omega) (by omega) (by omega) (by omega) K
theorem l_blO {κ : KX} {μ : MM} {ν : ML} {P : Option AV → List SH → MM → ML → Prop} {k i w lo : Int} (n : Nat) : ∀ (a : Int) (s : Int × Int) (u9 u10 : AV), 0 ≤ a → a + n = 8 → -6 ≤ s.2 → s.2 ≤ 100 → 0 ≤ s.1 → (∀ u9 u10 : AV, AX κ mX12_blame 60 P 224 [aR 55, aI k, aI i, aI w, aI (blm (μ 71) k i 8), aI lo, aI (outL (prB (μ 71) k i) n a s).1, aI (outL (prB (μ 71) k i) n a s).2, aI 8, u9, u10] [] μ ν) → AX κ mX12_blame 60 P 113 [aR 55, aI k, aI i, aI w, aI (blm (μ 71) k i 8), aI lo, aI s.1, aI s.2, aI a, u9, u10] [] μ ν := by
  induction n with
  | zero =>
    intro a s u9 u10 ha hn h1 h2 h3 K
    have e : a = 8 := by omega
    subst e
    refine aw_blk oX12_blame_113 (pc' := 117) (ls' := [_, _, _, _, _, _, _, _, _, _, _]) (st' := [_, _]) (cs := []) rfl trivial ?_
    refine aw_icmp_ge (tgt := 224) eX12_blame_117 (by decide) (by omega) (by omega) (fun h => ?_) (fun h => ?_)
    · exact K _ _
    · exfalso; omega
  | succ n ih =>
    intro a s u9 u10 ha hn h1 h2 h3 K
    obtain ⟨p, f⟩ := s
    have hbd := inL_bd (pr := prB (μ 71) k i) (a := a) (by omega) n (a + 1) p f (by omega) (by omega) h1 h2 h3
    refine aw_blk oX12_blame_113 (pc' := 117) (ls' := [_, _, _, _, _, _, _, _, _, _, _]) (st' := [_, _]) (cs := []) rfl trivial ?_
    refine aw_icmp_ge (tgt := 224) eX12_blame_117 (by decide) (by omega) (by omega) (fun h => ?_) (fun h => ?_)
    · exfalso; omega
    · refine aw_blk oX12_blame_120 (pc' := 126) (ls' := [_, _, _, _, _, _, _, _, _, _, _]) (st' := []) (cs := []) rfl trivial ?_
      refine l_blI (by omega) n (a + 1) p f _ (by omega) (by omega) h1 h2 (fun u10 => ?_)
      refine aw_blk oX12_blame_218 (pc' := 113) (ls' := [_, _, _, _, _, _, _, _, _, _, _]) (st' := []) (cs := []) rfl trivial ?_
      exact ih (a + 1) (inL (prB (μ 71) k i) a n (a + 1) (p, f)) _ _ (by omega) (by omega) (by omega) (by omega) (by omega) K
theorem unl_eq {μ : MM} (h : RK μ) (k i : Int) (a : Nat) (ha : a < 8) : unl (μ 71) k i a = unl (μ 48) k i a := by
  unfold unl
  rw [(h a (by omega) (by omega)).1]
theorem blm_eq {μ : MM} (h : RK μ) (k i : Int) : ∀ n : Nat, n ≤ 8 → blm (μ 71) k i n = blm (μ 48) k i n
  | 0, _ => rfl
  | n + 1, hn => by simp only [blm, blm_eq h k i n (by omega), unl_eq h k i n (by omega)]
theorem inL_eq {p q : Int → Int → Bool} {a : Int} : ∀ (n : Nat) (b : Int) (s : Int × Int), (∀ c : Int, b ≤ c → c < b + n → p a c = q a c) → inL p a n b s = inL q a n b s
  | 0, _, _, _ => rfl
  | n + 1, b, s, h => by
    simp only [inL]
    rw [h b (by omega) (by omega), inL_eq n (b + 1) _ (fun c h1 h2 => h c (by omega) (by omega))]
theorem outL_eq {p q : Int → Int → Bool} (h : ∀ a b : Int, 0 ≤ a → a < 8 → 0 ≤ b → b < 8 → p a b = q a b) : ∀ (n : Nat) (a : Int) (s : Int × Int), 0 ≤ a → a + n ≤ 8 → outL p n a s = outL q n a s
  | 0, _, _, _, _ => rfl
  | n + 1, a, s, h0, h1 => by
    simp only [outL]
    rw [inL_eq n (a + 1) s (fun c g1 g2 => h a c h0 (by omega) (by omega) (by omega)), outL_eq h n (a + 1) _ (by omega) (by omega)]
theorem prB_same {μ : MM} (h : RK μ) (k i : Int) : ∀ a b : Int, 0 ≤ a → a < 8 → 0 ≤ b → b < 8 → prB (μ 71) k i a b = prB (μ 48) k i a b := by
  intro a b h1 h2 h3 h4
  unfold prB
  have e1 := unl_eq h k i a.toNat (by omega)
  have e2 := unl_eq h k i b.toNat (by omega)
  rw [show ((a.toNat : Nat) : Int) = a by omega] at e1
  rw [show ((b.toNat : Nat) : Int) = b by omega] at e2
  rw [e1, e2]
theorem law_blame {κ : KX} {μ : MM} {ν : ML} {k i w : Int} (h : RK μ) (hk : R32 k) (hi : R32 i) (hw : R32 w) : LawM RK csK κ mX11_blame mX12_blame [aI k, aI i, aI w] μ ν := by
  by_cases c1 : (0 ≤ k ∧ k ≤ 255) ∧ (0 ≤ i ∧ i ≤ 255)
  · by_cases c2 : 0 ≤ w ∧ w ≤ 3
    · have hb := outL_bd (pr := prB (μ 48) k i) 8 0 (0, -6) (by omega) (by omega) (by decide) (by decide) (by decide)
      have hl : lwr k 8 = bShl 1 (bitC k) := by
        have := lwr_all k.toNat (by omega)
        rw [show ((k.toNat : Nat) : Int) = k by omega] at this
        exact this
      have M : ∀ (r : Int), (w = 0 → r = blm (μ 48) k i 8) → (w = 1 → r = (outL (prB (μ 48) k i) 8 0 (0, -6)).1) → (w = 2 → r = (outL (prB (μ 48) k i) 8 0 (0, -6)).2) → (w = 3 → r = lwr k 8) → AE κ 60 mX12_blame [aR 55, aI k, aI i, aI w] μ ν (some (aI r)) μ ν := by
        intro r r0 r1 r2 r3
        have T : AX κ mX12_blame 60 (PE (some (aI r)) μ ν) 43 [aR 55, aI k, aI i, aI w, aI 0, aI 1, aI 0, aU, aU, aU, aU] [] μ ν := by
          refine l_blA 8 0 _ _ _ _ rfl ?_
          refine aw_blk oX12_blame_103 (pc' := 113) (ls' := [_, _, _, _, _, _, _, _, _, _, _]) (st' := []) (cs := []) rfl trivial ?_
          refine l_blO 8 0 (0, -6) _ _ (by omega) (by omega) (by decide) (by decide) (by decide) (fun u9 u10 => ?_)
          rw [outL_eq (prB_same h k i) 8 0 (0, -6) (by omega) (by omega), blm_eq h k i 8 (by omega)]
          refine aw_blk oX12_blame_224 (pc' := 225) (ls' := [_, _, _, _, _, _, _, _, _, _, _]) (st' := [_]) (cs := []) rfl trivial ?_
          refine aw_if_ne (tgt := 233) eX12_blame_225 (by decide) (by omega) (fun h18 => ?_) (fun h18 => ?_)
          · first
            | (exfalso; omega; done)
            | (refine aw_blk oX12_blame_233 (pc' := 235) (ls' := [_, _, _, _, _, _, _, _, _, _, _]) (st' := [_, _]) (cs := []) rfl trivial ?_
               refine aw_icmp_ne (tgt := 243) eX12_blame_235 (by decide) (by omega) (by omega) (fun h19 => ?_) (fun h19 => ?_)
               · first
                 | (exfalso; omega; done)
                 | (refine aw_blk oX12_blame_243 (pc' := 245) (ls' := [_, _, _, _, _, _, _, _, _, _, _]) (st' := [_, _]) (cs := []) rfl trivial ?_
                    refine aw_icmp_ne (tgt := 253) eX12_blame_245 (by decide) (by omega) (by omega) (fun h20 => ?_) (fun h20 => ?_)
                    · first
                      | (exfalso; omega; done)
                      | (refine aw_blk oX12_blame_253 (pc' := 255) (ls' := [_, _, _, _, _, _, _, _, _, _, _]) (st' := [_]) (cs := []) rfl trivial ?_
                         refine aw_iret eX12_blame_255 rfl (Nat.le_refl _) (Nat.le_refl _) ?_
                         exact pe_i (by first | exact (r0 (by omega)).symm | exact (r1 (by omega)).symm | exact (r2 (by omega)).symm | exact (r3 (by omega)).symm) rfl rfl)
                    · first
                      | (exfalso; omega; done)
                      | (refine aw_blk oX12_blame_248 (pc' := 255) (ls' := [_, _, _, _, _, _, _, _, _, _, _]) (st' := [_]) (cs := []) rfl trivial ?_
                         refine aw_iret eX12_blame_255 rfl (Nat.le_refl _) (Nat.le_refl _) ?_
                         exact pe_i (by first | exact (r0 (by omega)).symm | exact (r1 (by omega)).symm | exact (r2 (by omega)).symm | exact (r3 (by omega)).symm) rfl rfl))
               · first
                 | (exfalso; omega; done)
                 | (refine aw_blk oX12_blame_238 (pc' := 255) (ls' := [_, _, _, _, _, _, _, _, _, _, _]) (st' := [_]) (cs := []) rfl trivial ?_
                    refine aw_iret eX12_blame_255 rfl (Nat.le_refl _) (Nat.le_refl _) ?_
                    exact pe_i (by first | exact (r0 (by omega)).symm | exact (r1 (by omega)).symm | exact (r2 (by omega)).symm | exact (r3 (by omega)).symm) rfl rfl))
          · first
            | (exfalso; omega; done)
            | (refine aw_blk oX12_blame_228 (pc' := 255) (ls' := [_, _, _, _, _, _, _, _, _, _, _]) (st' := [_]) (cs := []) rfl trivial ?_
               refine aw_iret eX12_blame_255 rfl (Nat.le_refl _) (Nat.le_refl _) ?_
               exact pe_i (by first | exact (r0 (by omega)).symm | exact (r1 (by omega)).symm | exact (r2 (by omega)).symm | exact (r3 (by omega)).symm) rfl rfl)
        refine AMet.of kX12_blame.1 (Nat.le_of_ble_eq_true rfl) rfl ?_
        refine aw_blk oX12_blame_0 (pc' := 5) (ls' := [_, _, _, _, _, _, _, _, _, _, _]) (st' := [_, _, _]) (cs := []) rfl trivial ?_
        refine aw_ciS (rest := []) (c_X12_in (by omega) (by omega) (by omega)) kX12_in eX12_blame_5 lX12_blame_5 rfl rfl (Nat.le_of_ble_eq_true rfl) ⟨Nat.le_of_ble_eq_true rfl, Nat.le_of_ble_eq_true rfl⟩ ⟨Nat.le_refl _, Nat.le_refl _⟩ ?_
        refine aw_if_eq (tgt := 31) eX12_blame_8 (by decide) bt_r (fun hh => have h21 := bt0 hh; ?_) (fun hh => have h21 := bt1 hh; ?_)
        · first
          | (exfalso; omega; done)
          | (refine aw_blk oX12_blame_31 (pc' := 33) (ls' := [_, _, _, _, _, _, _, _, _, _, _]) (st' := [_]) (cs := []) rfl trivial ?_
             refine aw_iret eX12_blame_33 rfl (Nat.le_refl _) (Nat.le_refl _) ?_
             skip)
        · first
          | (exfalso; omega; done)
          | (refine aw_blk oX12_blame_11 (pc' := 16) (ls' := [_, _, _, _, _, _, _, _, _, _, _]) (st' := [_, _, _]) (cs := []) rfl trivial ?_
             refine aw_ciS (rest := []) (c_X12_in (by omega) (by omega) (by omega)) kX12_in eX12_blame_16 lX12_blame_16 rfl rfl (Nat.le_of_ble_eq_true rfl) ⟨Nat.le_of_ble_eq_true rfl, Nat.le_of_ble_eq_true rfl⟩ ⟨Nat.le_refl _, Nat.le_refl _⟩ ?_
             refine aw_if_eq (tgt := 31) eX12_blame_19 (by decide) bt_r (fun hh => have h22 := bt0 hh; ?_) (fun hh => have h22 := bt1 hh; ?_)
             · first
               | (exfalso; omega; done)
               | (refine aw_blk oX12_blame_31 (pc' := 33) (ls' := [_, _, _, _, _, _, _, _, _, _, _]) (st' := [_]) (cs := []) rfl trivial ?_
                  refine aw_iret eX12_blame_33 rfl (Nat.le_refl _) (Nat.le_refl _) ?_
                  skip)
             · first
               | (exfalso; omega; done)
               | (refine aw_blk oX12_blame_22 (pc' := 25) (ls' := [_, _, _, _, _, _, _, _, _, _, _]) (st' := [_, _, _]) (cs := []) rfl trivial ?_
                  refine aw_ciS (rest := []) (c_X12_in (by omega) (by omega) (by omega)) kX12_in eX12_blame_25 lX12_blame_25 rfl rfl (Nat.le_of_ble_eq_true rfl) ⟨Nat.le_of_ble_eq_true rfl, Nat.le_of_ble_eq_true rfl⟩ ⟨Nat.le_refl _, Nat.le_refl _⟩ ?_
                  refine aw_if_ne (tgt := 34) eX12_blame_28 (by decide) bt_r (fun hh => have h23 := bt1 hh; ?_) (fun hh => have h23 := bt0 hh; ?_)
                  · first
                    | (exfalso; omega; done)
                    | (refine aw_blk oX12_blame_34 (pc' := 43) (ls' := [_, _, _, _, _, _, _, _, _, _, _]) (st' := []) (cs := []) rfl trivial ?_
                       exact T)
                  · first
                    | (exfalso; omega; done)
                    | (refine aw_blk oX12_blame_31 (pc' := 33) (ls' := [_, _, _, _, _, _, _, _, _, _, _]) (st' := [_]) (cs := []) rfl trivial ?_
                       refine aw_iret eX12_blame_33 rfl (Nat.le_refl _) (Nat.le_refl _) ?_
                       skip)))
      rcases (show w = 0 ∨ w = 1 ∨ w = 2 ∨ w = 3 by omega) with rfl | rfl | rfl | rfl
      · refine ⟨blm (μ 48) k i 8, μ, μ, ?_, M _ (fun _ => rfl) (fun q => absurd q (by decide)) (fun q => absurd q (by decide)) (fun q => absurd q (by decide)), blm_R 8, h, SR.rf⟩
        refine AMet.of kX11_blame.1 (Nat.le_of_ble_eq_true rfl) rfl ?_
        refine aw_blk oX11_blame_0 (pc' := 5) (ls' := [_, _, _, _]) (st' := [_, _, _]) (cs := []) rfl trivial ?_
        refine aw_ciS (rest := []) (c_X11_between (by omega) (by omega) (by omega)) kX11_between eX11_blame_5 lX11_blame_5 rfl rfl (Nat.le_of_ble_eq_true rfl) ⟨Nat.le_of_ble_eq_true rfl, Nat.le_of_ble_eq_true rfl⟩ ⟨Nat.le_refl _, Nat.le_refl _⟩ ?_
        refine aw_if_eq (tgt := 22) eX11_blame_8 (by decide) bt_r (fun hh => have h24 := bt0 hh; ?_) (fun hh => have h24 := bt1 hh; ?_)
        · first
          | (exfalso; omega; done)
          | (refine aw_blk oX11_blame_22 (pc' := 24) (ls' := [_, _, _, _]) (st' := [_]) (cs := []) rfl trivial ?_
             refine aw_iret eX11_blame_24 rfl (Nat.le_refl _) (Nat.le_refl _) ?_
             exact pe_i rfl rfl rfl)
        · first
          | (exfalso; omega; done)
          | (refine aw_blk oX11_blame_11 (pc' := 16) (ls' := [_, _, _, _]) (st' := [_, _, _]) (cs := []) rfl trivial ?_
             refine aw_ciS (rest := []) (c_X11_between (by omega) (by omega) (by omega)) kX11_between eX11_blame_16 lX11_blame_16 rfl rfl (Nat.le_of_ble_eq_true rfl) ⟨Nat.le_of_ble_eq_true rfl, Nat.le_of_ble_eq_true rfl⟩ ⟨Nat.le_refl _, Nat.le_refl _⟩ ?_
             refine aw_if_ne (tgt := 25) eX11_blame_19 (by decide) bt_r (fun hh => have h25 := bt1 hh; ?_) (fun hh => have h25 := bt0 hh; ?_)
             · first
               | (exfalso; omega; done)
               | (refine aw_blk oX11_blame_25 (pc' := 26) (ls' := [_, _, _, _]) (st' := [_]) (cs := []) rfl trivial ?_
                  refine aw_tswIn (tgt := 56) eX11_blame_26 (by decide) (by decide) (by decide) rfl (by decide) ?_
                  refine aw_blk oX11_blame_56 (pc' := 62) (ls' := [_, _, _, _]) (st' := [_, _, _]) (cs := []) rfl trivial ?_
                  refine aw_ciV (rest := []) (c_blamed) kX5_blamed eX11_blame_62 lX11_blame_62 rfl rfl rfl rfl (Nat.le_of_ble_eq_true rfl) ⟨Nat.le_of_ble_eq_true rfl, Nat.le_of_ble_eq_true rfl⟩ ⟨Nat.le_refl _, Nat.le_refl _⟩ ?_
                  refine aw_iret eX11_blame_65 rfl (Nat.le_refl _) (Nat.le_refl _) ?_
                  exact pe_i rfl rfl rfl)
             · first
               | (exfalso; omega; done)
               | (refine aw_blk oX11_blame_22 (pc' := 24) (ls' := [_, _, _, _]) (st' := [_]) (cs := []) rfl trivial ?_
                  refine aw_iret eX11_blame_24 rfl (Nat.le_refl _) (Nat.le_refl _) ?_
                  exact pe_i rfl rfl rfl))
      · refine ⟨(outL (prB (μ 48) k i) 8 0 (0, -6)).1, μ, μ, ?_, M _ (fun q => absurd q (by decide)) (fun _ => rfl) (fun q => absurd q (by decide)) (fun q => absurd q (by decide)), by simp at hb; omega, h, SR.rf⟩
        refine AMet.of kX11_blame.1 (Nat.le_of_ble_eq_true rfl) rfl ?_
        refine aw_blk oX11_blame_0 (pc' := 5) (ls' := [_, _, _, _]) (st' := [_, _, _]) (cs := []) rfl trivial ?_
        refine aw_ciS (rest := []) (c_X11_between (by omega) (by omega) (by omega)) kX11_between eX11_blame_5 lX11_blame_5 rfl rfl (Nat.le_of_ble_eq_true rfl) ⟨Nat.le_of_ble_eq_true rfl, Nat.le_of_ble_eq_true rfl⟩ ⟨Nat.le_refl _, Nat.le_refl _⟩ ?_
        refine aw_if_eq (tgt := 22) eX11_blame_8 (by decide) bt_r (fun hh => have h26 := bt0 hh; ?_) (fun hh => have h26 := bt1 hh; ?_)
        · first
          | (exfalso; omega; done)
          | (refine aw_blk oX11_blame_22 (pc' := 24) (ls' := [_, _, _, _]) (st' := [_]) (cs := []) rfl trivial ?_
             refine aw_iret eX11_blame_24 rfl (Nat.le_refl _) (Nat.le_refl _) ?_
             exact pe_i rfl rfl rfl)
        · first
          | (exfalso; omega; done)
          | (refine aw_blk oX11_blame_11 (pc' := 16) (ls' := [_, _, _, _]) (st' := [_, _, _]) (cs := []) rfl trivial ?_
             refine aw_ciS (rest := []) (c_X11_between (by omega) (by omega) (by omega)) kX11_between eX11_blame_16 lX11_blame_16 rfl rfl (Nat.le_of_ble_eq_true rfl) ⟨Nat.le_of_ble_eq_true rfl, Nat.le_of_ble_eq_true rfl⟩ ⟨Nat.le_refl _, Nat.le_refl _⟩ ?_
             refine aw_if_ne (tgt := 25) eX11_blame_19 (by decide) bt_r (fun hh => have h27 := bt1 hh; ?_) (fun hh => have h27 := bt0 hh; ?_)
             · first
               | (exfalso; omega; done)
               | (refine aw_blk oX11_blame_25 (pc' := 26) (ls' := [_, _, _, _]) (st' := [_]) (cs := []) rfl trivial ?_
                  refine aw_tswIn (tgt := 66) eX11_blame_26 (by decide) (by decide) (by decide) rfl (by decide) ?_
                  refine aw_blk oX11_blame_66 (pc' := 72) (ls' := [_, _, _, _]) (st' := [_, _, _]) (cs := []) rfl trivial ?_
                  refine aw_ciV (rest := []) (c_pairs) kX5_pairs eX11_blame_72 lX11_blame_72 rfl rfl rfl rfl (Nat.le_of_ble_eq_true rfl) ⟨Nat.le_of_ble_eq_true rfl, Nat.le_of_ble_eq_true rfl⟩ ⟨Nat.le_refl _, Nat.le_refl _⟩ ?_
                  refine aw_iret eX11_blame_75 rfl (Nat.le_refl _) (Nat.le_refl _) ?_
                  exact pe_i rfl rfl rfl)
             · first
               | (exfalso; omega; done)
               | (refine aw_blk oX11_blame_22 (pc' := 24) (ls' := [_, _, _, _]) (st' := [_]) (cs := []) rfl trivial ?_
                  refine aw_iret eX11_blame_24 rfl (Nat.le_refl _) (Nat.le_refl _) ?_
                  exact pe_i rfl rfl rfl))
      · refine ⟨(outL (prB (μ 48) k i) 8 0 (0, -6)).2, μ, μ, ?_, M _ (fun q => absurd q (by decide)) (fun q => absurd q (by decide)) (fun _ => rfl) (fun q => absurd q (by decide)), by omega, h, SR.rf⟩
        refine AMet.of kX11_blame.1 (Nat.le_of_ble_eq_true rfl) rfl ?_
        refine aw_blk oX11_blame_0 (pc' := 5) (ls' := [_, _, _, _]) (st' := [_, _, _]) (cs := []) rfl trivial ?_
        refine aw_ciS (rest := []) (c_X11_between (by omega) (by omega) (by omega)) kX11_between eX11_blame_5 lX11_blame_5 rfl rfl (Nat.le_of_ble_eq_true rfl) ⟨Nat.le_of_ble_eq_true rfl, Nat.le_of_ble_eq_true rfl⟩ ⟨Nat.le_refl _, Nat.le_refl _⟩ ?_
        refine aw_if_eq (tgt := 22) eX11_blame_8 (by decide) bt_r (fun hh => have h28 := bt0 hh; ?_) (fun hh => have h28 := bt1 hh; ?_)
        · first
          | (exfalso; omega; done)
          | (refine aw_blk oX11_blame_22 (pc' := 24) (ls' := [_, _, _, _]) (st' := [_]) (cs := []) rfl trivial ?_
             refine aw_iret eX11_blame_24 rfl (Nat.le_refl _) (Nat.le_refl _) ?_
             exact pe_i rfl rfl rfl)
        · first
          | (exfalso; omega; done)
          | (refine aw_blk oX11_blame_11 (pc' := 16) (ls' := [_, _, _, _]) (st' := [_, _, _]) (cs := []) rfl trivial ?_
             refine aw_ciS (rest := []) (c_X11_between (by omega) (by omega) (by omega)) kX11_between eX11_blame_16 lX11_blame_16 rfl rfl (Nat.le_of_ble_eq_true rfl) ⟨Nat.le_of_ble_eq_true rfl, Nat.le_of_ble_eq_true rfl⟩ ⟨Nat.le_refl _, Nat.le_refl _⟩ ?_
             refine aw_if_ne (tgt := 25) eX11_blame_19 (by decide) bt_r (fun hh => have h29 := bt1 hh; ?_) (fun hh => have h29 := bt0 hh; ?_)
             · first
               | (exfalso; omega; done)
               | (refine aw_blk oX11_blame_25 (pc' := 26) (ls' := [_, _, _, _]) (st' := [_]) (cs := []) rfl trivial ?_
                  refine aw_tswIn (tgt := 76) eX11_blame_26 (by decide) (by decide) (by decide) rfl (by decide) ?_
                  refine aw_blk oX11_blame_76 (pc' := 82) (ls' := [_, _, _, _]) (st' := [_, _, _]) (cs := []) rfl trivial ?_
                  refine aw_ciV (rest := []) (c_firstPair) kX5_firstPair eX11_blame_82 lX11_blame_82 rfl rfl rfl rfl (Nat.le_of_ble_eq_true rfl) ⟨Nat.le_of_ble_eq_true rfl, Nat.le_of_ble_eq_true rfl⟩ ⟨Nat.le_refl _, Nat.le_refl _⟩ ?_
                  refine aw_iret eX11_blame_85 rfl (Nat.le_refl _) (Nat.le_refl _) ?_
                  exact pe_i rfl rfl rfl)
             · first
               | (exfalso; omega; done)
               | (refine aw_blk oX11_blame_22 (pc' := 24) (ls' := [_, _, _, _]) (st' := [_]) (cs := []) rfl trivial ?_
                  refine aw_iret eX11_blame_24 rfl (Nat.le_refl _) (Nat.le_refl _) ?_
                  exact pe_i rfl rfl rfl))
      · refine ⟨lwr k 8, μ, μ, ?_, M _ (fun q => absurd q (by decide)) (fun q => absurd q (by decide)) (fun q => absurd q (by decide)) (fun _ => rfl), by rw [hl]; exact bShl_R, h, SR.rf⟩
        refine AMet.of kX11_blame.1 (Nat.le_of_ble_eq_true rfl) rfl ?_
        refine aw_blk oX11_blame_0 (pc' := 5) (ls' := [_, _, _, _]) (st' := [_, _, _]) (cs := []) rfl trivial ?_
        refine aw_ciS (rest := []) (c_X11_between (by omega) (by omega) (by omega)) kX11_between eX11_blame_5 lX11_blame_5 rfl rfl (Nat.le_of_ble_eq_true rfl) ⟨Nat.le_of_ble_eq_true rfl, Nat.le_of_ble_eq_true rfl⟩ ⟨Nat.le_refl _, Nat.le_refl _⟩ ?_
        refine aw_if_eq (tgt := 22) eX11_blame_8 (by decide) bt_r (fun hh => have h30 := bt0 hh; ?_) (fun hh => have h30 := bt1 hh; ?_)
        · first
          | (exfalso; omega; done)
          | (refine aw_blk oX11_blame_22 (pc' := 24) (ls' := [_, _, _, _]) (st' := [_]) (cs := []) rfl trivial ?_
             refine aw_iret eX11_blame_24 rfl (Nat.le_refl _) (Nat.le_refl _) ?_
             exact pe_i hl.symm rfl rfl)
        · first
          | (exfalso; omega; done)
          | (refine aw_blk oX11_blame_11 (pc' := 16) (ls' := [_, _, _, _]) (st' := [_, _, _]) (cs := []) rfl trivial ?_
             refine aw_ciS (rest := []) (c_X11_between (by omega) (by omega) (by omega)) kX11_between eX11_blame_16 lX11_blame_16 rfl rfl (Nat.le_of_ble_eq_true rfl) ⟨Nat.le_of_ble_eq_true rfl, Nat.le_of_ble_eq_true rfl⟩ ⟨Nat.le_refl _, Nat.le_refl _⟩ ?_
             refine aw_if_ne (tgt := 25) eX11_blame_19 (by decide) bt_r (fun hh => have h31 := bt1 hh; ?_) (fun hh => have h31 := bt0 hh; ?_)
             · first
               | (exfalso; omega; done)
               | (refine aw_blk oX11_blame_25 (pc' := 26) (ls' := [_, _, _, _]) (st' := [_]) (cs := []) rfl trivial ?_
                  refine aw_tswIn (tgt := 86) eX11_blame_26 (by decide) (by decide) (by decide) rfl (by decide) ?_
                  refine aw_blk oX11_blame_86 (pc' := 88) (ls' := [_, _, _, _]) (st' := [_, _]) (cs := []) rfl trivial ?_
                  refine aw_ciS (rest := [_]) (c_bitCount) kJ6_bitCount eX11_blame_88 lX11_blame_88 rfl rfl (Nat.le_of_ble_eq_true rfl) ⟨Nat.le_of_ble_eq_true rfl, Nat.le_of_ble_eq_true rfl⟩ ⟨Nat.le_refl _, Nat.le_refl _⟩ ?_
                  refine aw_blk oX11_blame_91 (pc' := 92) (ls' := [_, _, _, _]) (st' := [_]) (cs := []) rfl trivial ?_
                  refine aw_iret eX11_blame_92 rfl (Nat.le_refl _) (Nat.le_refl _) ?_
                  exact pe_i hl.symm rfl rfl)
             · first
               | (exfalso; omega; done)
               | (refine aw_blk oX11_blame_22 (pc' := 24) (ls' := [_, _, _, _]) (st' := [_]) (cs := []) rfl trivial ?_
                  refine aw_iret eX11_blame_24 rfl (Nat.le_refl _) (Nat.le_refl _) ?_
                  exact pe_i hl.symm rfl rfl))
    · refine ⟨-2, μ, μ, ?_, ?_, by decide, h, SR.rf⟩
      · refine AMet.of kX11_blame.1 (Nat.le_of_ble_eq_true rfl) rfl ?_
        refine aw_blk oX11_blame_0 (pc' := 5) (ls' := [_, _, _, _]) (st' := [_, _, _]) (cs := []) rfl trivial ?_
        refine aw_ciS (rest := []) (c_X11_between (by omega) (by omega) (by omega)) kX11_between eX11_blame_5 lX11_blame_5 rfl rfl (Nat.le_of_ble_eq_true rfl) ⟨Nat.le_of_ble_eq_true rfl, Nat.le_of_ble_eq_true rfl⟩ ⟨Nat.le_refl _, Nat.le_refl _⟩ ?_
        refine aw_if_eq (tgt := 22) eX11_blame_8 (by decide) bt_r (fun hh => have h32 := bt0 hh; ?_) (fun hh => have h32 := bt1 hh; ?_)
        · first
          | (exfalso; omega; done)
          | (refine aw_blk oX11_blame_22 (pc' := 24) (ls' := [_, _, _, _]) (st' := [_]) (cs := []) rfl trivial ?_
             refine aw_iret eX11_blame_24 rfl (Nat.le_refl _) (Nat.le_refl _) ?_
             exact pe_i rfl rfl rfl)
        · first
          | (exfalso; omega; done)
          | (refine aw_blk oX11_blame_11 (pc' := 16) (ls' := [_, _, _, _]) (st' := [_, _, _]) (cs := []) rfl trivial ?_
             refine aw_ciS (rest := []) (c_X11_between (by omega) (by omega) (by omega)) kX11_between eX11_blame_16 lX11_blame_16 rfl rfl (Nat.le_of_ble_eq_true rfl) ⟨Nat.le_of_ble_eq_true rfl, Nat.le_of_ble_eq_true rfl⟩ ⟨Nat.le_refl _, Nat.le_refl _⟩ ?_
             refine aw_if_ne (tgt := 25) eX11_blame_19 (by decide) bt_r (fun hh => have h33 := bt1 hh; ?_) (fun hh => have h33 := bt0 hh; ?_)
             · first
               | (exfalso; omega; done)
               | (refine aw_blk oX11_blame_25 (pc' := 26) (ls' := [_, _, _, _]) (st' := [_]) (cs := []) rfl trivial ?_
                  refine aw_tswOut (tgt := 93) eX11_blame_26 (by omega) (by omega) (by decide) ?_
                  refine aw_blk oX11_blame_93 (pc' := 95) (ls' := [_, _, _, _]) (st' := [_]) (cs := []) rfl trivial ?_
                  refine aw_iret eX11_blame_95 rfl (Nat.le_refl _) (Nat.le_refl _) ?_
                  exact pe_i rfl rfl rfl)
             · first
               | (exfalso; omega; done)
               | (refine aw_blk oX11_blame_22 (pc' := 24) (ls' := [_, _, _, _]) (st' := [_]) (cs := []) rfl trivial ?_
                  refine aw_iret eX11_blame_24 rfl (Nat.le_refl _) (Nat.le_refl _) ?_
                  exact pe_i rfl rfl rfl))
      · refine AMet.of kX12_blame.1 (Nat.le_of_ble_eq_true rfl) rfl ?_
        refine aw_blk oX12_blame_0 (pc' := 5) (ls' := [_, _, _, _, _, _, _, _, _, _, _]) (st' := [_, _, _]) (cs := []) rfl trivial ?_
        refine aw_ciS (rest := []) (c_X12_in (by omega) (by omega) (by omega)) kX12_in eX12_blame_5 lX12_blame_5 rfl rfl (Nat.le_of_ble_eq_true rfl) ⟨Nat.le_of_ble_eq_true rfl, Nat.le_of_ble_eq_true rfl⟩ ⟨Nat.le_refl _, Nat.le_refl _⟩ ?_
        refine aw_if_eq (tgt := 31) eX12_blame_8 (by decide) bt_r (fun hh => have h34 := bt0 hh; ?_) (fun hh => have h34 := bt1 hh; ?_)
        · first
          | (exfalso; omega; done)
          | (refine aw_blk oX12_blame_31 (pc' := 33) (ls' := [_, _, _, _, _, _, _, _, _, _, _]) (st' := [_]) (cs := []) rfl trivial ?_
             refine aw_iret eX12_blame_33 rfl (Nat.le_refl _) (Nat.le_refl _) ?_
             exact pe_i rfl rfl rfl)
        · first
          | (exfalso; omega; done)
          | (refine aw_blk oX12_blame_11 (pc' := 16) (ls' := [_, _, _, _, _, _, _, _, _, _, _]) (st' := [_, _, _]) (cs := []) rfl trivial ?_
             refine aw_ciS (rest := []) (c_X12_in (by omega) (by omega) (by omega)) kX12_in eX12_blame_16 lX12_blame_16 rfl rfl (Nat.le_of_ble_eq_true rfl) ⟨Nat.le_of_ble_eq_true rfl, Nat.le_of_ble_eq_true rfl⟩ ⟨Nat.le_refl _, Nat.le_refl _⟩ ?_
             refine aw_if_eq (tgt := 31) eX12_blame_19 (by decide) bt_r (fun hh => have h35 := bt0 hh; ?_) (fun hh => have h35 := bt1 hh; ?_)
             · first
               | (exfalso; omega; done)
               | (refine aw_blk oX12_blame_31 (pc' := 33) (ls' := [_, _, _, _, _, _, _, _, _, _, _]) (st' := [_]) (cs := []) rfl trivial ?_
                  refine aw_iret eX12_blame_33 rfl (Nat.le_refl _) (Nat.le_refl _) ?_
                  exact pe_i rfl rfl rfl)
             · first
               | (exfalso; omega; done)
               | (refine aw_blk oX12_blame_22 (pc' := 25) (ls' := [_, _, _, _, _, _, _, _, _, _, _]) (st' := [_, _, _]) (cs := []) rfl trivial ?_
                  refine aw_ciS (rest := []) (c_X12_in (by omega) (by omega) (by omega)) kX12_in eX12_blame_25 lX12_blame_25 rfl rfl (Nat.le_of_ble_eq_true rfl) ⟨Nat.le_of_ble_eq_true rfl, Nat.le_of_ble_eq_true rfl⟩ ⟨Nat.le_refl _, Nat.le_refl _⟩ ?_
                  refine aw_if_ne (tgt := 34) eX12_blame_28 (by decide) bt_r (fun hh => have h36 := bt1 hh; ?_) (fun hh => have h36 := bt0 hh; ?_)
                  · first
                    | (exfalso; omega; done)
                    | (refine aw_blk oX12_blame_34 (pc' := 43) (ls' := [_, _, _, _, _, _, _, _, _, _, _]) (st' := []) (cs := []) rfl trivial ?_
                       skip)
                  · first
                    | (exfalso; omega; done)
                    | (refine aw_blk oX12_blame_31 (pc' := 33) (ls' := [_, _, _, _, _, _, _, _, _, _, _]) (st' := [_]) (cs := []) rfl trivial ?_
                       refine aw_iret eX12_blame_33 rfl (Nat.le_refl _) (Nat.le_refl _) ?_
                       exact pe_i rfl rfl rfl)))
  · refine ⟨-2, μ, μ, ?_, ?_, by decide, h, SR.rf⟩
    · refine AMet.of kX11_blame.1 (Nat.le_of_ble_eq_true rfl) rfl ?_
      refine aw_blk oX11_blame_0 (pc' := 5) (ls' := [_, _, _, _]) (st' := [_, _, _]) (cs := []) rfl trivial ?_
      refine aw_ciS (rest := []) (c_X11_between (by omega) (by omega) (by omega)) kX11_between eX11_blame_5 lX11_blame_5 rfl rfl (Nat.le_of_ble_eq_true rfl) ⟨Nat.le_of_ble_eq_true rfl, Nat.le_of_ble_eq_true rfl⟩ ⟨Nat.le_refl _, Nat.le_refl _⟩ ?_
      refine aw_if_eq (tgt := 22) eX11_blame_8 (by decide) bt_r (fun hh => have h37 := bt0 hh; ?_) (fun hh => have h37 := bt1 hh; ?_)
      · first
        | (exfalso; omega; done)
        | (refine aw_blk oX11_blame_22 (pc' := 24) (ls' := [_, _, _, _]) (st' := [_]) (cs := []) rfl trivial ?_
           refine aw_iret eX11_blame_24 rfl (Nat.le_refl _) (Nat.le_refl _) ?_
           exact pe_i rfl rfl rfl)
      · first
        | (exfalso; omega; done)
        | (refine aw_blk oX11_blame_11 (pc' := 16) (ls' := [_, _, _, _]) (st' := [_, _, _]) (cs := []) rfl trivial ?_
           refine aw_ciS (rest := []) (c_X11_between (by omega) (by omega) (by omega)) kX11_between eX11_blame_16 lX11_blame_16 rfl rfl (Nat.le_of_ble_eq_true rfl) ⟨Nat.le_of_ble_eq_true rfl, Nat.le_of_ble_eq_true rfl⟩ ⟨Nat.le_refl _, Nat.le_refl _⟩ ?_
           refine aw_if_ne (tgt := 25) eX11_blame_19 (by decide) bt_r (fun hh => have h38 := bt1 hh; ?_) (fun hh => have h38 := bt0 hh; ?_)
           · first
             | (exfalso; omega; done)
             | (refine aw_blk oX11_blame_25 (pc' := 26) (ls' := [_, _, _, _]) (st' := [_]) (cs := []) rfl trivial ?_
                refine aw_tswOut (tgt := 93) eX11_blame_26 (by omega) (by omega) (by decide) ?_
                refine aw_blk oX11_blame_93 (pc' := 95) (ls' := [_, _, _, _]) (st' := [_]) (cs := []) rfl trivial ?_
                refine aw_iret eX11_blame_95 rfl (Nat.le_refl _) (Nat.le_refl _) ?_
                exact pe_i rfl rfl rfl)
           · first
             | (exfalso; omega; done)
             | (refine aw_blk oX11_blame_22 (pc' := 24) (ls' := [_, _, _, _]) (st' := [_]) (cs := []) rfl trivial ?_
                refine aw_iret eX11_blame_24 rfl (Nat.le_refl _) (Nat.le_refl _) ?_
                exact pe_i rfl rfl rfl))
    · refine AMet.of kX12_blame.1 (Nat.le_of_ble_eq_true rfl) rfl ?_
      refine aw_blk oX12_blame_0 (pc' := 5) (ls' := [_, _, _, _, _, _, _, _, _, _, _]) (st' := [_, _, _]) (cs := []) rfl trivial ?_
      refine aw_ciS (rest := []) (c_X12_in (by omega) (by omega) (by omega)) kX12_in eX12_blame_5 lX12_blame_5 rfl rfl (Nat.le_of_ble_eq_true rfl) ⟨Nat.le_of_ble_eq_true rfl, Nat.le_of_ble_eq_true rfl⟩ ⟨Nat.le_refl _, Nat.le_refl _⟩ ?_
      refine aw_if_eq (tgt := 31) eX12_blame_8 (by decide) bt_r (fun hh => have h39 := bt0 hh; ?_) (fun hh => have h39 := bt1 hh; ?_)
      · first
        | (exfalso; omega; done)
        | (refine aw_blk oX12_blame_31 (pc' := 33) (ls' := [_, _, _, _, _, _, _, _, _, _, _]) (st' := [_]) (cs := []) rfl trivial ?_
           refine aw_iret eX12_blame_33 rfl (Nat.le_refl _) (Nat.le_refl _) ?_
           exact pe_i rfl rfl rfl)
      · first
        | (exfalso; omega; done)
        | (refine aw_blk oX12_blame_11 (pc' := 16) (ls' := [_, _, _, _, _, _, _, _, _, _, _]) (st' := [_, _, _]) (cs := []) rfl trivial ?_
           refine aw_ciS (rest := []) (c_X12_in (by omega) (by omega) (by omega)) kX12_in eX12_blame_16 lX12_blame_16 rfl rfl (Nat.le_of_ble_eq_true rfl) ⟨Nat.le_of_ble_eq_true rfl, Nat.le_of_ble_eq_true rfl⟩ ⟨Nat.le_refl _, Nat.le_refl _⟩ ?_
           refine aw_if_eq (tgt := 31) eX12_blame_19 (by decide) bt_r (fun hh => have h40 := bt0 hh; ?_) (fun hh => have h40 := bt1 hh; ?_)
           · first
             | (exfalso; omega; done)
             | (refine aw_blk oX12_blame_31 (pc' := 33) (ls' := [_, _, _, _, _, _, _, _, _, _, _]) (st' := [_]) (cs := []) rfl trivial ?_
                refine aw_iret eX12_blame_33 rfl (Nat.le_refl _) (Nat.le_refl _) ?_
                exact pe_i rfl rfl rfl)
           · first
             | (exfalso; omega; done)
             | (refine aw_blk oX12_blame_22 (pc' := 25) (ls' := [_, _, _, _, _, _, _, _, _, _, _]) (st' := [_, _, _]) (cs := []) rfl trivial ?_
                refine aw_ciS (rest := []) (c_X12_in (by omega) (by omega) (by omega)) kX12_in eX12_blame_25 lX12_blame_25 rfl rfl (Nat.le_of_ble_eq_true rfl) ⟨Nat.le_of_ble_eq_true rfl, Nat.le_of_ble_eq_true rfl⟩ ⟨Nat.le_refl _, Nat.le_refl _⟩ ?_
                refine aw_if_ne (tgt := 34) eX12_blame_28 (by decide) bt_r (fun hh => have h41 := bt1 hh; ?_) (fun hh => have h41 := bt0 hh; ?_)
                · first
                  | (exfalso; omega; done)
                  | (refine aw_blk oX12_blame_34 (pc' := 43) (ls' := [_, _, _, _, _, _, _, _, _, _, _]) (st' := []) (cs := []) rfl trivial ?_
                     skip)
                · first
                  | (exfalso; omega; done)
                  | (refine aw_blk oX12_blame_31 (pc' := 33) (ls' := [_, _, _, _, _, _, _, _, _, _, _]) (st' := [_]) (cs := []) rfl trivial ?_
                     refine aw_iret eX12_blame_33 rfl (Nat.le_refl _) (Nat.le_refl _) ?_
                     exact pe_i rfl rfl rfl)))

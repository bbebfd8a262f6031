/-! ===== told ===== -/
def ab1 (x : Int) : Int := if 0 ≤ x then x else 0 - x
def un (r : Int → Int) (f : Int) (n : Nat) : Int := sm (fun d => ab1 (r (16 * f + d) - r (16 * f - 16 + d))) n
theorem un_bd {r : Int → Int} {f : Int} (hr : ∀ i : Int, 0 ≤ i → i < 160 → 0 ≤ r i ∧ r i ≤ 15) (hf : 1 ≤ f ∧ f < 10) {n : Nat} (hn : n ≤ 16) : 0 ≤ un r f n ∧ un r f n ≤ n * 15 := by
  refine sm_bd (B := 15) n (fun k hk => ?_)
  have g1 := hr (16 * f + k) (by omega) (by omega)
  have g2 := hr (16 * f - 16 + k) (by omega) (by omega)
  show 0 ≤ ab1 _ ∧ ab1 _ ≤ 15
  unfold ab1
  split <;> omega
theorem un_eq {r s : Int → Int} {f : Int} (h : ∀ i : Int, 0 ≤ i → i < 160 → s i = r i) (hf : 1 ≤ f ∧ f < 10) : un s f 16 = un r f 16 := by
  refine sm_congr 16 (fun k hk => ?_)
  show ab1 _ = ab1 _
  rw [h (16 * f + k) (by omega) (by omega), h (16 * f - 16 + k) (by omega) (by omega)]
theorem un_succ {r : Int → Int} {f : Int} {n : Nat} : un r f (n + 1) = un r f n + ab1 (r (16 * f + n) - r (16 * f - 16 + n)) := rfl
/-- unlike, 0 where none is ahead -/
def unl0 (r : Int → Int) (f : Int) : Int := if 0 < f then un r f 16 else 0
theorem l_unlikeC {κ : KX} {μ : MM} {ν : ML} {f : Int} (hr : ∀ i : Int, 0 ≤ i → i < 160 → 0 ≤ μ 3 i ∧ μ 3 i ≤ 15) (hf : 1 ≤ f ∧ f < 10) (n : Nat) : ∀ (j : Nat) (at_ : Int), j + n = 16 → at_ = 16 * f + j → AX κ mX3_unlike 1 (PE (some (aI (un (μ 3) f 16))) μ ν) 11 [aR 2, aI f, aI (un (μ 3) f j), aI at_] [] μ ν := by
  induction n with
  | zero =>
    intro j a hn ha
    have e : j = 16 := by omega
    subst e
    refine aw_blk oX3_unlike_11 (pc' := 18) (ls' := [_, _, _, _]) (st' := [_, _]) (cs := []) rfl trivial ?_
    refine aw_icmp_ge (tgt := 49) eX3_unlike_18 (by decide) (by omega) (by omega) (fun h1 => ?_) (fun h1 => ?_)
    · refine aw_blk oX3_unlike_49 (pc' := 50) (ls' := [_, _, _, _]) (st' := [_]) (cs := []) rfl trivial ?_
      refine aw_iret eX3_unlike_50 rfl (Nat.le_refl _) (Nat.le_refl _) ?_
      exact pe_i rfl rfl rfl
    · exfalso; omega
  | succ n ih =>
    intro j a hn ha
    have g1 := hr a (by omega) (by omega)
    have g2 := hr (a - 16) (by omega) (by omega)
    refine aw_blk oX3_unlike_11 (pc' := 18) (ls' := [_, _, _, _]) (st' := [_, _]) (cs := []) rfl trivial ?_
    refine aw_icmp_ge (tgt := 49) eX3_unlike_18 (by decide) (by omega) (by omega) (fun h1 => ?_) (fun h1 => ?_)
    · exfalso; omega
    · refine aw_blk oX3_unlike_21 (pc' := 38) (ls' := [_, _, _, _]) (st' := [_, _]) (cs := [(_, _), (_, _)]) rfl (⟨⟨by omega, by omega⟩, ⟨by omega, by omega⟩, trivial⟩) ?_
      refine aw_mabs eX3_unlike_38 lX3_unlike_38 (by omega) (Nat.le_of_ble_eq_true rfl) ⟨Nat.le_of_ble_eq_true rfl, Nat.le_of_ble_eq_true rfl⟩ ⟨Nat.le_refl _, Nat.le_refl _⟩ ?_
      refine aw_blk oX3_unlike_41 (pc' := 11) (ls' := [_, _, _, _]) (st' := []) (cs := []) rfl trivial ?_
      have T := ih (j + 1) (a + 1) (by omega) (by omega)
      rw [un_succ (n := j)] at T
      rw [show 16 * f - 16 + (j : Int) = a - 16 by omega, ← ha] at T
      exact T
theorem c_unlikeC {κ : KX} {μ : MM} {ν : ML} {f : Int} (hr : ∀ i : Int, 0 ≤ i → i < 160 → 0 ≤ μ 3 i ∧ μ 3 i ≤ 15) (hf : 0 ≤ f ∧ f < 10) : AE κ 1 mX3_unlike [aR 2, aI f] μ ν (some (aI (unl0 (μ 3) f))) μ ν := by
  by_cases h0 : 0 < f
  · have e : unl0 (μ 3) f = un (μ 3) f 16 := if_pos h0
    rw [e]
    refine AMet.of kX3_unlike.1 (Nat.le_of_ble_eq_true rfl) rfl ?_
    refine aw_blk oX3_unlike_0 (pc' := 3) (ls' := [_, _, _, _]) (st' := [_]) (cs := []) rfl trivial ?_
    refine aw_if_le (tgt := 49) eX3_unlike_3 (by decide) (by omega) (fun h1 => ?_) (fun h1 => ?_)
    · exfalso; omega
    · refine aw_blk oX3_unlike_6 (pc' := 11) (ls' := [_, _, _, _]) (st' := []) (cs := []) rfl trivial ?_
      exact l_unlikeC hr (by omega) 16 0 _ (by omega) (by omega)
  · have e : unl0 (μ 3) f = 0 := if_neg h0
    rw [e]
    refine AMet.of kX3_unlike.1 (Nat.le_of_ble_eq_true rfl) rfl ?_
    refine aw_blk oX3_unlike_0 (pc' := 3) (ls' := [_, _, _, _]) (st' := [_]) (cs := []) rfl trivial ?_
    refine aw_if_le (tgt := 49) eX3_unlike_3 (by decide) (by omega) (fun h1 => ?_) (fun h1 => ?_)
    · refine aw_blk oX3_unlike_49 (pc' := 50) (ls' := [_, _, _, _]) (st' := [_]) (cs := []) rfl trivial ?_
      refine aw_iret eX3_unlike_50 rfl (Nat.le_refl _) (Nat.le_refl _) ?_
      exact pe_i rfl rfl rfl
    · exfalso; omega
theorem l_unlikeM {κ : KX} {μ : MM} {ν : ML} {f : Int} (hr : ∀ i : Int, 0 ≤ i → i < 160 → 0 ≤ μ 56 i ∧ μ 56 i ≤ 15) (hf : 1 ≤ f ∧ f < 10) (n : Nat) : ∀ (j : Nat) (u4 : AV), j + n = 16 → AX κ mX12_unlike 1 (PE (some (aI (un (μ 56) f 16))) μ ν) 4 [aR 55, aI f, aI (un (μ 56) f j), aI j, u4] [] μ ν := by
  induction n with
  | zero =>
    intro j u4 hn
    have e : j = 16 := by omega
    subst e
    refine aw_blk oX12_unlike_4 (pc' := 7) (ls' := [_, _, _, _, _]) (st' := [_, _]) (cs := []) rfl trivial ?_
    refine aw_icmp_ge (tgt := 64) eX12_unlike_7 (by decide) (by omega) (by omega) (fun h1 => ?_) (fun h1 => ?_)
    · refine aw_blk oX12_unlike_64 (pc' := 65) (ls' := [_, _, _, _, _]) (st' := [_]) (cs := []) rfl trivial ?_
      refine aw_iret eX12_unlike_65 rfl (Nat.le_refl _) (Nat.le_refl _) ?_
      exact pe_i rfl rfl rfl
    · exfalso; omega
  | succ n ih =>
    intro j u4 hn
    have g1 := hr (16 * f + j) (by omega) (by omega)
    have g2 := hr (16 * f - 16 + j) (by omega) (by omega)
    have T := fun u => ih (j + 1) u (by omega)
    simp only [un_succ (n := j)] at T
    refine aw_blk oX12_unlike_4 (pc' := 7) (ls' := [_, _, _, _, _]) (st' := [_, _]) (cs := []) rfl trivial ?_
    refine aw_icmp_ge (tgt := 64) eX12_unlike_7 (by decide) (by omega) (by omega) (fun h1 => ?_) (fun h1 => ?_)
    · exfalso; omega
    · refine aw_blk oX12_unlike_10 (pc' := 11) (ls' := [_, _, _, _, _]) (st' := [_]) (cs := []) rfl trivial ?_
      refine aw_if_le (tgt := 64) eX12_unlike_11 (by decide) (by omega) (fun h2 => ?_) (fun h2 => ?_)
      · exfalso; omega
      · refine aw_blk oX12_unlike_14 (pc' := 45) (ls' := [_, _, _, _, _]) (st' := [_, _]) (cs := [(_, _), (_, _)]) rfl (⟨⟨by omega, by omega⟩, ⟨by omega, by omega⟩, trivial⟩) ?_
        refine aw_if_ge (tgt := 54) eX12_unlike_45 (by decide) (by omega) (fun h3 => ?_) (fun h3 => ?_)
        · refine aw_blk oX12_unlike_54 (pc' := 56) (ls' := [_, _, _, _, _]) (st' := [_, _]) (cs := []) rfl trivial ?_
          refine aw_blk oX12_unlike_56 (pc' := 4) (ls' := [_, _, _, _, _]) (st' := []) (cs := []) rfl trivial ?_
          have e : ab1 (μ 56 (16 * f + j) - μ 56 (16 * f - 16 + j)) = μ 56 (16 * f + j) - μ 56 (16 * f - 16 + j) := if_pos (by omega)
          simp only [e] at T
          exact T _
        · refine aw_blk oX12_unlike_48 (pc' := 56) (ls' := [_, _, _, _, _]) (st' := [_, _]) (cs := []) rfl trivial ?_
          refine aw_blk oX12_unlike_56 (pc' := 4) (ls' := [_, _, _, _, _]) (st' := []) (cs := []) rfl trivial ?_
          have e : ab1 (μ 56 (16 * f + j) - μ 56 (16 * f - 16 + j)) = 0 - (μ 56 (16 * f + j) - μ 56 (16 * f - 16 + j)) := if_neg (by omega)
          simp only [e] at T
          have T := T (aI (μ 56 (16 * f + j) - μ 56 (16 * f - 16 + j)))
          have e2 : ∀ x : Int, 0 - x = -x := fun x => by omega
          first
          | exact T
          | (rw [e2] at T; exact T)
theorem c_unlikeM {κ : KX} {μ : MM} {ν : ML} {f : Int} (h : PR 3 56 160 0 15 μ) (hf : 0 ≤ f ∧ f < 10) : AE κ 1 mX12_unlike [aR 55, aI f] μ ν (some (aI (unl0 (μ 3) f))) μ ν := by
  by_cases h0 : 0 < f
  · have e : unl0 (μ 3) f = un (μ 56) f 16 := by
      rw [un_eq (r := μ 3) (s := μ 56) (fun i q0 q1 => (h i q0 q1).1) (by omega)]
      exact if_pos h0
    rw [e]
    refine AMet.of kX12_unlike.1 (Nat.le_of_ble_eq_true rfl) rfl ?_
    refine aw_blk oX12_unlike_0 (pc' := 4) (ls' := [_, _, _, _, _]) (st' := []) (cs := []) rfl trivial ?_
    exact l_unlikeM (fun i q0 q1 => by have := h i q0 q1; omega) (by omega) 16 0 _ (by omega)
  · have e : unl0 (μ 3) f = 0 := if_neg h0
    rw [e]
    refine AMet.of kX12_unlike.1 (Nat.le_of_ble_eq_true rfl) rfl ?_
    refine aw_blk oX12_unlike_0 (pc' := 4) (ls' := [_, _, _, _, _]) (st' := []) (cs := []) rfl trivial ?_
    refine aw_blk oX12_unlike_4 (pc' := 7) (ls' := [_, _, _, _, _]) (st' := [_, _]) (cs := []) rfl trivial ?_
    refine aw_icmp_ge (tgt := 64) eX12_unlike_7 (by decide) (by omega) (by omega) (fun h1 => ?_) (fun h1 => ?_)
    · exfalso; omega
    · refine aw_blk oX12_unlike_10 (pc' := 11) (ls' := [_, _, _, _, _]) (st' := [_]) (cs := []) rfl trivial ?_
      refine aw_if_le (tgt := 64) eX12_unlike_11 (by decide) (by omega) (fun h2 => ?_) (fun h2 => ?_)
      · refine aw_blk oX12_unlike_64 (pc' := 65) (ls' := [_, _, _, _, _]) (st' := [_]) (cs := []) rfl trivial ?_
        refine aw_iret eX12_unlike_65 rfl (Nat.le_refl _) (Nat.le_refl _) ?_
        exact pe_i rfl rfl rfl
      · exfalso; omega
theorem unl0_bd {μ : MM} (h : PR 3 56 160 0 15 μ) {f : Int} (hf : 0 ≤ f ∧ f < 10) : 0 ≤ unl0 (μ 3) f ∧ unl0 (μ 3) f ≤ 240 := by
  unfold unl0
  split
  · have := un_bd (r := μ 3) (f := f) (fun i q0 q1 => (h i q0 q1).2) (by omega) (n := 16) (by omega)
    omega
  · decide
def isSc (μ : MM) (sc f : Int) : Bool := decide (0 < f ∧ sc ≤ unl0 (μ 3) f)
def isSt (μ : MM) (f : Int) : Bool := decide (0 < f ∧ unl0 (μ 3) f = 0)
def b01 (b : Bool) : Int := if b = true then 1 else 0
theorem b01_z {b : Bool} : 0 ≤ b01 b ∧ b01 b < 2 := by cases b <;> decide
theorem b01_r {b : Bool} : R32 (b01 b) := by cases b <;> decide
theorem c_isSceneC {κ : KX} {μ : MM} {ν : ML} {f sc : Int} (h : PR 3 56 160 0 15 μ) (hf : 0 ≤ f ∧ f < 10) (hs : R32 sc) : AE κ 2 mX3_isScene [aR 2, aI f, aI sc] μ ν (some (aI (b01 (isSc μ sc f)))) μ ν := by
  have hu := c_unlikeC (κ := κ) (μ := μ) (ν := ν) (f := f) (fun i q0 q1 => (h i q0 q1).2) hf
  have hb := unl0_bd h hf
  refine AMet.of kX3_isScene.1 (Nat.le_of_ble_eq_true rfl) rfl ?_
  refine aw_blk oX3_isScene_0 (pc' := 1) (ls' := [_, _, _]) (st' := [_]) (cs := []) rfl trivial ?_
  refine aw_if_le (tgt := 17) eX3_isScene_1 (by decide) (by omega) (fun h1 => ?_) (fun h1 => ?_)
  · first
    | (exfalso; omega; done)
    | (refine aw_blk oX3_isScene_17 (pc' := 18) (ls' := [_, _, _]) (st' := [_]) (cs := []) rfl trivial ?_
       refine aw_zret eX3_isScene_18 rfl (by omega) (Nat.le_refl _) (Nat.le_refl _) ?_
       exact pe_i (by unfold isSc b01; simp only [decide_eq_true_eq]; first | rw [if_neg (by omega)] | rw [if_pos (by omega)]) rfl rfl)
  · first
    | (exfalso; omega; done)
    | (refine aw_blk oX3_isScene_4 (pc' := 6) (ls' := [_, _, _]) (st' := [_, _]) (cs := []) rfl trivial ?_
       refine aw_ciV (rest := []) (hu) kX3_unlike eX3_isScene_6 lX3_isScene_6 rfl rfl rfl rfl (Nat.le_of_ble_eq_true rfl) ⟨Nat.le_of_ble_eq_true rfl, Nat.le_of_ble_eq_true rfl⟩ ⟨Nat.le_refl _, Nat.le_refl _⟩ ?_
       refine aw_blk oX3_isScene_9 (pc' := 10) (ls' := [_, _, _]) (st' := [_, _]) (cs := []) rfl trivial ?_
       refine aw_icmp_lt (tgt := 17) eX3_isScene_10 (by decide) (by omega) (by omega) (fun h2 => ?_) (fun h2 => ?_)
       · first
         | (exfalso; omega; done)
         | (refine aw_blk oX3_isScene_17 (pc' := 18) (ls' := [_, _, _]) (st' := [_]) (cs := []) rfl trivial ?_
            refine aw_zret eX3_isScene_18 rfl (by omega) (Nat.le_refl _) (Nat.le_refl _) ?_
            exact pe_i (by unfold isSc b01; simp only [decide_eq_true_eq]; first | rw [if_neg (by omega)] | rw [if_pos (by omega)]) rfl rfl)
       · first
         | (exfalso; omega; done)
         | (refine aw_blk oX3_isScene_13 (pc' := 18) (ls' := [_, _, _]) (st' := [_]) (cs := []) rfl trivial ?_
            refine aw_zret eX3_isScene_18 rfl (by omega) (Nat.le_refl _) (Nat.le_refl _) ?_
            exact pe_i (by unfold isSc b01; simp only [decide_eq_true_eq]; first | rw [if_neg (by omega)] | rw [if_pos (by omega)]) rfl rfl))
theorem c_isStillC {κ : KX} {μ : MM} {ν : ML} {f : Int} (h : PR 3 56 160 0 15 μ) (hf : 0 ≤ f ∧ f < 10) : AE κ 2 mX3_isStill [aR 2, aI f] μ ν (some (aI (b01 (isSt μ f)))) μ ν := by
  have hu := c_unlikeC (κ := κ) (μ := μ) (ν := ν) (f := f) (fun i q0 q1 => (h i q0 q1).2) hf
  have hb := unl0_bd h hf
  refine AMet.of kX3_isStill.1 (Nat.le_of_ble_eq_true rfl) rfl ?_
  refine aw_blk oX3_isStill_0 (pc' := 1) (ls' := [_, _]) (st' := [_]) (cs := []) rfl trivial ?_
  refine aw_if_le (tgt := 16) eX3_isStill_1 (by decide) (by omega) (fun h3 => ?_) (fun h3 => ?_)
  · first
    | (exfalso; omega; done)
    | (refine aw_blk oX3_isStill_16 (pc' := 17) (ls' := [_, _]) (st' := [_]) (cs := []) rfl trivial ?_
       refine aw_zret eX3_isStill_17 rfl (by omega) (Nat.le_refl _) (Nat.le_refl _) ?_
       exact pe_i (by unfold isSt b01; simp only [decide_eq_true_eq]; first | rw [if_neg (by omega)] | rw [if_pos (by omega)]) rfl rfl)
  · first
    | (exfalso; omega; done)
    | (refine aw_blk oX3_isStill_4 (pc' := 6) (ls' := [_, _]) (st' := [_, _]) (cs := []) rfl trivial ?_
       refine aw_ciV (rest := []) (hu) kX3_unlike eX3_isStill_6 lX3_isStill_6 rfl rfl rfl rfl (Nat.le_of_ble_eq_true rfl) ⟨Nat.le_of_ble_eq_true rfl, Nat.le_of_ble_eq_true rfl⟩ ⟨Nat.le_refl _, Nat.le_refl _⟩ ?_
       refine aw_if_ne (tgt := 16) eX3_isStill_9 (by decide) (by omega) (fun h4 => ?_) (fun h4 => ?_)
       · first
         | (exfalso; omega; done)
         | (refine aw_blk oX3_isStill_16 (pc' := 17) (ls' := [_, _]) (st' := [_]) (cs := []) rfl trivial ?_
            refine aw_zret eX3_isStill_17 rfl (by omega) (Nat.le_refl _) (Nat.le_refl _) ?_
            exact pe_i (by unfold isSt b01; simp only [decide_eq_true_eq]; first | rw [if_neg (by omega)] | rw [if_pos (by omega)]) rfl rfl)
       · first
         | (exfalso; omega; done)
         | (refine aw_blk oX3_isStill_12 (pc' := 17) (ls' := [_, _]) (st' := [_]) (cs := []) rfl trivial ?_
            refine aw_zret eX3_isStill_17 rfl (by omega) (Nat.le_refl _) (Nat.le_refl _) ?_
            exact pe_i (by unfold isSt b01; simp only [decide_eq_true_eq]; first | rw [if_neg (by omega)] | rw [if_pos (by omega)]) rfl rfl))
theorem c_isSceneM {κ : KX} {μ : MM} {ν : ML} {f : Int} (h : PR 3 56 160 0 15 μ) (hs : μ 58 1 = μ 1 1 ∧ R32 (μ 1 1)) (hf : 0 ≤ f ∧ f < 10) : AE κ 2 mX12_isScene [aR 55, aI f] μ ν (some (aI (b01 (isSc μ (μ 1 1) f)))) μ ν := by
  have hu := c_unlikeM (κ := κ) (μ := μ) (ν := ν) (f := f) h hf
  have hb := unl0_bd h hf
  refine AMet.of kX12_isScene.1 (Nat.le_of_ble_eq_true rfl) rfl ?_
  refine aw_blk oX12_isScene_0 (pc' := 1) (ls' := [_, _]) (st' := [_]) (cs := []) rfl trivial ?_
  refine aw_if_le (tgt := 22) eX12_isScene_1 (by decide) (by omega) (fun h5 => ?_) (fun h5 => ?_)
  · first
    | (exfalso; omega; done)
    | (refine aw_blk oX12_isScene_22 (pc' := 23) (ls' := [_, _]) (st' := [_]) (cs := []) rfl trivial ?_
       refine aw_zret eX12_isScene_23 rfl (by omega) (Nat.le_refl _) (Nat.le_refl _) ?_
       exact pe_i (by unfold isSc b01; simp only [decide_eq_true_eq]; first | rw [if_neg (by omega)] | rw [if_pos (by omega)]) rfl rfl)
  · first
    | (exfalso; omega; done)
    | (refine aw_blk oX12_isScene_4 (pc' := 6) (ls' := [_, _]) (st' := [_, _]) (cs := []) rfl trivial ?_
       refine aw_ciV (rest := []) (hu) kX12_unlike eX12_isScene_6 lX12_isScene_6 rfl rfl rfl rfl (Nat.le_of_ble_eq_true rfl) ⟨Nat.le_of_ble_eq_true rfl, Nat.le_of_ble_eq_true rfl⟩ ⟨Nat.le_refl _, Nat.le_refl _⟩ ?_
       refine aw_blk oX12_isScene_9 (pc' := 15) (ls' := [_, _]) (st' := [_, _]) (cs := [(_, _)]) rfl (⟨⟨by omega, by omega⟩, trivial⟩) ?_
       refine aw_icmp_lt (tgt := 22) eX12_isScene_15 (by decide) (by omega) (by omega) (fun h6 => ?_) (fun h6 => ?_)
       · first
         | (exfalso; omega; done)
         | (refine aw_blk oX12_isScene_22 (pc' := 23) (ls' := [_, _]) (st' := [_]) (cs := []) rfl trivial ?_
            refine aw_zret eX12_isScene_23 rfl (by omega) (Nat.le_refl _) (Nat.le_refl _) ?_
            exact pe_i (by unfold isSc b01; simp only [decide_eq_true_eq]; first | rw [if_neg (by omega)] | rw [if_pos (by omega)]) rfl rfl)
       · first
         | (exfalso; omega; done)
         | (refine aw_blk oX12_isScene_18 (pc' := 23) (ls' := [_, _]) (st' := [_]) (cs := []) rfl trivial ?_
            refine aw_zret eX12_isScene_23 rfl (by omega) (Nat.le_refl _) (Nat.le_refl _) ?_
            exact pe_i (by unfold isSc b01; simp only [decide_eq_true_eq]; first | rw [if_neg (by omega)] | rw [if_pos (by omega)]) rfl rfl))
theorem c_isStillM {κ : KX} {μ : MM} {ν : ML} {f : Int} (h : PR 3 56 160 0 15 μ) (hf : 0 ≤ f ∧ f < 10) : AE κ 2 mX12_isStill [aR 55, aI f] μ ν (some (aI (b01 (isSt μ f)))) μ ν := by
  have hu := c_unlikeM (κ := κ) (μ := μ) (ν := ν) (f := f) h hf
  have hb := unl0_bd h hf
  refine AMet.of kX12_isStill.1 (Nat.le_of_ble_eq_true rfl) rfl ?_
  refine aw_blk oX12_isStill_0 (pc' := 1) (ls' := [_, _]) (st' := [_]) (cs := []) rfl trivial ?_
  refine aw_if_le (tgt := 16) eX12_isStill_1 (by decide) (by omega) (fun h7 => ?_) (fun h7 => ?_)
  · first
    | (exfalso; omega; done)
    | (refine aw_blk oX12_isStill_16 (pc' := 17) (ls' := [_, _]) (st' := [_]) (cs := []) rfl trivial ?_
       refine aw_zret eX12_isStill_17 rfl (by omega) (Nat.le_refl _) (Nat.le_refl _) ?_
       exact pe_i (by unfold isSt b01; simp only [decide_eq_true_eq]; first | rw [if_neg (by omega)] | rw [if_pos (by omega)]) rfl rfl)
  · first
    | (exfalso; omega; done)
    | (refine aw_blk oX12_isStill_4 (pc' := 6) (ls' := [_, _]) (st' := [_, _]) (cs := []) rfl trivial ?_
       refine aw_ciV (rest := []) (hu) kX12_unlike eX12_isStill_6 lX12_isStill_6 rfl rfl rfl rfl (Nat.le_of_ble_eq_true rfl) ⟨Nat.le_of_ble_eq_true rfl, Nat.le_of_ble_eq_true rfl⟩ ⟨Nat.le_refl _, Nat.le_refl _⟩ ?_
       refine aw_if_ne (tgt := 16) eX12_isStill_9 (by decide) (by omega) (fun h8 => ?_) (fun h8 => ?_)
       · first
         | (exfalso; omega; done)
         | (refine aw_blk oX12_isStill_16 (pc' := 17) (ls' := [_, _]) (st' := [_]) (cs := []) rfl trivial ?_
            refine aw_zret eX12_isStill_17 rfl (by omega) (Nat.le_refl _) (Nat.le_refl _) ?_
            exact pe_i (by unfold isSt b01; simp only [decide_eq_true_eq]; first | rw [if_neg (by omega)] | rw [if_pos (by omega)]) rfl rfl)
       · first
         | (exfalso; omega; done)
         | (refine aw_blk oX12_isStill_12 (pc' := 17) (ls' := [_, _]) (st' := [_]) (cs := []) rfl trivial ?_
            refine aw_zret eX12_isStill_17 rfl (by omega) (Nat.le_refl _) (Nat.le_refl _) ?_
            exact pe_i (by unfold isSt b01; simp only [decide_eq_true_eq]; first | rw [if_neg (by omega)] | rw [if_pos (by omega)]) rfl rfl))
theorem blB_R {z : Nat → Bool} : ∀ n : Nat, R32 (blB z n)
  | 0 => r0
  | n + 1 => bOr_R
theorem l_scenes {κ : KX} {μ : MM} {ν : ML} {sc : Int} (h : RF μ) (hs : R32 sc) (n : Nat) : ∀ j : Nat, (j : Int) + n = μ 2 7 → AX κ mX3_scenes 3 (PE (some (aI (blB (fun k => isSc μ sc k) (μ 2 7).toNat))) μ ν) 4 [aR 2, aI sc, aI (blB (fun k => isSc μ sc k) j), aI j] [] μ ν := by
  obtain ⟨a, b, -⟩ := id h
  induction n with
  | zero =>
    intro j hj
    have e : (μ 2 7).toNat = j := by omega
    rw [e]
    refine aw_blk oX3_scenes_4 (pc' := 9) (ls' := [_, _, _, _]) (st' := [_, _]) (cs := []) rfl trivial ?_
    refine aw_icmp_ge (tgt := 33) eX3_scenes_9 (by decide) (by omega) (by omega) (fun h1 => ?_) (fun h1 => ?_)
    · refine aw_blk oX3_scenes_33 (pc' := 34) (ls' := [_, _, _, _]) (st' := [_]) (cs := []) rfl trivial ?_
      refine aw_iret eX3_scenes_34 rfl (Nat.le_refl _) (Nat.le_refl _) ?_
      exact pe_i rfl rfl rfl
    · exfalso; omega
  | succ n ih =>
    intro j hj
    have T := ih (j + 1) (by omega)
    simp only [blB] at T
    refine aw_blk oX3_scenes_4 (pc' := 9) (ls' := [_, _, _, _]) (st' := [_, _]) (cs := []) rfl trivial ?_
    refine aw_icmp_ge (tgt := 33) eX3_scenes_9 (by decide) (by omega) (by omega) (fun h1 => ?_) (fun h1 => ?_)
    · exfalso; omega
    · refine aw_blk oX3_scenes_12 (pc' := 15) (ls' := [_, _, _, _]) (st' := [_, _, _]) (cs := []) rfl trivial ?_
      refine aw_ciV (rest := []) (c_isSceneC b (by omega) hs) kX3_isScene eX3_scenes_15 lX3_scenes_15 rfl rfl rfl rfl (Nat.le_of_ble_eq_true rfl) ⟨Nat.le_of_ble_eq_true rfl, Nat.le_of_ble_eq_true rfl⟩ ⟨Nat.le_refl _, Nat.le_refl _⟩ ?_
      cases hz : isSc μ sc (j : Int)
      · rw [if_neg (by rw [hz]; decide), bOr_zero (blB_R j)] at T
        refine aw_if_eq (tgt := 27) eX3_scenes_18 (by decide) (by exact b01_r) (fun h2 => ?_) (fun h2 => ?_)
        · refine aw_blk oX3_scenes_27 (pc' := 4) (ls' := [_, _, _, _]) (st' := []) (cs := []) rfl trivial ?_
          exact T
        · exfalso; exact absurd rfl h2
      · rw [if_pos hz] at T
        refine aw_if_eq (tgt := 27) eX3_scenes_18 (by decide) (by exact b01_r) (fun h2 => ?_) (fun h2 => ?_)
        · exfalso; exact absurd h2 (by decide)
        · refine aw_blk oX3_scenes_21 (pc' := 27) (ls' := [_, _, _, _]) (st' := []) (cs := []) rfl trivial ?_
          refine aw_blk oX3_scenes_27 (pc' := 4) (ls' := [_, _, _, _]) (st' := []) (cs := []) rfl trivial ?_
          exact T
theorem c_scenes {κ : KX} {μ : MM} {ν : ML} {sc : Int} (h : RF μ) (hs : R32 sc) : AE κ 3 mX3_scenes [aR 2, aI sc] μ ν (some (aI (blB (fun k => isSc μ sc k) (μ 2 7).toNat))) μ ν := by
  refine AMet.of kX3_scenes.1 (Nat.le_of_ble_eq_true rfl) rfl ?_
  refine aw_blk oX3_scenes_0 (pc' := 4) (ls' := [_, _, _, _]) (st' := []) (cs := []) rfl trivial ?_
  exact l_scenes h hs (μ 2 7).toNat 0 (by have := h.1; omega)
theorem l_stills {κ : KX} {μ : MM} {ν : ML} (h : RF μ) (n : Nat) : ∀ j : Nat, (j : Int) + n = μ 2 7 → AX κ mX3_stills 3 (PE (some (aI (blB (fun k => isSt μ k) (μ 2 7).toNat))) μ ν) 4 [aR 2, aI (blB (fun k => isSt μ k) j), aI j] [] μ ν := by
  obtain ⟨a, b, -⟩ := id h
  induction n with
  | zero =>
    intro j hj
    have e : (μ 2 7).toNat = j := by omega
    rw [e]
    refine aw_blk oX3_stills_4 (pc' := 9) (ls' := [_, _, _]) (st' := [_, _]) (cs := []) rfl trivial ?_
    refine aw_icmp_ge (tgt := 32) eX3_stills_9 (by decide) (by omega) (by omega) (fun h1 => ?_) (fun h1 => ?_)
    · refine aw_blk oX3_stills_32 (pc' := 33) (ls' := [_, _, _]) (st' := [_]) (cs := []) rfl trivial ?_
      refine aw_iret eX3_stills_33 rfl (Nat.le_refl _) (Nat.le_refl _) ?_
      exact pe_i rfl rfl rfl
    · exfalso; omega
  | succ n ih =>
    intro j hj
    have T := ih (j + 1) (by omega)
    simp only [blB] at T
    refine aw_blk oX3_stills_4 (pc' := 9) (ls' := [_, _, _]) (st' := [_, _]) (cs := []) rfl trivial ?_
    refine aw_icmp_ge (tgt := 32) eX3_stills_9 (by decide) (by omega) (by omega) (fun h1 => ?_) (fun h1 => ?_)
    · exfalso; omega
    · refine aw_blk oX3_stills_12 (pc' := 14) (ls' := [_, _, _]) (st' := [_, _]) (cs := []) rfl trivial ?_
      refine aw_ciV (rest := []) (c_isStillC b (by omega)) kX3_isStill eX3_stills_14 lX3_stills_14 rfl rfl rfl rfl (Nat.le_of_ble_eq_true rfl) ⟨Nat.le_of_ble_eq_true rfl, Nat.le_of_ble_eq_true rfl⟩ ⟨Nat.le_refl _, Nat.le_refl _⟩ ?_
      cases hz : isSt μ (j : Int)
      · rw [if_neg (by rw [hz]; decide), bOr_zero (blB_R j)] at T
        refine aw_if_eq (tgt := 26) eX3_stills_17 (by decide) (by exact b01_r) (fun h2 => ?_) (fun h2 => ?_)
        · refine aw_blk oX3_stills_26 (pc' := 4) (ls' := [_, _, _]) (st' := []) (cs := []) rfl trivial ?_
          exact T
        · exfalso; exact absurd rfl h2
      · rw [if_pos hz] at T
        refine aw_if_eq (tgt := 26) eX3_stills_17 (by decide) (by exact b01_r) (fun h2 => ?_) (fun h2 => ?_)
        · exfalso; exact absurd h2 (by decide)
        · refine aw_blk oX3_stills_20 (pc' := 26) (ls' := [_, _, _]) (st' := []) (cs := []) rfl trivial ?_
          refine aw_blk oX3_stills_26 (pc' := 4) (ls' := [_, _, _]) (st' := []) (cs := []) rfl trivial ?_
          exact T
theorem c_stills {κ : KX} {μ : MM} {ν : ML} (h : RF μ) : AE κ 3 mX3_stills [aR 2] μ ν (some (aI (blB (fun k => isSt μ k) (μ 2 7).toNat))) μ ν := by
  refine AMet.of kX3_stills.1 (Nat.le_of_ble_eq_true rfl) rfl ?_
  refine aw_blk oX3_stills_0 (pc' := 4) (ls' := [_, _, _]) (st' := []) (cs := []) rfl trivial ?_
  exact l_stills h (μ 2 7).toNat 0 (by have := h.1; omega)
theorem l_toldM {κ : KX} {μ : MM} {ν : ML} {w : Int} {P : Option AV → List SH → MM → ML → Prop} (h : RF μ) (hs : μ 58 1 = μ 1 1 ∧ R32 (μ 1 1)) (hw : R32 w) (z : Nat → Bool) (hz : ∀ k : Nat, z k = (if w = 1 then isSc μ (μ 1 1) k else if w = 2 then isSt μ k else false)) (K : AX κ mX12_told 60 P 57 [aR 55, aI w, aI (blB z (μ 2 7).toNat), aI (μ 2 7)] [] μ ν) (n : Nat) : ∀ j : Nat, (j : Int) + n = μ 2 7 → AX κ mX12_told 60 P 4 [aR 55, aI w, aI (blB z j), aI j] [] μ ν := by
  obtain ⟨a, b, -⟩ := id h
  induction n with
  | zero =>
    intro j hj
    have e : (μ 2 7).toNat = j := by omega
    rw [e] at K
    refine aw_blk oX12_told_4 (pc' := 9) (ls' := [_, _, _, _]) (st' := [_, _]) (cs := []) rfl trivial ?_
    refine aw_icmp_ge (tgt := 57) eX12_told_9 (by decide) (by omega) (by omega) (fun h1 => ?_) (fun h1 => ?_)
    · rw [show (j : Int) = μ 2 7 by omega]
      exact K
    · exfalso; omega
  | succ n ih =>
    intro j hj
    have T := ih (j + 1) (by omega)
    simp only [blB] at T
    have hzj := hz j
    have E48 : z j = false → AX κ mX12_told 60 P 48 [aR 55, aI w, aI (blB z j), aI j] [aI (blB z j)] μ ν := fun e => by
      rw [e, if_neg (by decide)] at T
      refine aw_blk oX12_told_48 (pc' := 49) (ls' := [_, _, _, _]) (st' := [_, _]) (cs := []) rfl trivial ?_
      refine aw_blk oX12_told_49 (pc' := 4) (ls' := [_, _, _, _]) (st' := []) (cs := []) rfl trivial ?_
      exact T
    have E42 : z j = true → AX κ mX12_told 60 P 42 [aR 55, aI w, aI (blB z j), aI j] [aI (blB z j)] μ ν := fun e => by
      rw [e, if_pos rfl] at T
      refine aw_blk oX12_told_42 (pc' := 49) (ls' := [_, _, _, _]) (st' := [_, _]) (cs := []) rfl trivial ?_
      refine aw_blk oX12_told_49 (pc' := 4) (ls' := [_, _, _, _]) (st' := []) (cs := []) rfl trivial ?_
      exact T
    refine aw_blk oX12_told_4 (pc' := 9) (ls' := [_, _, _, _]) (st' := [_, _]) (cs := []) rfl trivial ?_
    refine aw_icmp_ge (tgt := 57) eX12_told_9 (by decide) (by omega) (by omega) (fun h1 => ?_) (fun h1 => ?_)
    · exfalso; omega
    · refine aw_blk oX12_told_12 (pc' := 15) (ls' := [_, _, _, _]) (st' := [_, _, _]) (cs := []) rfl trivial ?_
      refine aw_icmp_ne (tgt := 29) eX12_told_15 (by decide) (by omega) (by omega) (fun h2 => ?_) (fun h2 => ?_)
      · rw [if_neg h2] at hzj
        refine aw_blk oX12_told_29 (pc' := 31) (ls' := [_, _, _, _]) (st' := [_, _, _]) (cs := []) rfl trivial ?_
        refine aw_icmp_ne (tgt := 48) eX12_told_31 (by decide) (by omega) (by omega) (fun h3 => ?_) (fun h3 => ?_)
        · rw [if_neg h3] at hzj
          exact E48 hzj
        · rw [if_pos (by omega)] at hzj
          refine aw_blk oX12_told_34 (pc' := 36) (ls' := [_, _, _, _]) (st' := [_, _, _]) (cs := []) rfl trivial ?_
          refine aw_ciV (rest := [_]) (c_isStillM b (by omega)) kX12_isStill eX12_told_36 lX12_told_36 rfl rfl rfl rfl (Nat.le_of_ble_eq_true rfl) ⟨Nat.le_of_ble_eq_true rfl, Nat.le_of_ble_eq_true rfl⟩ ⟨Nat.le_refl _, Nat.le_refl _⟩ ?_
          rw [← hzj]
          cases hq : z j
          · refine aw_if_eq (tgt := 48) eX12_told_39 (by decide) (by exact b01_r) (fun h4 => ?_) (fun h4 => ?_)
            · exact E48 hq
            · exfalso; exact absurd rfl h4
          · refine aw_if_eq (tgt := 48) eX12_told_39 (by decide) (by exact b01_r) (fun h4 => ?_) (fun h4 => ?_)
            · exfalso; exact absurd h4 (by decide)
            · exact E42 hq
      · rw [if_pos (by omega)] at hzj
        refine aw_blk oX12_told_18 (pc' := 20) (ls' := [_, _, _, _]) (st' := [_, _, _]) (cs := []) rfl trivial ?_
        refine aw_ciV (rest := [_]) (c_isSceneM b hs (by omega)) kX12_isScene eX12_told_20 lX12_told_20 rfl rfl rfl rfl (Nat.le_of_ble_eq_true rfl) ⟨Nat.le_of_ble_eq_true rfl, Nat.le_of_ble_eq_true rfl⟩ ⟨Nat.le_refl _, Nat.le_refl _⟩ ?_
        rw [← hzj]
        cases hq : z j
        · refine aw_if_eq (tgt := 48) eX12_told_23 (by decide) (by exact b01_r) (fun h4 => ?_) (fun h4 => ?_)
          · exact E48 hq
          · exfalso; exact absurd rfl h4
        · refine aw_if_eq (tgt := 48) eX12_told_23 (by decide) (by exact b01_r) (fun h4 => ?_) (fun h4 => ?_)
          · exfalso; exact absurd h4 (by decide)
          · refine aw_blk oX12_told_26 (pc' := 42) (ls' := [_, _, _, _]) (st' := [_]) (cs := []) rfl trivial ?_
            exact E42 hq
theorem blB_0 : ∀ n : Nat, blB (fun _ => false) n = 0
  | 0 => rfl
  | n + 1 => by
    rw [blB, blB_0 n, if_neg (by decide)]
    decide
/-- nothing changes -/
def LawE (κ : KX) (cx cm : MX) (As : List AV) (μ : MM) (ν : ML) : Prop := LawX (fun μ2 ν2 => μ2 = μ ∧ ν2 = ν) κ cx cm As μ ν
theorem law_told {κ : KX} {μ : MM} {ν : ML} {w : Int} (h : RF μ) (hs : RS μ) (hu : RU μ) (hr : RR μ ν) (hf : RFi μ) (hw : R32 w) : LawE κ mX11_told mX12_told [aI w] μ ν := by
  have s1 := hs 1 (by decide) (by decide)
  have v0 : stv 0 1 = 0 := rfl
  have v1 : stv 1 1 = 240 := rfl
  have a := h.1
  have hs1 : μ 58 1 = μ 1 1 ∧ R32 (μ 1 1) := ⟨s1.1, by omega⟩
  by_cases w1 : w = 1
  · subst w1
    have hX := c_scenes (κ := κ) (μ := μ) (ν := ν) (sc := μ 1 1) h hs1.2
    have hM := fun P K => l_toldM (κ := κ) (μ := μ) (ν := ν) (w := 1) (P := P) h hs1 hw (fun k => isSc μ (μ 1 1) k) (fun k => by rw [if_pos rfl]) K (μ 2 7).toNat 0 (by omega)
    refine ⟨_, μ, ν, μ, ?_, ?_, (blB_R _ : R32 (blB (fun k => isSc μ (μ 1 1) k) (μ 2 7).toNat)), rfl, rfl⟩
    · skip
      refine AMet.of kX11_told.1 (Nat.le_of_ble_eq_true rfl) rfl ?_
      refine aw_blk oX11_told_0 (pc' := 1) (ls' := [_, _]) (st' := [_]) (cs := []) rfl trivial ?_
      refine aw_tswIn (tgt := 52) eX11_told_1 (by decide) (by decide) (by decide) rfl (by decide) ?_
      refine aw_blk oX11_told_52 (pc' := 62) (ls' := [_, _]) (st' := [_, _]) (cs := [(_, _)]) rfl (⟨⟨by omega, by omega⟩, trivial⟩) ?_
      refine aw_ciV (rest := []) (hX) kX3_scenes eX11_told_62 lX11_told_62 rfl rfl rfl rfl (Nat.le_of_ble_eq_true rfl) ⟨Nat.le_of_ble_eq_true rfl, Nat.le_of_ble_eq_true rfl⟩ ⟨Nat.le_refl _, Nat.le_refl _⟩ ?_
      refine aw_iret eX11_told_65 rfl (Nat.le_refl _) (Nat.le_refl _) ?_
      exact pe_i rfl rfl rfl
    · skip
      refine AMet.of kX12_told.1 (Nat.le_of_ble_eq_true rfl) rfl ?_
      refine aw_blk oX12_told_0 (pc' := 4) (ls' := [_, _, _, _]) (st' := []) (cs := []) rfl trivial ?_
      refine hM _ ?_
      refine aw_blk oX12_told_57 (pc' := 58) (ls' := [_, _, _, _]) (st' := [_]) (cs := []) rfl trivial ?_
      refine aw_if_ne (tgt := 68) eX12_told_58 (by decide) (by first | decide | omega) (fun h9 => ?_) (fun h9 => ?_)
      · first
        | (exfalso; omega; done)
        | (refine aw_blk oX12_told_68 (pc' := 70) (ls' := [_, _, _, _]) (st' := [_, _]) (cs := []) rfl trivial ?_
           refine aw_icmp_eq (tgt := 78) eX12_told_70 (by decide) (by first | decide | omega) (by first | decide | omega) (fun h10 => ?_) (fun h10 => ?_)
           · first
             | (exfalso; omega; done)
             | (refine aw_blk oX12_told_78 (pc' := 133) (ls' := [_, _, _, _]) (st' := [_]) (cs := []) rfl trivial ?_
                refine aw_iret eX12_told_133 rfl (Nat.le_refl _) (Nat.le_refl _) ?_
                exact pe_i rfl rfl rfl)
           · first
             | (exfalso; omega; done)
             | (refine aw_blk oX12_told_73 (pc' := 75) (ls' := [_, _, _, _]) (st' := [_, _]) (cs := []) rfl trivial ?_
                refine aw_icmp_ne (tgt := 82) eX12_told_75 (by decide) (by first | decide | omega) (by first | decide | omega) (fun h11 => ?_) (fun h11 => ?_)
                · first
                  | (exfalso; omega; done)
                  | (refine aw_blk oX12_told_82 (pc' := 84) (ls' := [_, _, _, _]) (st' := [_, _]) (cs := []) rfl trivial ?_
                     refine aw_icmp_ne (tgt := 94) eX12_told_84 (by decide) (by first | decide | omega) (by first | decide | omega) (fun h12 => ?_) (fun h12 => ?_)
                     · first
                       | (exfalso; omega; done)
                       | (refine aw_blk oX12_told_94 (pc' := 96) (ls' := [_, _, _, _]) (st' := [_, _]) (cs := []) rfl trivial ?_
                          refine aw_icmp_ne (tgt := 106) eX12_told_96 (by decide) (by first | decide | omega) (by first | decide | omega) (fun h13 => ?_) (fun h13 => ?_)
                          · first
                            | (exfalso; omega; done)
                            | (refine aw_blk oX12_told_106 (pc' := 108) (ls' := [_, _, _, _]) (st' := [_, _]) (cs := []) rfl trivial ?_
                               refine aw_icmp_ne (tgt := 118) eX12_told_108 (by decide) (by first | decide | omega) (by first | decide | omega) (fun h14 => ?_) (fun h14 => ?_)
                               · first
                                 | (exfalso; omega; done)
                                 | (refine aw_blk oX12_told_118 (pc' := 121) (ls' := [_, _, _, _]) (st' := [_, _]) (cs := []) rfl trivial ?_
                                    refine aw_icmp_ne (tgt := 131) eX12_told_121 (by decide) (by first | decide | omega) (by first | decide | omega) (fun h15 => ?_) (fun h15 => ?_)
                                    · first
                                      | (exfalso; omega; done)
                                      | (refine aw_blk oX12_told_131 (pc' := 133) (ls' := [_, _, _, _]) (st' := [_]) (cs := []) rfl trivial ?_
                                         refine aw_iret eX12_told_133 rfl (Nat.le_refl _) (Nat.le_refl _) ?_
                                         exact pe_i rfl rfl rfl)
                                    · first
                                      | (exfalso; omega; done)
                                      | (refine aw_blk oX12_told_124 (pc' := 133) (ls' := [_, _, _, _]) (st' := [_]) (cs := []) rfl trivial ?_
                                         refine aw_iret eX12_told_133 rfl (Nat.le_refl _) (Nat.le_refl _) ?_
                                         exact pe_i rfl rfl rfl))
                               · first
                                 | (exfalso; omega; done)
                                 | (refine aw_blk oX12_told_111 (pc' := 133) (ls' := [_, _, _, _]) (st' := [_]) (cs := []) rfl trivial ?_
                                    refine aw_iret eX12_told_133 rfl (Nat.le_refl _) (Nat.le_refl _) ?_
                                    exact pe_i rfl rfl rfl))
                          · first
                            | (exfalso; omega; done)
                            | (refine aw_blk oX12_told_99 (pc' := 133) (ls' := [_, _, _, _]) (st' := [_]) (cs := []) rfl trivial ?_
                               refine aw_iret eX12_told_133 rfl (Nat.le_refl _) (Nat.le_refl _) ?_
                               exact pe_i rfl rfl rfl))
                     · first
                       | (exfalso; omega; done)
                       | (refine aw_blk oX12_told_87 (pc' := 133) (ls' := [_, _, _, _]) (st' := [_]) (cs := []) rfl trivial ?_
                          refine aw_iret eX12_told_133 rfl (Nat.le_refl _) (Nat.le_refl _) ?_
                          exact pe_i rfl rfl rfl))
                · first
                  | (exfalso; omega; done)
                  | (refine aw_blk oX12_told_78 (pc' := 133) (ls' := [_, _, _, _]) (st' := [_]) (cs := []) rfl trivial ?_
                     refine aw_iret eX12_told_133 rfl (Nat.le_refl _) (Nat.le_refl _) ?_
                     exact pe_i rfl rfl rfl)))
      · first
        | (exfalso; omega; done)
        | (refine aw_blk oX12_told_61 (pc' := 133) (ls' := [_, _, _, _]) (st' := [_]) (cs := []) rfl trivial ?_
           refine aw_iret eX12_told_133 rfl (Nat.le_refl _) (Nat.le_refl _) ?_
           exact pe_i rfl rfl rfl)
  · by_cases w2 : w = 2
    · subst w2
      have hX := c_stills (κ := κ) (μ := μ) (ν := ν) h
      have hM := fun P K => l_toldM (κ := κ) (μ := μ) (ν := ν) (w := 2) (P := P) h hs1 hw (fun k => isSt μ k) (fun k => by rw [if_neg (by decide), if_pos rfl]) K (μ 2 7).toNat 0 (by omega)
      refine ⟨_, μ, ν, μ, ?_, ?_, (blB_R _ : R32 (blB (fun k => isSt μ k) (μ 2 7).toNat)), rfl, rfl⟩
      · skip
        refine AMet.of kX11_told.1 (Nat.le_of_ble_eq_true rfl) rfl ?_
        refine aw_blk oX11_told_0 (pc' := 1) (ls' := [_, _]) (st' := [_]) (cs := []) rfl trivial ?_
        refine aw_tswIn (tgt := 66) eX11_told_1 (by decide) (by decide) (by decide) rfl (by decide) ?_
        refine aw_blk oX11_told_66 (pc' := 70) (ls' := [_, _]) (st' := [_]) (cs := []) rfl trivial ?_
        refine aw_ciV (rest := []) (hX) kX3_stills eX11_told_70 lX11_told_70 rfl rfl rfl rfl (Nat.le_of_ble_eq_true rfl) ⟨Nat.le_of_ble_eq_true rfl, Nat.le_of_ble_eq_true rfl⟩ ⟨Nat.le_refl _, Nat.le_refl _⟩ ?_
        refine aw_iret eX11_told_73 rfl (Nat.le_refl _) (Nat.le_refl _) ?_
        exact pe_i rfl rfl rfl
      · skip
        refine AMet.of kX12_told.1 (Nat.le_of_ble_eq_true rfl) rfl ?_
        refine aw_blk oX12_told_0 (pc' := 4) (ls' := [_, _, _, _]) (st' := []) (cs := []) rfl trivial ?_
        refine hM _ ?_
        refine aw_blk oX12_told_57 (pc' := 58) (ls' := [_, _, _, _]) (st' := [_]) (cs := []) rfl trivial ?_
        refine aw_if_ne (tgt := 68) eX12_told_58 (by decide) (by first | decide | omega) (fun h16 => ?_) (fun h16 => ?_)
        · first
          | (exfalso; omega; done)
          | (refine aw_blk oX12_told_68 (pc' := 70) (ls' := [_, _, _, _]) (st' := [_, _]) (cs := []) rfl trivial ?_
             refine aw_icmp_eq (tgt := 78) eX12_told_70 (by decide) (by first | decide | omega) (by first | decide | omega) (fun h17 => ?_) (fun h17 => ?_)
             · first
               | (exfalso; omega; done)
               | (refine aw_blk oX12_told_78 (pc' := 133) (ls' := [_, _, _, _]) (st' := [_]) (cs := []) rfl trivial ?_
                  refine aw_iret eX12_told_133 rfl (Nat.le_refl _) (Nat.le_refl _) ?_
                  exact pe_i rfl rfl rfl)
             · first
               | (exfalso; omega; done)
               | (refine aw_blk oX12_told_73 (pc' := 75) (ls' := [_, _, _, _]) (st' := [_, _]) (cs := []) rfl trivial ?_
                  refine aw_icmp_ne (tgt := 82) eX12_told_75 (by decide) (by first | decide | omega) (by first | decide | omega) (fun h18 => ?_) (fun h18 => ?_)
                  · first
                    | (exfalso; omega; done)
                    | (refine aw_blk oX12_told_82 (pc' := 84) (ls' := [_, _, _, _]) (st' := [_, _]) (cs := []) rfl trivial ?_
                       refine aw_icmp_ne (tgt := 94) eX12_told_84 (by decide) (by first | decide | omega) (by first | decide | omega) (fun h19 => ?_) (fun h19 => ?_)
                       · first
                         | (exfalso; omega; done)
                         | (refine aw_blk oX12_told_94 (pc' := 96) (ls' := [_, _, _, _]) (st' := [_, _]) (cs := []) rfl trivial ?_
                            refine aw_icmp_ne (tgt := 106) eX12_told_96 (by decide) (by first | decide | omega) (by first | decide | omega) (fun h20 => ?_) (fun h20 => ?_)
                            · first
                              | (exfalso; omega; done)
                              | (refine aw_blk oX12_told_106 (pc' := 108) (ls' := [_, _, _, _]) (st' := [_, _]) (cs := []) rfl trivial ?_
                                 refine aw_icmp_ne (tgt := 118) eX12_told_108 (by decide) (by first | decide | omega) (by first | decide | omega) (fun h21 => ?_) (fun h21 => ?_)
                                 · first
                                   | (exfalso; omega; done)
                                   | (refine aw_blk oX12_told_118 (pc' := 121) (ls' := [_, _, _, _]) (st' := [_, _]) (cs := []) rfl trivial ?_
                                      refine aw_icmp_ne (tgt := 131) eX12_told_121 (by decide) (by first | decide | omega) (by first | decide | omega) (fun h22 => ?_) (fun h22 => ?_)
                                      · first
                                        | (exfalso; omega; done)
                                        | (refine aw_blk oX12_told_131 (pc' := 133) (ls' := [_, _, _, _]) (st' := [_]) (cs := []) rfl trivial ?_
                                           refine aw_iret eX12_told_133 rfl (Nat.le_refl _) (Nat.le_refl _) ?_
                                           exact pe_i rfl rfl rfl)
                                      · first
                                        | (exfalso; omega; done)
                                        | (refine aw_blk oX12_told_124 (pc' := 133) (ls' := [_, _, _, _]) (st' := [_]) (cs := []) rfl trivial ?_
                                           refine aw_iret eX12_told_133 rfl (Nat.le_refl _) (Nat.le_refl _) ?_
                                           exact pe_i rfl rfl rfl))
                                 · first
                                   | (exfalso; omega; done)
                                   | (refine aw_blk oX12_told_111 (pc' := 133) (ls' := [_, _, _, _]) (st' := [_]) (cs := []) rfl trivial ?_
                                      refine aw_iret eX12_told_133 rfl (Nat.le_refl _) (Nat.le_refl _) ?_
                                      exact pe_i rfl rfl rfl))
                            · first
                              | (exfalso; omega; done)
                              | (refine aw_blk oX12_told_99 (pc' := 133) (ls' := [_, _, _, _]) (st' := [_]) (cs := []) rfl trivial ?_
                                 refine aw_iret eX12_told_133 rfl (Nat.le_refl _) (Nat.le_refl _) ?_
                                 exact pe_i rfl rfl rfl))
                       · first
                         | (exfalso; omega; done)
                         | (refine aw_blk oX12_told_87 (pc' := 133) (ls' := [_, _, _, _]) (st' := [_]) (cs := []) rfl trivial ?_
                            refine aw_iret eX12_told_133 rfl (Nat.le_refl _) (Nat.le_refl _) ?_
                            exact pe_i rfl rfl rfl))
                  · first
                    | (exfalso; omega; done)
                    | (refine aw_blk oX12_told_78 (pc' := 133) (ls' := [_, _, _, _]) (st' := [_]) (cs := []) rfl trivial ?_
                       refine aw_iret eX12_told_133 rfl (Nat.le_refl _) (Nat.le_refl _) ?_
                       exact pe_i rfl rfl rfl)))
        · first
          | (exfalso; omega; done)
          | (refine aw_blk oX12_told_61 (pc' := 133) (ls' := [_, _, _, _]) (st' := [_]) (cs := []) rfl trivial ?_
             refine aw_iret eX12_told_133 rfl (Nat.le_refl _) (Nat.le_refl _) ?_
             exact pe_i rfl rfl rfl)
    · have hM := fun P K => l_toldM (κ := κ) (μ := μ) (ν := ν) (w := w) (P := P) h hs1 hw (fun _ => false) (fun k => by rw [if_neg w1, if_neg w2]) K (μ 2 7).toNat 0 (by omega)
      obtain ⟨f1, f2, -⟩ := hf
      have u1 := hu.1
      have r1 := hr.1
      by_cases w0 : w = 0
      · subst w0
        refine ⟨μ 2 7, μ, ν, μ, ?_, ?_, by omega, rfl, rfl⟩
        · skip
          refine AMet.of kX11_told.1 (Nat.le_of_ble_eq_true rfl) rfl ?_
          refine aw_blk oX11_told_0 (pc' := 1) (ls' := [_, _]) (st' := [_]) (cs := []) rfl trivial ?_
          refine aw_tswIn (tgt := 44) eX11_told_1 (by decide) (by decide) (by decide) rfl (by decide) ?_
          refine aw_blk oX11_told_44 (pc' := 51) (ls' := [_, _]) (st' := [_]) (cs := []) rfl trivial ?_
          refine aw_iret eX11_told_51 rfl (Nat.le_refl _) (Nat.le_refl _) ?_
          exact pe_i rfl rfl rfl
        · skip
          refine AMet.of kX12_told.1 (Nat.le_of_ble_eq_true rfl) rfl ?_
          refine aw_blk oX12_told_0 (pc' := 4) (ls' := [_, _, _, _]) (st' := []) (cs := []) rfl trivial ?_
          refine hM _ ?_
          refine aw_blk oX12_told_57 (pc' := 58) (ls' := [_, _, _, _]) (st' := [_]) (cs := []) rfl trivial ?_
          refine aw_if_ne (tgt := 68) eX12_told_58 (by decide) (by omega) (fun h23 => ?_) (fun h23 => ?_)
          · first
            | (exfalso; omega; done)
            | (refine aw_blk oX12_told_68 (pc' := 70) (ls' := [_, _, _, _]) (st' := [_, _]) (cs := []) rfl trivial ?_
               refine aw_icmp_eq (tgt := 78) eX12_told_70 (by decide) (by omega) (by omega) (fun h24 => ?_) (fun h24 => ?_)
               · first
                 | (exfalso; omega; done)
                 | (refine aw_blk oX12_told_78 (pc' := 133) (ls' := [_, _, _, _]) (st' := [_]) (cs := []) rfl trivial ?_
                    refine aw_iret eX12_told_133 rfl (Nat.le_refl _) (Nat.le_refl _) ?_
                    exact pe_i a.1 rfl rfl)
               · first
                 | (exfalso; omega; done)
                 | (refine aw_blk oX12_told_73 (pc' := 75) (ls' := [_, _, _, _]) (st' := [_, _]) (cs := []) rfl trivial ?_
                    refine aw_icmp_ne (tgt := 82) eX12_told_75 (by decide) (by omega) (by omega) (fun h25 => ?_) (fun h25 => ?_)
                    · first
                      | (exfalso; omega; done)
                      | (refine aw_blk oX12_told_82 (pc' := 84) (ls' := [_, _, _, _]) (st' := [_, _]) (cs := []) rfl trivial ?_
                         refine aw_icmp_ne (tgt := 94) eX12_told_84 (by decide) (by omega) (by omega) (fun h26 => ?_) (fun h26 => ?_)
                         · first
                           | (exfalso; omega; done)
                           | (refine aw_blk oX12_told_94 (pc' := 96) (ls' := [_, _, _, _]) (st' := [_, _]) (cs := []) rfl trivial ?_
                              refine aw_icmp_ne (tgt := 106) eX12_told_96 (by decide) (by omega) (by omega) (fun h27 => ?_) (fun h27 => ?_)
                              · first
                                | (exfalso; omega; done)
                                | (refine aw_blk oX12_told_106 (pc' := 108) (ls' := [_, _, _, _]) (st' := [_, _]) (cs := []) rfl trivial ?_
                                   refine aw_icmp_ne (tgt := 118) eX12_told_108 (by decide) (by omega) (by omega) (fun h28 => ?_) (fun h28 => ?_)
                                   · first
                                     | (exfalso; omega; done)
                                     | (refine aw_blk oX12_told_118 (pc' := 121) (ls' := [_, _, _, _]) (st' := [_, _]) (cs := []) rfl trivial ?_
                                        refine aw_icmp_ne (tgt := 131) eX12_told_121 (by decide) (by omega) (by omega) (fun h29 => ?_) (fun h29 => ?_)
                                        · first
                                          | (exfalso; omega; done)
                                          | (refine aw_blk oX12_told_131 (pc' := 133) (ls' := [_, _, _, _]) (st' := [_]) (cs := []) rfl trivial ?_
                                             refine aw_iret eX12_told_133 rfl (Nat.le_refl _) (Nat.le_refl _) ?_
                                             exact pe_i a.1 rfl rfl)
                                        · first
                                          | (exfalso; omega; done)
                                          | (refine aw_blk oX12_told_124 (pc' := 133) (ls' := [_, _, _, _]) (st' := [_]) (cs := []) rfl trivial ?_
                                             refine aw_iret eX12_told_133 rfl (Nat.le_refl _) (Nat.le_refl _) ?_
                                             exact pe_i a.1 rfl rfl))
                                   · first
                                     | (exfalso; omega; done)
                                     | (refine aw_blk oX12_told_111 (pc' := 133) (ls' := [_, _, _, _]) (st' := [_]) (cs := []) rfl trivial ?_
                                        refine aw_iret eX12_told_133 rfl (Nat.le_refl _) (Nat.le_refl _) ?_
                                        exact pe_i a.1 rfl rfl))
                              · first
                                | (exfalso; omega; done)
                                | (refine aw_blk oX12_told_99 (pc' := 133) (ls' := [_, _, _, _]) (st' := [_]) (cs := []) rfl trivial ?_
                                   refine aw_iret eX12_told_133 rfl (Nat.le_refl _) (Nat.le_refl _) ?_
                                   exact pe_i a.1 rfl rfl))
                         · first
                           | (exfalso; omega; done)
                           | (refine aw_blk oX12_told_87 (pc' := 133) (ls' := [_, _, _, _]) (st' := [_]) (cs := []) rfl trivial ?_
                              refine aw_iret eX12_told_133 rfl (Nat.le_refl _) (Nat.le_refl _) ?_
                              exact pe_i a.1 rfl rfl))
                    · first
                      | (exfalso; omega; done)
                      | (refine aw_blk oX12_told_78 (pc' := 133) (ls' := [_, _, _, _]) (st' := [_]) (cs := []) rfl trivial ?_
                         refine aw_iret eX12_told_133 rfl (Nat.le_refl _) (Nat.le_refl _) ?_
                         exact pe_i a.1 rfl rfl)))
          · first
            | (exfalso; omega; done)
            | (refine aw_blk oX12_told_61 (pc' := 133) (ls' := [_, _, _, _]) (st' := [_]) (cs := []) rfl trivial ?_
               refine aw_iret eX12_told_133 rfl (Nat.le_refl _) (Nat.le_refl _) ?_
               exact pe_i a.1 rfl rfl)
      · by_cases w3 : w = 3
        · subst w3
          refine ⟨μ 17 1, μ, ν, μ, ?_, ?_, by omega, rfl, rfl⟩
          · skip
            refine AMet.of kX11_told.1 (Nat.le_of_ble_eq_true rfl) rfl ?_
            refine aw_blk oX11_told_0 (pc' := 1) (ls' := [_, _]) (st' := [_]) (cs := []) rfl trivial ?_
            refine aw_tswIn (tgt := 74) eX11_told_1 (by decide) (by decide) (by decide) rfl (by decide) ?_
            refine aw_blk oX11_told_74 (pc' := 81) (ls' := [_, _]) (st' := [_]) (cs := []) rfl trivial ?_
            refine aw_iret eX11_told_81 rfl (Nat.le_refl _) (Nat.le_refl _) ?_
            exact pe_i rfl rfl rfl
          · skip
            refine AMet.of kX12_told.1 (Nat.le_of_ble_eq_true rfl) rfl ?_
            refine aw_blk oX12_told_0 (pc' := 4) (ls' := [_, _, _, _]) (st' := []) (cs := []) rfl trivial ?_
            refine hM _ ?_
            refine aw_blk oX12_told_57 (pc' := 58) (ls' := [_, _, _, _]) (st' := [_]) (cs := []) rfl trivial ?_
            refine aw_if_ne (tgt := 68) eX12_told_58 (by decide) (by omega) (fun h30 => ?_) (fun h30 => ?_)
            · first
              | (exfalso; omega; done)
              | (refine aw_blk oX12_told_68 (pc' := 70) (ls' := [_, _, _, _]) (st' := [_, _]) (cs := []) rfl trivial ?_
                 refine aw_icmp_eq (tgt := 78) eX12_told_70 (by decide) (by omega) (by omega) (fun h31 => ?_) (fun h31 => ?_)
                 · first
                   | (exfalso; omega; done)
                   | (refine aw_blk oX12_told_78 (pc' := 133) (ls' := [_, _, _, _]) (st' := [_]) (cs := []) rfl trivial ?_
                      refine aw_iret eX12_told_133 rfl (Nat.le_refl _) (Nat.le_refl _) ?_
                      exact pe_i u1.1 rfl rfl)
                 · first
                   | (exfalso; omega; done)
                   | (refine aw_blk oX12_told_73 (pc' := 75) (ls' := [_, _, _, _]) (st' := [_, _]) (cs := []) rfl trivial ?_
                      refine aw_icmp_ne (tgt := 82) eX12_told_75 (by decide) (by omega) (by omega) (fun h32 => ?_) (fun h32 => ?_)
                      · first
                        | (exfalso; omega; done)
                        | (refine aw_blk oX12_told_82 (pc' := 84) (ls' := [_, _, _, _]) (st' := [_, _]) (cs := []) rfl trivial ?_
                           refine aw_icmp_ne (tgt := 94) eX12_told_84 (by decide) (by omega) (by omega) (fun h33 => ?_) (fun h33 => ?_)
                           · first
                             | (exfalso; omega; done)
                             | (refine aw_blk oX12_told_94 (pc' := 96) (ls' := [_, _, _, _]) (st' := [_, _]) (cs := []) rfl trivial ?_
                                refine aw_icmp_ne (tgt := 106) eX12_told_96 (by decide) (by omega) (by omega) (fun h34 => ?_) (fun h34 => ?_)
                                · first
                                  | (exfalso; omega; done)
                                  | (refine aw_blk oX12_told_106 (pc' := 108) (ls' := [_, _, _, _]) (st' := [_, _]) (cs := []) rfl trivial ?_
                                     refine aw_icmp_ne (tgt := 118) eX12_told_108 (by decide) (by omega) (by omega) (fun h35 => ?_) (fun h35 => ?_)
                                     · first
                                       | (exfalso; omega; done)
                                       | (refine aw_blk oX12_told_118 (pc' := 121) (ls' := [_, _, _, _]) (st' := [_, _]) (cs := []) rfl trivial ?_
                                          refine aw_icmp_ne (tgt := 131) eX12_told_121 (by decide) (by omega) (by omega) (fun h36 => ?_) (fun h36 => ?_)
                                          · first
                                            | (exfalso; omega; done)
                                            | (refine aw_blk oX12_told_131 (pc' := 133) (ls' := [_, _, _, _]) (st' := [_]) (cs := []) rfl trivial ?_
                                               refine aw_iret eX12_told_133 rfl (Nat.le_refl _) (Nat.le_refl _) ?_
                                               exact pe_i u1.1 rfl rfl)
                                          · first
                                            | (exfalso; omega; done)
                                            | (refine aw_blk oX12_told_124 (pc' := 133) (ls' := [_, _, _, _]) (st' := [_]) (cs := []) rfl trivial ?_
                                               refine aw_iret eX12_told_133 rfl (Nat.le_refl _) (Nat.le_refl _) ?_
                                               exact pe_i u1.1 rfl rfl))
                                     · first
                                       | (exfalso; omega; done)
                                       | (refine aw_blk oX12_told_111 (pc' := 133) (ls' := [_, _, _, _]) (st' := [_]) (cs := []) rfl trivial ?_
                                          refine aw_iret eX12_told_133 rfl (Nat.le_refl _) (Nat.le_refl _) ?_
                                          exact pe_i u1.1 rfl rfl))
                                · first
                                  | (exfalso; omega; done)
                                  | (refine aw_blk oX12_told_99 (pc' := 133) (ls' := [_, _, _, _]) (st' := [_]) (cs := []) rfl trivial ?_
                                     refine aw_iret eX12_told_133 rfl (Nat.le_refl _) (Nat.le_refl _) ?_
                                     exact pe_i u1.1 rfl rfl))
                           · first
                             | (exfalso; omega; done)
                             | (refine aw_blk oX12_told_87 (pc' := 133) (ls' := [_, _, _, _]) (st' := [_]) (cs := []) rfl trivial ?_
                                refine aw_iret eX12_told_133 rfl (Nat.le_refl _) (Nat.le_refl _) ?_
                                exact pe_i u1.1 rfl rfl))
                      · first
                        | (exfalso; omega; done)
                        | (refine aw_blk oX12_told_78 (pc' := 133) (ls' := [_, _, _, _]) (st' := [_]) (cs := []) rfl trivial ?_
                           refine aw_iret eX12_told_133 rfl (Nat.le_refl _) (Nat.le_refl _) ?_
                           exact pe_i u1.1 rfl rfl)))
            · first
              | (exfalso; omega; done)
              | (refine aw_blk oX12_told_61 (pc' := 133) (ls' := [_, _, _, _]) (st' := [_]) (cs := []) rfl trivial ?_
                 refine aw_iret eX12_told_133 rfl (Nat.le_refl _) (Nat.le_refl _) ?_
                 exact pe_i u1.1 rfl rfl)
        · by_cases w4 : w = 4
          · subst w4
            refine ⟨μ 38 5, μ, ν, μ, ?_, ?_, by omega, rfl, rfl⟩
            · skip
              refine AMet.of kX11_told.1 (Nat.le_of_ble_eq_true rfl) rfl ?_
              refine aw_blk oX11_told_0 (pc' := 1) (ls' := [_, _]) (st' := [_]) (cs := []) rfl trivial ?_
              refine aw_tswIn (tgt := 82) eX11_told_1 (by decide) (by decide) (by decide) rfl (by decide) ?_
              refine aw_blk oX11_told_82 (pc' := 89) (ls' := [_, _]) (st' := [_]) (cs := []) rfl trivial ?_
              refine aw_iret eX11_told_89 rfl (Nat.le_refl _) (Nat.le_refl _) ?_
              exact pe_i rfl rfl rfl
            · skip
              refine AMet.of kX12_told.1 (Nat.le_of_ble_eq_true rfl) rfl ?_
              refine aw_blk oX12_told_0 (pc' := 4) (ls' := [_, _, _, _]) (st' := []) (cs := []) rfl trivial ?_
              refine hM _ ?_
              refine aw_blk oX12_told_57 (pc' := 58) (ls' := [_, _, _, _]) (st' := [_]) (cs := []) rfl trivial ?_
              refine aw_if_ne (tgt := 68) eX12_told_58 (by decide) (by omega) (fun h37 => ?_) (fun h37 => ?_)
              · first
                | (exfalso; omega; done)
                | (refine aw_blk oX12_told_68 (pc' := 70) (ls' := [_, _, _, _]) (st' := [_, _]) (cs := []) rfl trivial ?_
                   refine aw_icmp_eq (tgt := 78) eX12_told_70 (by decide) (by omega) (by omega) (fun h38 => ?_) (fun h38 => ?_)
                   · first
                     | (exfalso; omega; done)
                     | (refine aw_blk oX12_told_78 (pc' := 133) (ls' := [_, _, _, _]) (st' := [_]) (cs := []) rfl trivial ?_
                        refine aw_iret eX12_told_133 rfl (Nat.le_refl _) (Nat.le_refl _) ?_
                        exact pe_i r1.2.2 rfl rfl)
                   · first
                     | (exfalso; omega; done)
                     | (refine aw_blk oX12_told_73 (pc' := 75) (ls' := [_, _, _, _]) (st' := [_, _]) (cs := []) rfl trivial ?_
                        refine aw_icmp_ne (tgt := 82) eX12_told_75 (by decide) (by omega) (by omega) (fun h39 => ?_) (fun h39 => ?_)
                        · first
                          | (exfalso; omega; done)
                          | (refine aw_blk oX12_told_82 (pc' := 84) (ls' := [_, _, _, _]) (st' := [_, _]) (cs := []) rfl trivial ?_
                             refine aw_icmp_ne (tgt := 94) eX12_told_84 (by decide) (by omega) (by omega) (fun h40 => ?_) (fun h40 => ?_)
                             · first
                               | (exfalso; omega; done)
                               | (refine aw_blk oX12_told_94 (pc' := 96) (ls' := [_, _, _, _]) (st' := [_, _]) (cs := []) rfl trivial ?_
                                  refine aw_icmp_ne (tgt := 106) eX12_told_96 (by decide) (by omega) (by omega) (fun h41 => ?_) (fun h41 => ?_)
                                  · first
                                    | (exfalso; omega; done)
                                    | (refine aw_blk oX12_told_106 (pc' := 108) (ls' := [_, _, _, _]) (st' := [_, _]) (cs := []) rfl trivial ?_
                                       refine aw_icmp_ne (tgt := 118) eX12_told_108 (by decide) (by omega) (by omega) (fun h42 => ?_) (fun h42 => ?_)
                                       · first
                                         | (exfalso; omega; done)
                                         | (refine aw_blk oX12_told_118 (pc' := 121) (ls' := [_, _, _, _]) (st' := [_, _]) (cs := []) rfl trivial ?_
                                            refine aw_icmp_ne (tgt := 131) eX12_told_121 (by decide) (by omega) (by omega) (fun h43 => ?_) (fun h43 => ?_)
                                            · first
                                              | (exfalso; omega; done)
                                              | (refine aw_blk oX12_told_131 (pc' := 133) (ls' := [_, _, _, _]) (st' := [_]) (cs := []) rfl trivial ?_
                                                 refine aw_iret eX12_told_133 rfl (Nat.le_refl _) (Nat.le_refl _) ?_
                                                 exact pe_i r1.2.2 rfl rfl)
                                            · first
                                              | (exfalso; omega; done)
                                              | (refine aw_blk oX12_told_124 (pc' := 133) (ls' := [_, _, _, _]) (st' := [_]) (cs := []) rfl trivial ?_
                                                 refine aw_iret eX12_told_133 rfl (Nat.le_refl _) (Nat.le_refl _) ?_
                                                 exact pe_i r1.2.2 rfl rfl))
                                       · first
                                         | (exfalso; omega; done)
                                         | (refine aw_blk oX12_told_111 (pc' := 133) (ls' := [_, _, _, _]) (st' := [_]) (cs := []) rfl trivial ?_
                                            refine aw_iret eX12_told_133 rfl (Nat.le_refl _) (Nat.le_refl _) ?_
                                            exact pe_i r1.2.2 rfl rfl))
                                  · first
                                    | (exfalso; omega; done)
                                    | (refine aw_blk oX12_told_99 (pc' := 133) (ls' := [_, _, _, _]) (st' := [_]) (cs := []) rfl trivial ?_
                                       refine aw_iret eX12_told_133 rfl (Nat.le_refl _) (Nat.le_refl _) ?_
                                       exact pe_i r1.2.2 rfl rfl))
                             · first
                               | (exfalso; omega; done)
                               | (refine aw_blk oX12_told_87 (pc' := 133) (ls' := [_, _, _, _]) (st' := [_]) (cs := []) rfl trivial ?_
                                  refine aw_iret eX12_told_133 rfl (Nat.le_refl _) (Nat.le_refl _) ?_
                                  exact pe_i r1.2.2 rfl rfl))
                        · first
                          | (exfalso; omega; done)
                          | (refine aw_blk oX12_told_78 (pc' := 133) (ls' := [_, _, _, _]) (st' := [_]) (cs := []) rfl trivial ?_
                             refine aw_iret eX12_told_133 rfl (Nat.le_refl _) (Nat.le_refl _) ?_
                             exact pe_i r1.2.2 rfl rfl)))
              · first
                | (exfalso; omega; done)
                | (refine aw_blk oX12_told_61 (pc' := 133) (ls' := [_, _, _, _]) (st' := [_]) (cs := []) rfl trivial ?_
                   refine aw_iret eX12_told_133 rfl (Nat.le_refl _) (Nat.le_refl _) ?_
                   exact pe_i r1.2.2 rfl rfl)
          · by_cases w5 : w = 5
            · subst w5
              refine ⟨μ 14 2, μ, ν, μ, ?_, ?_, by omega, rfl, rfl⟩
              · skip
                refine AMet.of kX11_told.1 (Nat.le_of_ble_eq_true rfl) rfl ?_
                refine aw_blk oX11_told_0 (pc' := 1) (ls' := [_, _]) (st' := [_]) (cs := []) rfl trivial ?_
                refine aw_tswIn (tgt := 90) eX11_told_1 (by decide) (by decide) (by decide) rfl (by decide) ?_
                refine aw_blk oX11_told_90 (pc' := 97) (ls' := [_, _]) (st' := [_]) (cs := []) rfl trivial ?_
                refine aw_iret eX11_told_97 rfl (Nat.le_refl _) (Nat.le_refl _) ?_
                exact pe_i rfl rfl rfl
              · skip
                refine AMet.of kX12_told.1 (Nat.le_of_ble_eq_true rfl) rfl ?_
                refine aw_blk oX12_told_0 (pc' := 4) (ls' := [_, _, _, _]) (st' := []) (cs := []) rfl trivial ?_
                refine hM _ ?_
                refine aw_blk oX12_told_57 (pc' := 58) (ls' := [_, _, _, _]) (st' := [_]) (cs := []) rfl trivial ?_
                refine aw_if_ne (tgt := 68) eX12_told_58 (by decide) (by omega) (fun h44 => ?_) (fun h44 => ?_)
                · first
                  | (exfalso; omega; done)
                  | (refine aw_blk oX12_told_68 (pc' := 70) (ls' := [_, _, _, _]) (st' := [_, _]) (cs := []) rfl trivial ?_
                     refine aw_icmp_eq (tgt := 78) eX12_told_70 (by decide) (by omega) (by omega) (fun h45 => ?_) (fun h45 => ?_)
                     · first
                       | (exfalso; omega; done)
                       | (refine aw_blk oX12_told_78 (pc' := 133) (ls' := [_, _, _, _]) (st' := [_]) (cs := []) rfl trivial ?_
                          refine aw_iret eX12_told_133 rfl (Nat.le_refl _) (Nat.le_refl _) ?_
                          exact pe_i f1.1 rfl rfl)
                     · first
                       | (exfalso; omega; done)
                       | (refine aw_blk oX12_told_73 (pc' := 75) (ls' := [_, _, _, _]) (st' := [_, _]) (cs := []) rfl trivial ?_
                          refine aw_icmp_ne (tgt := 82) eX12_told_75 (by decide) (by omega) (by omega) (fun h46 => ?_) (fun h46 => ?_)
                          · first
                            | (exfalso; omega; done)
                            | (refine aw_blk oX12_told_82 (pc' := 84) (ls' := [_, _, _, _]) (st' := [_, _]) (cs := []) rfl trivial ?_
                               refine aw_icmp_ne (tgt := 94) eX12_told_84 (by decide) (by omega) (by omega) (fun h47 => ?_) (fun h47 => ?_)
                               · first
                                 | (exfalso; omega; done)
                                 | (refine aw_blk oX12_told_94 (pc' := 96) (ls' := [_, _, _, _]) (st' := [_, _]) (cs := []) rfl trivial ?_
                                    refine aw_icmp_ne (tgt := 106) eX12_told_96 (by decide) (by omega) (by omega) (fun h48 => ?_) (fun h48 => ?_)
                                    · first
                                      | (exfalso; omega; done)
                                      | (refine aw_blk oX12_told_106 (pc' := 108) (ls' := [_, _, _, _]) (st' := [_, _]) (cs := []) rfl trivial ?_
                                         refine aw_icmp_ne (tgt := 118) eX12_told_108 (by decide) (by omega) (by omega) (fun h49 => ?_) (fun h49 => ?_)
                                         · first
                                           | (exfalso; omega; done)
                                           | (refine aw_blk oX12_told_118 (pc' := 121) (ls' := [_, _, _, _]) (st' := [_, _]) (cs := []) rfl trivial ?_
                                              refine aw_icmp_ne (tgt := 131) eX12_told_121 (by decide) (by omega) (by omega) (fun h50 => ?_) (fun h50 => ?_)
                                              · first
                                                | (exfalso; omega; done)
                                                | (refine aw_blk oX12_told_131 (pc' := 133) (ls' := [_, _, _, _]) (st' := [_]) (cs := []) rfl trivial ?_
                                                   refine aw_iret eX12_told_133 rfl (Nat.le_refl _) (Nat.le_refl _) ?_
                                                   exact pe_i f1.1 rfl rfl)
                                              · first
                                                | (exfalso; omega; done)
                                                | (refine aw_blk oX12_told_124 (pc' := 133) (ls' := [_, _, _, _]) (st' := [_]) (cs := []) rfl trivial ?_
                                                   refine aw_iret eX12_told_133 rfl (Nat.le_refl _) (Nat.le_refl _) ?_
                                                   exact pe_i f1.1 rfl rfl))
                                         · first
                                           | (exfalso; omega; done)
                                           | (refine aw_blk oX12_told_111 (pc' := 133) (ls' := [_, _, _, _]) (st' := [_]) (cs := []) rfl trivial ?_
                                              refine aw_iret eX12_told_133 rfl (Nat.le_refl _) (Nat.le_refl _) ?_
                                              exact pe_i f1.1 rfl rfl))
                                    · first
                                      | (exfalso; omega; done)
                                      | (refine aw_blk oX12_told_99 (pc' := 133) (ls' := [_, _, _, _]) (st' := [_]) (cs := []) rfl trivial ?_
                                         refine aw_iret eX12_told_133 rfl (Nat.le_refl _) (Nat.le_refl _) ?_
                                         exact pe_i f1.1 rfl rfl))
                               · first
                                 | (exfalso; omega; done)
                                 | (refine aw_blk oX12_told_87 (pc' := 133) (ls' := [_, _, _, _]) (st' := [_]) (cs := []) rfl trivial ?_
                                    refine aw_iret eX12_told_133 rfl (Nat.le_refl _) (Nat.le_refl _) ?_
                                    exact pe_i f1.1 rfl rfl))
                          · first
                            | (exfalso; omega; done)
                            | (refine aw_blk oX12_told_78 (pc' := 133) (ls' := [_, _, _, _]) (st' := [_]) (cs := []) rfl trivial ?_
                               refine aw_iret eX12_told_133 rfl (Nat.le_refl _) (Nat.le_refl _) ?_
                               exact pe_i f1.1 rfl rfl)))
                · first
                  | (exfalso; omega; done)
                  | (refine aw_blk oX12_told_61 (pc' := 133) (ls' := [_, _, _, _]) (st' := [_]) (cs := []) rfl trivial ?_
                     refine aw_iret eX12_told_133 rfl (Nat.le_refl _) (Nat.le_refl _) ?_
                     exact pe_i f1.1 rfl rfl)
            · by_cases w6 : w = 6
              · subst w6
                refine ⟨μ 14 3, μ, ν, μ, ?_, ?_, by omega, rfl, rfl⟩
                · skip
                  refine AMet.of kX11_told.1 (Nat.le_of_ble_eq_true rfl) rfl ?_
                  refine aw_blk oX11_told_0 (pc' := 1) (ls' := [_, _]) (st' := [_]) (cs := []) rfl trivial ?_
                  refine aw_tswIn (tgt := 98) eX11_told_1 (by decide) (by decide) (by decide) rfl (by decide) ?_
                  refine aw_blk oX11_told_98 (pc' := 105) (ls' := [_, _]) (st' := [_]) (cs := []) rfl trivial ?_
                  refine aw_iret eX11_told_105 rfl (Nat.le_refl _) (Nat.le_refl _) ?_
                  exact pe_i rfl rfl rfl
                · skip
                  refine AMet.of kX12_told.1 (Nat.le_of_ble_eq_true rfl) rfl ?_
                  refine aw_blk oX12_told_0 (pc' := 4) (ls' := [_, _, _, _]) (st' := []) (cs := []) rfl trivial ?_
                  refine hM _ ?_
                  refine aw_blk oX12_told_57 (pc' := 58) (ls' := [_, _, _, _]) (st' := [_]) (cs := []) rfl trivial ?_
                  refine aw_if_ne (tgt := 68) eX12_told_58 (by decide) (by omega) (fun h51 => ?_) (fun h51 => ?_)
                  · first
                    | (exfalso; omega; done)
                    | (refine aw_blk oX12_told_68 (pc' := 70) (ls' := [_, _, _, _]) (st' := [_, _]) (cs := []) rfl trivial ?_
                       refine aw_icmp_eq (tgt := 78) eX12_told_70 (by decide) (by omega) (by omega) (fun h52 => ?_) (fun h52 => ?_)
                       · first
                         | (exfalso; omega; done)
                         | (refine aw_blk oX12_told_78 (pc' := 133) (ls' := [_, _, _, _]) (st' := [_]) (cs := []) rfl trivial ?_
                            refine aw_iret eX12_told_133 rfl (Nat.le_refl _) (Nat.le_refl _) ?_
                            exact pe_i f2.1 rfl rfl)
                       · first
                         | (exfalso; omega; done)
                         | (refine aw_blk oX12_told_73 (pc' := 75) (ls' := [_, _, _, _]) (st' := [_, _]) (cs := []) rfl trivial ?_
                            refine aw_icmp_ne (tgt := 82) eX12_told_75 (by decide) (by omega) (by omega) (fun h53 => ?_) (fun h53 => ?_)
                            · first
                              | (exfalso; omega; done)
                              | (refine aw_blk oX12_told_82 (pc' := 84) (ls' := [_, _, _, _]) (st' := [_, _]) (cs := []) rfl trivial ?_
                                 refine aw_icmp_ne (tgt := 94) eX12_told_84 (by decide) (by omega) (by omega) (fun h54 => ?_) (fun h54 => ?_)
                                 · first
                                   | (exfalso; omega; done)
                                   | (refine aw_blk oX12_told_94 (pc' := 96) (ls' := [_, _, _, _]) (st' := [_, _]) (cs := []) rfl trivial ?_
                                      refine aw_icmp_ne (tgt := 106) eX12_told_96 (by decide) (by omega) (by omega) (fun h55 => ?_) (fun h55 => ?_)
                                      · first
                                        | (exfalso; omega; done)
                                        | (refine aw_blk oX12_told_106 (pc' := 108) (ls' := [_, _, _, _]) (st' := [_, _]) (cs := []) rfl trivial ?_
                                           refine aw_icmp_ne (tgt := 118) eX12_told_108 (by decide) (by omega) (by omega) (fun h56 => ?_) (fun h56 => ?_)
                                           · first
                                             | (exfalso; omega; done)
                                             | (refine aw_blk oX12_told_118 (pc' := 121) (ls' := [_, _, _, _]) (st' := [_, _]) (cs := []) rfl trivial ?_
                                                refine aw_icmp_ne (tgt := 131) eX12_told_121 (by decide) (by omega) (by omega) (fun h57 => ?_) (fun h57 => ?_)
                                                · first
                                                  | (exfalso; omega; done)
                                                  | (refine aw_blk oX12_told_131 (pc' := 133) (ls' := [_, _, _, _]) (st' := [_]) (cs := []) rfl trivial ?_
                                                     refine aw_iret eX12_told_133 rfl (Nat.le_refl _) (Nat.le_refl _) ?_
                                                     exact pe_i f2.1 rfl rfl)
                                                · first
                                                  | (exfalso; omega; done)
                                                  | (refine aw_blk oX12_told_124 (pc' := 133) (ls' := [_, _, _, _]) (st' := [_]) (cs := []) rfl trivial ?_
                                                     refine aw_iret eX12_told_133 rfl (Nat.le_refl _) (Nat.le_refl _) ?_
                                                     exact pe_i f2.1 rfl rfl))
                                           · first
                                             | (exfalso; omega; done)
                                             | (refine aw_blk oX12_told_111 (pc' := 133) (ls' := [_, _, _, _]) (st' := [_]) (cs := []) rfl trivial ?_
                                                refine aw_iret eX12_told_133 rfl (Nat.le_refl _) (Nat.le_refl _) ?_
                                                exact pe_i f2.1 rfl rfl))
                                      · first
                                        | (exfalso; omega; done)
                                        | (refine aw_blk oX12_told_99 (pc' := 133) (ls' := [_, _, _, _]) (st' := [_]) (cs := []) rfl trivial ?_
                                           refine aw_iret eX12_told_133 rfl (Nat.le_refl _) (Nat.le_refl _) ?_
                                           exact pe_i f2.1 rfl rfl))
                                 · first
                                   | (exfalso; omega; done)
                                   | (refine aw_blk oX12_told_87 (pc' := 133) (ls' := [_, _, _, _]) (st' := [_]) (cs := []) rfl trivial ?_
                                      refine aw_iret eX12_told_133 rfl (Nat.le_refl _) (Nat.le_refl _) ?_
                                      exact pe_i f2.1 rfl rfl))
                            · first
                              | (exfalso; omega; done)
                              | (refine aw_blk oX12_told_78 (pc' := 133) (ls' := [_, _, _, _]) (st' := [_]) (cs := []) rfl trivial ?_
                                 refine aw_iret eX12_told_133 rfl (Nat.le_refl _) (Nat.le_refl _) ?_
                                 exact pe_i f2.1 rfl rfl)))
                  · first
                    | (exfalso; omega; done)
                    | (refine aw_blk oX12_told_61 (pc' := 133) (ls' := [_, _, _, _]) (st' := [_]) (cs := []) rfl trivial ?_
                       refine aw_iret eX12_told_133 rfl (Nat.le_refl _) (Nat.le_refl _) ?_
                       exact pe_i f2.1 rfl rfl)
              · refine ⟨-2, μ, ν, μ, ?_, ?_, by decide, rfl, rfl⟩
                · skip
                  refine AMet.of kX11_told.1 (Nat.le_of_ble_eq_true rfl) rfl ?_
                  refine aw_blk oX11_told_0 (pc' := 1) (ls' := [_, _]) (st' := [_]) (cs := []) rfl trivial ?_
                  refine aw_tswOut (tgt := 106) eX11_told_1 (by omega) (by omega) (by decide) ?_
                  refine aw_blk oX11_told_106 (pc' := 108) (ls' := [_, _]) (st' := [_]) (cs := []) rfl trivial ?_
                  refine aw_iret eX11_told_108 rfl (Nat.le_refl _) (Nat.le_refl _) ?_
                  exact pe_i rfl rfl rfl
                · skip
                  refine AMet.of kX12_told.1 (Nat.le_of_ble_eq_true rfl) rfl ?_
                  refine aw_blk oX12_told_0 (pc' := 4) (ls' := [_, _, _, _]) (st' := []) (cs := []) rfl trivial ?_
                  refine hM _ ?_
                  refine aw_blk oX12_told_57 (pc' := 58) (ls' := [_, _, _, _]) (st' := [_]) (cs := []) rfl trivial ?_
                  refine aw_if_ne (tgt := 68) eX12_told_58 (by decide) (by omega) (fun h58 => ?_) (fun h58 => ?_)
                  · first
                    | (exfalso; omega; done)
                    | (refine aw_blk oX12_told_68 (pc' := 70) (ls' := [_, _, _, _]) (st' := [_, _]) (cs := []) rfl trivial ?_
                       refine aw_icmp_eq (tgt := 78) eX12_told_70 (by decide) (by omega) (by omega) (fun h59 => ?_) (fun h59 => ?_)
                       · first
                         | (exfalso; omega; done)
                         | (refine aw_blk oX12_told_78 (pc' := 133) (ls' := [_, _, _, _]) (st' := [_]) (cs := []) rfl trivial ?_
                            refine aw_iret eX12_told_133 rfl (Nat.le_refl _) (Nat.le_refl _) ?_
                            exact pe_i rfl rfl rfl)
                       · first
                         | (exfalso; omega; done)
                         | (refine aw_blk oX12_told_73 (pc' := 75) (ls' := [_, _, _, _]) (st' := [_, _]) (cs := []) rfl trivial ?_
                            refine aw_icmp_ne (tgt := 82) eX12_told_75 (by decide) (by omega) (by omega) (fun h60 => ?_) (fun h60 => ?_)
                            · first
                              | (exfalso; omega; done)
                              | (refine aw_blk oX12_told_82 (pc' := 84) (ls' := [_, _, _, _]) (st' := [_, _]) (cs := []) rfl trivial ?_
                                 refine aw_icmp_ne (tgt := 94) eX12_told_84 (by decide) (by omega) (by omega) (fun h61 => ?_) (fun h61 => ?_)
                                 · first
                                   | (exfalso; omega; done)
                                   | (refine aw_blk oX12_told_94 (pc' := 96) (ls' := [_, _, _, _]) (st' := [_, _]) (cs := []) rfl trivial ?_
                                      refine aw_icmp_ne (tgt := 106) eX12_told_96 (by decide) (by omega) (by omega) (fun h62 => ?_) (fun h62 => ?_)
                                      · first
                                        | (exfalso; omega; done)
                                        | (refine aw_blk oX12_told_106 (pc' := 108) (ls' := [_, _, _, _]) (st' := [_, _]) (cs := []) rfl trivial ?_
                                           refine aw_icmp_ne (tgt := 118) eX12_told_108 (by decide) (by omega) (by omega) (fun h63 => ?_) (fun h63 => ?_)
                                           · first
                                             | (exfalso; omega; done)
                                             | (refine aw_blk oX12_told_118 (pc' := 121) (ls' := [_, _, _, _]) (st' := [_, _]) (cs := []) rfl trivial ?_
                                                refine aw_icmp_ne (tgt := 131) eX12_told_121 (by decide) (by omega) (by omega) (fun h64 => ?_) (fun h64 => ?_)
                                                · first
                                                  | (exfalso; omega; done)
                                                  | (refine aw_blk oX12_told_131 (pc' := 133) (ls' := [_, _, _, _]) (st' := [_]) (cs := []) rfl trivial ?_
                                                     refine aw_iret eX12_told_133 rfl (Nat.le_refl _) (Nat.le_refl _) ?_
                                                     exact pe_i rfl rfl rfl)
                                                · first
                                                  | (exfalso; omega; done)
                                                  | (refine aw_blk oX12_told_124 (pc' := 133) (ls' := [_, _, _, _]) (st' := [_]) (cs := []) rfl trivial ?_
                                                     refine aw_iret eX12_told_133 rfl (Nat.le_refl _) (Nat.le_refl _) ?_
                                                     exact pe_i rfl rfl rfl))
                                           · first
                                             | (exfalso; omega; done)
                                             | (refine aw_blk oX12_told_111 (pc' := 133) (ls' := [_, _, _, _]) (st' := [_]) (cs := []) rfl trivial ?_
                                                refine aw_iret eX12_told_133 rfl (Nat.le_refl _) (Nat.le_refl _) ?_
                                                exact pe_i rfl rfl rfl))
                                      · first
                                        | (exfalso; omega; done)
                                        | (refine aw_blk oX12_told_99 (pc' := 133) (ls' := [_, _, _, _]) (st' := [_]) (cs := []) rfl trivial ?_
                                           refine aw_iret eX12_told_133 rfl (Nat.le_refl _) (Nat.le_refl _) ?_
                                           exact pe_i rfl rfl rfl))
                                 · first
                                   | (exfalso; omega; done)
                                   | (refine aw_blk oX12_told_87 (pc' := 133) (ls' := [_, _, _, _]) (st' := [_]) (cs := []) rfl trivial ?_
                                      refine aw_iret eX12_told_133 rfl (Nat.le_refl _) (Nat.le_refl _) ?_
                                      exact pe_i rfl rfl rfl))
                            · first
                              | (exfalso; omega; done)
                              | (refine aw_blk oX12_told_78 (pc' := 133) (ls' := [_, _, _, _]) (st' := [_]) (cs := []) rfl trivial ?_
                                 refine aw_iret eX12_told_133 rfl (Nat.le_refl _) (Nat.le_refl _) ?_
                                 exact pe_i rfl rfl rfl)))
                  · first
                    | (exfalso; omega; done)
                    | (refine aw_blk oX12_told_61 (pc' := 133) (ls' := [_, _, _, _]) (st' := [_]) (cs := []) rfl trivial ?_
                       refine aw_iret eX12_told_133 rfl (Nat.le_refl _) (Nat.le_refl _) ?_
                       exact pe_i rfl rfl rfl)

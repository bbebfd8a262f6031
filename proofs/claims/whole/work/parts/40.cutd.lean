/-! ===== dots and losses ===== -/
theorem bDiv_nn {a b : Int} (ha : 0 ≤ a ∧ a < 2147483648) (hb : 0 < b ∧ b < 2147483648) : bDiv a b = a / b := by
  unfold bDiv
  rw [Int32.toInt_div_of_ne_right, ti32 (by omega), ti32 (by omega), Int.tdiv_eq_ediv_of_nonneg ha.1]
  intro h
  have := congrArg Int32.toInt h
  rw [ti32 (by omega)] at this
  have e : (-1 : Int32).toInt = -1 := by decide
  rw [e] at this
  omega
theorem bRem_nn {a b : Int} (ha : 0 ≤ a ∧ a < 2147483648) (hb : 0 < b ∧ b < 2147483648) : bRem a b = a % b := by
  have hq : 0 ≤ a / b ∧ a / b ≤ a := ⟨Int.ediv_nonneg ha.1 (by omega), Int.ediv_le_self b ha.1⟩
  have e : Int32.ofInt a / Int32.ofInt b = Int32.ofInt (a / b) := by
    rw [← Int32.toInt_inj, ti32 (by omega)]
    exact bDiv_nn ha hb
  have hm : 0 ≤ a % b ∧ a % b < b := ⟨Int.emod_nonneg a (by omega), Int.emod_lt_of_pos a hb.1⟩
  have e2 : a - a / b * b = a % b := by
    have := Int.emod_def a b
    rw [Int.mul_comm] at this
    exact this.symm
  unfold bRem
  rw [e, ← Int32.ofInt_mul, ← Int32.ofInt_sub, e2, ti32 (by omega)]
theorem sv (b k : Int) (hb : 0 ≤ b ∧ b < 4) (hk : 0 ≤ k ∧ k < 4) : stv 3 b + stv 4 k = dAt b k ∧ 0 ≤ dAt b k ∧ dAt b k < 16 := by
  rcases (show b = 0 ∨ b = 1 ∨ b = 2 ∨ b = 3 by omega) with rfl | rfl | rfl | rfl <;> rcases (show k = 0 ∨ k = 1 ∨ k = 2 ∨ k = 3 by omega) with rfl | rfl | rfl | rfl <;> decide
theorem svb (b : Int) (hb : 0 ≤ b ∧ b < 4) : 0 ≤ stv 3 b ∧ stv 3 b ≤ 10 := by
  rcases (show b = 0 ∨ b = 1 ∨ b = 2 ∨ b = 3 by omega) with rfl | rfl | rfl | rfl <;> decide
theorem svk (b : Int) (hb : 0 ≤ b ∧ b < 4) : 0 ≤ stv 4 b ∧ stv 4 b ≤ 5 := by
  rcases (show b = 0 ∨ b = 1 ∨ b = 2 ∨ b = 3 by omega) with rfl | rfl | rfl | rfl <;> decide
theorem svl : ((stA 2).length : Int) = 11 ∧ ((stA 3).length : Int) = 4 ∧ ((stA 4).length : Int) = 4 := ⟨rfl, rfl, rfl⟩
theorem wyb (w : Int) (hw : 0 ≤ w ∧ w < 11) : stv 2 w = cbt w ∧ 1 ≤ cbt w ∧ cbt w ≤ 20 := by
  rcases (show w = 0 ∨ w = 1 ∨ w = 2 ∨ w = 3 ∨ w = 4 ∨ w = 5 ∨ w = 6 ∨ w = 7 ∨ w = 8 ∨ w = 9 ∨ w = 10 by omega) with rfl | rfl | rfl | rfl | rfl | rfl | rfl | rfl | rfl | rfl | rfl <;> decide
theorem hld_bd (v : Int) : 0 ≤ hld v ∧ hld v ≤ 3 := by
  unfold hld
  (repeat' split) <;> omega
theorem clip_in {μ : MM} {c : Nat} {n f d : Int} (h0 : 0 ≤ d) (h1 : d < n) : clip μ c n f d = μ c (n * f + d) := by
  unfold clip
  rw [if_pos ⟨h0, h1⟩]
theorem clip_bd {μ : MM} {c : Nat} {n f B : Int} (hB : 0 ≤ B) (h : ∀ d : Int, 0 ≤ d → d < n → 0 ≤ μ c (n * f + d) ∧ μ c (n * f + d) ≤ B) (d : Int) : 0 ≤ clip μ c n f d ∧ clip μ c n f d ≤ B := by
  unfold clip
  split
  · rename_i q; exact h d q.1 q.2
  · omega
theorem sm4 {g : Int → Int} : sm g 4 = g 0 + g 1 + g 2 + g 3 := by
  show 0 + g 0 + g 1 + g 2 + g 3 = _
  omega
theorem ob_bd {dt pv : Int → Int} (hd : ∀ d, 0 ≤ dt d ∧ dt d ≤ 15) (hp : ∀ d, 0 ≤ pv d ∧ pv d ≤ 15) (b k w : Int) : 0 ≤ ob dt pv b k w ∧ ob dt pv b k w ≤ 15 := by
  unfold ob
  have g0 := hd (dAt b 0)
  have g1 := hd (dAt b 1)
  have g2 := hd (dAt b 2)
  have g3 := hd (dAt b 3)
  split
  · exact hd _
  · split
    · omega
    · exact hp _
theorem sqd_bd {dt pv : Int → Int} (hd : ∀ d, 0 ≤ dt d ∧ dt d ≤ 15) (hp : ∀ d, 0 ≤ pv d ∧ pv d ≤ 15) (b k w : Int) : 0 ≤ sqd dt pv b k w ∧ sqd dt pv b k w ≤ 225 := by
  have h1 := ob_bd hd hp b k w
  have h2 := hd (dAt b k)
  unfold sqd
  generalize hx : ob dt pv b k w - dt (dAt b k) = x
  have hx1 : -15 ≤ x := by omega
  have hx2 : x ≤ 15 := by omega
  refine ⟨?_, ?_⟩
  · rcases (show 0 ≤ x ∨ 0 ≤ -x by omega) with q | q
    · exact Int.mul_nonneg q q
    · have := Int.mul_nonneg q q
      rw [Int.neg_mul_neg] at this
      exact this
  · rcases (show 0 ≤ x ∨ 0 ≤ -x by omega) with q | q
    · have := Int.mul_le_mul hx2 hx2 q (by decide)
      omega
    · have := Int.mul_le_mul (show -x ≤ 15 by omega) (show -x ≤ 15 by omega) q (by decide)
      rw [Int.neg_mul_neg] at this
      omega
theorem lss_bd {dt pv : Int → Int} (hd : ∀ d, 0 ≤ dt d ∧ dt d ≤ 15) (hp : ∀ d, 0 ≤ pv d ∧ pv d ≤ 15) (b w : Int) : 0 ≤ lss dt pv b w ∧ lss dt pv b w ≤ 900 := by
  unfold lss
  have g0 := sqd_bd hd hp b 0 w
  have g1 := sqd_bd hd hp b 1 w
  have g2 := sqd_bd hd hp b 2 w
  have g3 := sqd_bd hd hp b 3 w
  omega
theorem c_rim {κ : KX} {μ : MM} {ν : ML} {v : Int} (hv : R32 v) : AE κ 0 mX1_withinRim [aI v] μ ν (some (aI (hld v))) μ ν := by
  refine AMet.of kX1_withinRim.1 (Nat.le_of_ble_eq_true rfl) rfl ?_
  refine aw_blk oX1_withinRim_0 (pc' := 1) (ls' := [_]) (st' := [_]) (cs := []) rfl trivial ?_
  refine aw_if_ge (tgt := 8) eX1_withinRim_1 (by decide) (by omega) (fun h1 => ?_) (fun h1 => ?_)
  · first
    | (exfalso; omega; done)
    | (refine aw_blk oX1_withinRim_8 (pc' := 10) (ls' := [_]) (st' := [_, _]) (cs := []) rfl trivial ?_
       refine aw_icmp_le (tgt := 17) eX1_withinRim_10 (by decide) (by omega) (by omega) (fun h2 => ?_) (fun h2 => ?_)
       · first
         | (exfalso; omega; done)
         | (refine aw_blk oX1_withinRim_17 (pc' := 18) (ls' := [_]) (st' := [_]) (cs := []) rfl trivial ?_
            refine aw_iret eX1_withinRim_18 rfl (Nat.le_refl _) (Nat.le_refl _) ?_
            exact pe_i (by unfold hld; (repeat' split) <;> omega) rfl rfl)
       · first
         | (exfalso; omega; done)
         | (refine aw_blk oX1_withinRim_13 (pc' := 18) (ls' := [_]) (st' := [_]) (cs := []) rfl trivial ?_
            refine aw_iret eX1_withinRim_18 rfl (Nat.le_refl _) (Nat.le_refl _) ?_
            exact pe_i (by unfold hld; (repeat' split) <;> omega) rfl rfl))
  · first
    | (exfalso; omega; done)
    | (refine aw_blk oX1_withinRim_4 (pc' := 18) (ls' := [_]) (st' := [_]) (cs := []) rfl trivial ?_
       refine aw_iret eX1_withinRim_18 rfl (Nat.le_refl _) (Nat.le_refl _) ?_
       exact pe_i (by unfold hld; (repeat' split) <;> omega) rfl rfl)
theorem c_held {κ : KX} {μ : MM} {ν : ML} {v : Int} (hv : R32 v) : AE κ 0 mX12_held [aI v] μ ν (some (aI (hld v))) μ ν := by
  refine AMet.of kX12_held.1 (Nat.le_of_ble_eq_true rfl) rfl ?_
  refine aw_blk oX12_held_0 (pc' := 1) (ls' := [_]) (st' := [_]) (cs := []) rfl trivial ?_
  refine aw_if_ge (tgt := 8) eX12_held_1 (by decide) (by omega) (fun h3 => ?_) (fun h3 => ?_)
  · first
    | (exfalso; omega; done)
    | (refine aw_blk oX12_held_8 (pc' := 10) (ls' := [_]) (st' := [_, _]) (cs := []) rfl trivial ?_
       refine aw_icmp_le (tgt := 17) eX12_held_10 (by decide) (by omega) (by omega) (fun h4 => ?_) (fun h4 => ?_)
       · first
         | (exfalso; omega; done)
         | (refine aw_blk oX12_held_17 (pc' := 18) (ls' := [_]) (st' := [_]) (cs := []) rfl trivial ?_
            refine aw_iret eX12_held_18 rfl (Nat.le_refl _) (Nat.le_refl _) ?_
            exact pe_i (by unfold hld; (repeat' split) <;> omega) rfl rfl)
       · first
         | (exfalso; omega; done)
         | (refine aw_blk oX12_held_13 (pc' := 18) (ls' := [_]) (st' := [_]) (cs := []) rfl trivial ?_
            refine aw_iret eX12_held_18 rfl (Nat.le_refl _) (Nat.le_refl _) ?_
            exact pe_i (by unfold hld; (repeat' split) <;> omega) rfl rfl))
  · first
    | (exfalso; omega; done)
    | (refine aw_blk oX12_held_4 (pc' := 18) (ls' := [_]) (st' := [_]) (cs := []) rfl trivial ?_
       refine aw_iret eX12_held_18 rfl (Nat.le_refl _) (Nat.le_refl _) ?_
       exact pe_i (by unfold hld; (repeat' split) <;> omega) rfl rfl)
theorem c_X12_costOfW {κ : KX} {μ : MM} {ν : ML} {w : Int} (hw : R32 w) : AE κ 0 mX12_costOf [aI w] μ ν (some (aI (cbt w))) μ ν := by
  refine AMet.of kX12_costOf.1 (Nat.le_of_ble_eq_true rfl) rfl ?_
  refine aw_blk oX12_costOf_0 (pc' := 2) (ls' := [_]) (st' := [_, _]) (cs := []) rfl trivial ?_
  refine aw_icmp_ne (tgt := 9) eX12_costOf_2 (by decide) (by omega) (by omega) (fun h5 => ?_) (fun h5 => ?_)
  · first
    | (exfalso; omega; done)
    | (refine aw_blk oX12_costOf_9 (pc' := 12) (ls' := [_]) (st' := [_, _]) (cs := []) rfl trivial ?_
       refine aw_icmp_ge (tgt := 20) eX12_costOf_12 (by decide) (by omega) (by omega) (fun h6 => ?_) (fun h6 => ?_)
       · first
         | (exfalso; omega; done)
         | (refine aw_blk oX12_costOf_20 (pc' := 23) (ls' := [_]) (st' := [_, _]) (cs := []) rfl trivial ?_
            refine aw_icmp_ne (tgt := 30) eX12_costOf_23 (by decide) (by omega) (by omega) (fun h7 => ?_) (fun h7 => ?_)
            · first
              | (exfalso; omega; done)
              | (refine aw_blk oX12_costOf_30 (pc' := 32) (ls' := [_]) (st' := [_]) (cs := []) rfl trivial ?_
                 refine aw_iret eX12_costOf_32 rfl (Nat.le_refl _) (Nat.le_refl _) ?_
                 exact pe_i (by unfold cbt; (repeat' split) <;> omega) rfl rfl)
            · first
              | (exfalso; omega; done)
              | (refine aw_blk oX12_costOf_26 (pc' := 32) (ls' := [_]) (st' := [_]) (cs := []) rfl trivial ?_
                 refine aw_iret eX12_costOf_32 rfl (Nat.le_refl _) (Nat.le_refl _) ?_
                 exact pe_i (by unfold cbt; (repeat' split) <;> omega) rfl rfl))
       · first
         | (exfalso; omega; done)
         | (refine aw_blk oX12_costOf_15 (pc' := 32) (ls' := [_]) (st' := [_]) (cs := []) rfl trivial ?_
            refine aw_iret eX12_costOf_32 rfl (Nat.le_refl _) (Nat.le_refl _) ?_
            exact pe_i (by unfold cbt; (repeat' split) <;> omega) rfl rfl))
  · first
    | (exfalso; omega; done)
    | (refine aw_blk oX12_costOf_5 (pc' := 32) (ls' := [_]) (st' := [_]) (cs := []) rfl trivial ?_
       refine aw_iret eX12_costOf_32 rfl (Nat.le_refl _) (Nat.le_refl _) ?_
       exact pe_i (by unfold cbt; (repeat' split) <;> omega) rfl rfl)
theorem c_dotAt {κ : KX} {μ : MM} {ν : ML} {b k : Int} (hb : 0 ≤ b ∧ b < 4) (hk : 0 ≤ k ∧ k < 4) : AE κ 0 mX12_dotAt [aI b, aI k] μ ν (some (aI (dAt b k))) μ ν := by
  refine AMet.of kX12_dotAt.1 (Nat.le_of_ble_eq_true rfl) rfl ?_
  refine aw_blk oX12_dotAt_0 (pc' := 22) (ls' := [_, _]) (st' := [_]) (cs := [(_, _), (_, _), (_, _), (_, _)]) rfl (⟨⟨by omega, by omega⟩, ⟨by omega, by omega⟩, ⟨by omega, by omega⟩, ⟨by omega, by omega⟩, trivial⟩) ?_
  refine aw_iret eX12_dotAt_22 rfl (Nat.le_refl _) (Nat.le_refl _) ?_
  refine pe_i ?_ rfl rfl
  rw [bDiv_nn (by omega) (by omega), bDiv_nn (by omega) (by omega), bRem_nn (by omega) (by omega), bRem_nn (by omega) (by omega)]
  rfl
theorem l_mean {κ : KX} {μ : MM} {ν : ML} {f b F : Int} (h3 : ∀ i : Int, 0 ≤ i → i < 160 → 0 ≤ μ 3 i ∧ μ 3 i ≤ 15) (hF : 0 ≤ F ∧ F + 5 < 160) (n : Nat) : ∀ j : Nat, j + n = 4 → AX κ mX1_mean 0 (PE (some (aI (sm (fun j => μ 3 (F + stv 4 j)) 4 / 4))) μ ν) 17 [aR 2, aI f, aI b, aI F, aI (sm (fun j => μ 3 (F + stv 4 j)) j), aI j] [] μ ν := by
  have hl := svl
  induction n with
  | zero =>
    intro j hj
    have e : j = 4 := by omega
    subst e
    have hb := sm_bd (g := fun j => μ 3 (F + stv 4 j)) (B := 15) 4 (fun k hk => h3 _ (by have := svk k (by omega); omega) (by have := svk k (by omega); omega))
    refine aw_blk oX1_mean_17 (pc' := 20) (ls' := [_, _, _, _, _, _]) (st' := [_, _]) (cs := []) rfl trivial ?_
    refine aw_icmp_ge (tgt := 47) eX1_mean_20 (by decide) (by omega) (by omega) (fun h1 => ?_) (fun h1 => ?_)
    · refine aw_blk oX1_mean_47 (pc' := 51) (ls' := [_, _, _, _, _, _]) (st' := [_]) (cs := [(_, _)]) rfl (⟨⟨by omega, by omega⟩, trivial⟩) ?_
      refine aw_iret eX1_mean_51 rfl (Nat.le_refl _) (Nat.le_refl _) ?_
      exact pe_i (bDiv_nn (by omega) (by omega)) rfl rfl
    · exfalso; omega
  | succ n ih =>
    intro j hj
    have hk := svk j (by omega)
    refine aw_blk oX1_mean_17 (pc' := 20) (ls' := [_, _, _, _, _, _]) (st' := [_, _]) (cs := []) rfl trivial ?_
    refine aw_icmp_ge (tgt := 47) eX1_mean_20 (by decide) (by omega) (by omega) (fun h1 => ?_) (fun h1 => ?_)
    · exfalso; omega
    · refine aw_blk oX1_mean_23 (pc' := 17) (ls' := [_, _, _, _, _, _]) (st' := []) (cs := [(_, _), (_, _)]) rfl (⟨⟨by omega, by omega⟩, ⟨by omega, by omega⟩, trivial⟩) ?_
      exact ih (j + 1) (by omega)
theorem c_mean {κ : KX} {μ : MM} {ν : ML} {f b : Int} (h3 : ∀ i : Int, 0 ≤ i → i < 160 → 0 ≤ μ 3 i ∧ μ 3 i ≤ 15) (hf : 0 ≤ f ∧ f < 10) (hb : 0 ≤ b ∧ b < 4) : AE κ 0 mX1_mean [aR 2, aI f, aI b] μ ν (some (aI ((clip μ 3 16 f (dAt b 0) + clip μ 3 16 f (dAt b 1) + clip μ 3 16 f (dAt b 2) + clip μ 3 16 f (dAt b 3)) / 4))) μ ν := by
  have hl := svl
  have hs := svb b hb
  have hd := fun k q => sv b k hb q
  have e : sm (fun j => μ 3 (f * 16 + stv 3 b + stv 4 j)) 4 = clip μ 3 16 f (dAt b 0) + clip μ 3 16 f (dAt b 1) + clip μ 3 16 f (dAt b 2) + clip μ 3 16 f (dAt b 3) := by
    have g : ∀ k : Int, 0 ≤ k ∧ k < 4 → μ 3 (f * 16 + stv 3 b + stv 4 k) = clip μ 3 16 f (dAt b k) := fun k q => by
      have := hd k q
      rw [clip_in this.2.1 this.2.2, show f * 16 + stv 3 b + stv 4 k = 16 * f + dAt b k by omega]
    rw [sm4, g 0 (by omega), g 1 (by omega), g 2 (by omega), g 3 (by omega)]
  have T := l_mean (κ := κ) (μ := μ) (ν := ν) (f := f) (b := b) (F := f * 16 + stv 3 b) h3 (by omega) 4 0 (by omega)
  rw [e] at T
  refine AMet.of kX1_mean.1 (Nat.le_of_ble_eq_true rfl) rfl ?_
  refine aw_blk oX1_mean_0 (pc' := 17) (ls' := [_, _, _, _, _, _]) (st' := []) (cs := [(_, _)]) rfl (⟨⟨by omega, by omega⟩, trivial⟩) ?_
  exact T
theorem c_dotBy {κ : KX} {μ : MM} {ν : ML} {f b k w x : Int} (h3 : ∀ i : Int, 0 ≤ i → i < 160 → 0 ≤ μ 3 i ∧ μ 3 i ≤ 15) (hf : 0 ≤ f ∧ f < 10) (hb : 0 ≤ b ∧ b < 4) (hk : 0 ≤ k ∧ k < 4) (hw : 0 ≤ w ∧ w < 11) (hfw : f = 0 → 9 ≤ w) (hx : x = dAt b k) : AE κ 1 mX1_dotBy [aR 2, aI f, aI b, aI x, aI w] μ ν (some (aI (ob (clip μ 3 16 f) (clip μ 4 16 (f - 1)) b k w))) μ ν := by
  have hd := sv b k hb hk
  rw [← hx] at hd
  by_cases w9 : w = 9
  · subst w9
    have hm := c_mean (κ := κ) (μ := μ) (ν := ν) h3 hf hb
    have e : ob (clip μ 3 16 f) (clip μ 4 16 (f - 1)) b k 9 = (clip μ 3 16 f (dAt b 0) + clip μ 3 16 f (dAt b 1) + clip μ 3 16 f (dAt b 2) + clip μ 3 16 f (dAt b 3)) / 4 := rfl
    rw [e]
    refine AMet.of kX1_dotBy.1 (Nat.le_of_ble_eq_true rfl) rfl ?_
    refine aw_blk oX1_dotBy_0 (pc' := 4) (ls' := [_, _, _, _, _, _, _]) (st' := [_, _]) (cs := []) rfl trivial ?_
    refine aw_icmp_ne (tgt := 14) eX1_dotBy_4 (by decide) (by omega) (by omega) (fun h1 => ?_) (fun h1 => ?_)
    · exfalso; omega
    · refine aw_blk oX1_dotBy_7 (pc' := 10) (ls' := [_, _, _, _, _, _, _]) (st' := [_, _, _]) (cs := []) rfl trivial ?_
      refine aw_ciS (rest := []) hm kX1_mean eX1_dotBy_10 lX1_dotBy_10 rfl rfl (Nat.le_of_ble_eq_true rfl) ⟨Nat.le_of_ble_eq_true rfl, Nat.le_of_ble_eq_true rfl⟩ ⟨Nat.le_refl _, Nat.le_refl _⟩ ?_
      refine aw_iret eX1_dotBy_13 rfl (Nat.le_refl _) (Nat.le_refl _) ?_
      exact pe_i rfl rfl rfl
  · by_cases w10 : w = 10
    · subst w10
      have e : ob (clip μ 3 16 f) (clip μ 4 16 (f - 1)) b k 10 = μ 3 (f * 16 + x) := by
        show clip μ 3 16 f (dAt b k) = _
        rw [← hx, clip_in hd.2.1 hd.2.2, show 16 * f + x = f * 16 + x by omega]
      rw [e]
      refine AMet.of kX1_dotBy.1 (Nat.le_of_ble_eq_true rfl) rfl ?_
      refine aw_blk oX1_dotBy_0 (pc' := 4) (ls' := [_, _, _, _, _, _, _]) (st' := [_, _]) (cs := []) rfl trivial ?_
      refine aw_icmp_ne (tgt := 14) eX1_dotBy_4 (by decide) (by omega) (by omega) (fun h1 => ?_) (fun h1 => ?_)
      · refine aw_blk oX1_dotBy_14 (pc' := 18) (ls' := [_, _, _, _, _, _, _]) (st' := [_, _]) (cs := []) rfl trivial ?_
        refine aw_icmp_eq (tgt := 25) eX1_dotBy_18 (by decide) (by omega) (by omega) (fun h2 => ?_) (fun h2 => ?_)
        · refine aw_blk oX1_dotBy_25 (pc' := 36) (ls' := [_, _, _, _, _, _, _]) (st' := [_]) (cs := [(_, _)]) rfl (⟨⟨by omega, by omega⟩, trivial⟩) ?_
          refine aw_iret eX1_dotBy_36 rfl (Nat.le_refl _) (Nat.le_refl _) ?_
          exact pe_i rfl rfl rfl
        · exfalso; omega
      · exfalso; omega
    · have g1 := hld_bd (x / 4 + w / 3 - 1)
      have g2 := hld_bd (x % 4 + w % 3 - 1)
      have e : ob (clip μ 3 16 f) (clip μ 4 16 (f - 1)) b k w = μ 4 ((f - 1) * 16 + hld (x / 4 + w / 3 - 1) * 4 + hld (x % 4 + w % 3 - 1)) := by
        unfold ob
        rw [if_neg w10, if_neg w9, ← hx, clip_in (by omega) (by omega)]
        congr 1
        omega
      rw [e]
      refine AMet.of kX1_dotBy.1 (Nat.le_of_ble_eq_true rfl) rfl ?_
      refine aw_blk oX1_dotBy_0 (pc' := 4) (ls' := [_, _, _, _, _, _, _]) (st' := [_, _]) (cs := []) rfl trivial ?_
      refine aw_icmp_ne (tgt := 14) eX1_dotBy_4 (by decide) (by omega) (by omega) (fun h1 => ?_) (fun h1 => ?_)
      · refine aw_blk oX1_dotBy_14 (pc' := 18) (ls' := [_, _, _, _, _, _, _]) (st' := [_, _]) (cs := []) rfl trivial ?_
        refine aw_icmp_eq (tgt := 25) eX1_dotBy_18 (by decide) (by omega) (by omega) (fun h2 => ?_) (fun h2 => ?_)
        · exfalso; omega
        · refine aw_blk oX1_dotBy_21 (pc' := 22) (ls' := [_, _, _, _, _, _, _]) (st' := [_]) (cs := []) rfl trivial ?_
          refine aw_if_ne (tgt := 37) eX1_dotBy_22 (by decide) (by omega) (fun h3 => ?_) (fun h3 => ?_)
          · refine aw_blk oX1_dotBy_37 (pc' := 47) (ls' := [_, _, _, _, _, _, _]) (st' := [_]) (cs := [(_, _), (_, _)]) rfl (⟨⟨by omega, by omega⟩, ⟨by omega, by omega⟩, trivial⟩) ?_
            rw [bDiv_nn (by omega) (by omega), bDiv_nn (by omega) (by omega)]
            refine aw_ciS (rest := []) (c_rim (by omega)) kX1_withinRim eX1_dotBy_47 lX1_dotBy_47 rfl rfl (Nat.le_of_ble_eq_true rfl) ⟨Nat.le_of_ble_eq_true rfl, Nat.le_of_ble_eq_true rfl⟩ ⟨Nat.le_refl _, Nat.le_refl _⟩ ?_
            refine aw_blk oX1_dotBy_50 (pc' := 62) (ls' := [_, _, _, _, _, _, _]) (st' := [_]) (cs := [(_, _), (_, _)]) rfl (⟨⟨by omega, by omega⟩, ⟨by omega, by omega⟩, trivial⟩) ?_
            rw [bRem_nn (by omega) (by omega), bRem_nn (by omega) (by omega)]
            refine aw_ciS (rest := []) (c_rim (by omega)) kX1_withinRim eX1_dotBy_62 lX1_dotBy_62 rfl rfl (Nat.le_of_ble_eq_true rfl) ⟨Nat.le_of_ble_eq_true rfl, Nat.le_of_ble_eq_true rfl⟩ ⟨Nat.le_refl _, Nat.le_refl _⟩ ?_
            refine aw_blk oX1_dotBy_65 (pc' := 86) (ls' := [_, _, _, _, _, _, _]) (st' := [_]) (cs := [(_, _)]) rfl (⟨⟨by omega, by omega⟩, trivial⟩) ?_
            refine aw_iret eX1_dotBy_86 rfl (Nat.le_refl _) (Nat.le_refl _) ?_
            exact pe_i rfl rfl rfl
          · exfalso; omega
      · exfalso; omega
theorem l_lossBy {κ : KX} {μ : MM} {ν : ML} {f b w : Int} (h3 : ∀ i : Int, 0 ≤ i → i < 160 → 0 ≤ μ 3 i ∧ μ 3 i ≤ 15) (hf : 0 ≤ f ∧ f < 10) (hb : 0 ≤ b ∧ b < 4) (hw : 0 ≤ w ∧ w < 11) (hfw : f = 0 → 9 ≤ w) (n : Nat) : ∀ (j : Nat) (u6 u7 : AV), j + n = 4 → AX κ mX1_lossBy 2 (PE (some (aI (lss (clip μ 3 16 f) (clip μ 4 16 (f - 1)) b w))) μ ν) 6 [aR 2, aI f, aI b, aI w, aI (sm (fun k => sqd (clip μ 3 16 f) (clip μ 4 16 (f - 1)) b k w) j), aI j, u6, u7] [] μ ν := by
  have hl := svl
  induction n with
  | zero =>
    intro j u6 u7 hj
    have e : j = 4 := by omega
    subst e
    refine aw_blk oX1_lossBy_6 (pc' := 9) (ls' := [_, _, _, _, _, _, _, _]) (st' := [_, _]) (cs := []) rfl trivial ?_
    refine aw_icmp_ge (tgt := 66) eX1_lossBy_9 (by decide) (by omega) (by omega) (fun h1 => ?_) (fun h1 => ?_)
    · refine aw_blk oX1_lossBy_66 (pc' := 68) (ls' := [_, _, _, _, _, _, _, _]) (st' := [_]) (cs := []) rfl trivial ?_
      refine aw_iret eX1_lossBy_68 rfl (Nat.le_refl _) (Nat.le_refl _) ?_
      exact pe_i sm4 rfl rfl
    · exfalso; omega
  | succ n ih =>
    intro j u6 u7 hj
    have hd := sv b j hb (by omega)
    have T := fun u6 u7 => ih (j + 1) u6 u7 (by omega)
    simp only [sm_succ (n := j)] at T
    have ed : clip μ 3 16 f (dAt b j) = μ 3 (f * 16 + dAt b j) := by rw [clip_in hd.2.1 hd.2.2, show 16 * f + dAt b j = f * 16 + dAt b j by omega]
    refine aw_blk oX1_lossBy_6 (pc' := 9) (ls' := [_, _, _, _, _, _, _, _]) (st' := [_, _]) (cs := []) rfl trivial ?_
    refine aw_icmp_ge (tgt := 66) eX1_lossBy_9 (by decide) (by omega) (by omega) (fun h1 => ?_) (fun h1 => ?_)
    · exfalso; omega
    · refine aw_blk oX1_lossBy_12 (pc' := 32) (ls' := [_, _, _, _, _, _, _, _]) (st' := [_, _, _, _, _]) (cs := [(_, _), (_, _)]) rfl (⟨⟨by omega, by omega⟩, ⟨by omega, by omega⟩, trivial⟩) ?_
      rw [hd.1]
      refine aw_ciS (rest := []) (c_dotBy (k := j) h3 hf hb (by omega) hw hfw rfl) kX1_dotBy eX1_lossBy_32 lX1_lossBy_32 rfl rfl (Nat.le_of_ble_eq_true rfl) ⟨Nat.le_of_ble_eq_true rfl, Nat.le_of_ble_eq_true rfl⟩ ⟨Nat.le_refl _, Nat.le_refl _⟩ ?_
      refine aw_blk oX1_lossBy_35 (pc' := 6) (ls' := [_, _, _, _, _, _, _, _]) (st' := []) (cs := [(_, _)]) rfl (⟨⟨by omega, by omega⟩, trivial⟩) ?_
      rw [← ed]
      exact T _ _
theorem c_lossBy {κ : KX} {μ : MM} {ν : ML} {f b w : Int} (h3 : ∀ i : Int, 0 ≤ i → i < 160 → 0 ≤ μ 3 i ∧ μ 3 i ≤ 15) (hf : 0 ≤ f ∧ f < 10) (hb : 0 ≤ b ∧ b < 4) (hw : 0 ≤ w ∧ w < 11) (hfw : f = 0 → 9 ≤ w) : AE κ 2 mX1_lossBy [aR 2, aI f, aI b, aI w] μ ν (some (aI (lss (clip μ 3 16 f) (clip μ 4 16 (f - 1)) b w))) μ ν := by
  refine AMet.of kX1_lossBy.1 (Nat.le_of_ble_eq_true rfl) rfl ?_
  refine aw_blk oX1_lossBy_0 (pc' := 6) (ls' := [_, _, _, _, _, _, _, _]) (st' := []) (cs := []) rfl trivial ?_
  exact l_lossBy h3 hf hb hw hfw 4 0 _ _ (by omega)

/-! ===== bits, GROUPS, MARKS ===== -/
theorem i32R (x : Int32) : R32 x.toInt := ⟨by have := Int32.le_toInt x; omega, by have := Int32.toInt_lt x; omega⟩
theorem bAnd_R {a b : Int} : R32 (bAnd a b) := i32R _
theorem bOr_R {a b : Int} : R32 (bOr a b) := i32R _
theorem bXor_R {a b : Int} : R32 (bXor a b) := i32R _
theorem bShl_R {a b : Int} : R32 (bShl a b) := i32R _
theorem bShr_R {a b : Int} : R32 (bShr a b) := i32R _
theorem bOr_zero {a : Int} (h : R32 a) : bOr a 0 = a := by
  unfold bOr
  rw [show Int32.ofInt 0 = 0 from rfl, Int32.or_zero, ti32 h]
theorem bAnd3 (x y k : Int) : bAnd (bAnd x k) (bAnd y k) = bAnd (bAnd x y) k := by
  unfold bAnd
  simp only [Int32.ofInt_toInt]
  congr 1
  rw [Int32.and_assoc, Int32.and_assoc]
  congr 1
  rw [Int32.and_comm (Int32.ofInt y) (Int32.ofInt k), ← Int32.and_assoc, Int32.and_self, Int32.and_comm]
def bcA (x : Int) : Int := x - bAnd (bUshr x 1) 1431655765
def bcB (x : Int) : Int := bAnd x 858993459 + bAnd (bUshr x 2) 858993459
def bcC (x : Int) : Int := bAnd (x + bUshr x 4) 252645135
def bcD (x : Int) : Int := x + bUshr x 8
def bcE (x : Int) : Int := x + bUshr x 16
def bitC (x : Int) : Int := bAnd (bcE (bcD (bcC (bcB (bcA x))))) 63
theorem c_bitCount {κ : KX} {μ : MM} {ν : ML} {x : Int} : AE κ 0 mJ6_bitCount [aI x] μ ν (some (aI (bitC x))) μ ν := by
  refine AMet.of kJ6_bitCount.1 (Nat.le_of_ble_eq_true rfl) rfl ?_
  refine aw_blk oJ6_bitCount_0 (pc' := 52) (ls' := [_]) (st' := [_]) (cs := []) rfl trivial ?_
  refine aw_iret eJ6_bitCount_52 rfl (Nat.le_refl _) (Nat.le_refl _) ?_
  exact pe_i rfl rfl rfl
theorem bitC_R {x : Int} : R32 (bitC x) := bAnd_R
/-! groups -/
def RG (μ : MM) : Prop := PR 50 72 24 0 65535 μ
abbrev csG : List Nat := [50, 72]
def rst (l : Int) : Int := if bitC (bAnd l 63) ≤ 2 - bitC (bAnd (bShr l 6) 3) then 1 else 0
theorem rst_R {l : Int} : R32 (rst l) := by unfold rst; split <;> decide
theorem rst_all : ∀ l : Nat, l < 256 → (bitC (bAnd l 63) ≤ 2 - bitC (bAnd (bShr l 6) 3) ↔ sm (fun k => bitk l k) 6 ≤ 2 - bitk l 6 - bitk l 7) ∧ R32 (2 - bitC (bAnd (bShr l 6) 3)) := by decide +kernel
theorem c_X4_change {κ : KX} {μ : MM} {ν : ML} {t f v : Int} (ht : 0 ≤ t ∧ t < 4) (hf : 0 ≤ f ∧ f < 6) : AE κ 0 mX4_change [aR 49, aI t, aI f, aI v] μ ν (some (aI (μ 50 (t * 6 + f)))) (up μ 50 (t * 6 + f) v) ν := by
  refine AMet.of kX4_change.1 (Nat.le_of_ble_eq_true rfl) rfl ?_
  refine aw_blk oX4_change_0 (pc' := 27) (ls' := [_, _, _, _, _]) (st' := [_]) (cs := [(_, _), (_, _)]) rfl (⟨⟨by omega, by omega⟩, ⟨by omega, by omega⟩, trivial⟩) ?_
  refine aw_iret eX4_change_27 rfl (Nat.le_refl _) (Nat.le_refl _) ?_
  exact pe_i rfl rfl rfl
theorem c_numberAt {κ : KX} {μ : MM} {ν : ML} {t f : Int} (ht : 0 ≤ t ∧ t < 4) (hf : 0 ≤ f ∧ f < 6) : AE κ 0 mX4_numberAt [aR 49, aI t, aI f] μ ν (some (aI (μ 50 (t * 6 + f)))) μ ν := by
  refine AMet.of kX4_numberAt.1 (Nat.le_of_ble_eq_true rfl) rfl ?_
  refine aw_blk oX4_numberAt_0 (pc' := 11) (ls' := [_, _, _]) (st' := [_]) (cs := [(_, _)]) rfl (⟨⟨by omega, by omega⟩, trivial⟩) ?_
  refine aw_iret eX4_numberAt_11 rfl (Nat.le_refl _) (Nat.le_refl _) ?_
  exact pe_i rfl rfl rfl
theorem l_plainSum {κ : KX} {μ : MM} {ν : ML} {t : Int} (ht : 0 ≤ t ∧ t < 4) (n : Nat) : ∀ k : Nat, k + n = 6 → AX κ mX4_plainSum 1 (PE (some (aI (sm (fun k => μ 50 (t * 6 + k)) 6))) μ ν) 4 [aR 49, aI t, aI (sm (fun k => μ 50 (t * 6 + k)) k), aI k] [] μ ν := by
  induction n with
  | zero =>
    intro k hk
    refine aw_blk oX4_plainSum_4 (pc' := 7) (ls' := [_, _, _, _]) (st' := [_, _]) (cs := []) rfl trivial ?_
    refine aw_icmp_ge (tgt := 25) eX4_plainSum_7 (by decide) (by omega) (by omega) (fun h1 => ?_) (fun h1 => ?_)
    · first
      | (exfalso; omega; done)
      | (refine aw_blk oX4_plainSum_25 (pc' := 26) (ls' := [_, _, _, _]) (st' := [_]) (cs := []) rfl trivial ?_
         refine aw_iret eX4_plainSum_26 rfl (Nat.le_refl _) (Nat.le_refl _) ?_
         (have e : k = 6 := by omega)
         subst e
         exact pe_i rfl rfl rfl)
    · first
      | (exfalso; omega; done)
      | (refine aw_blk oX4_plainSum_10 (pc' := 14) (ls' := [_, _, _, _]) (st' := [_, _, _, _]) (cs := []) rfl trivial ?_
         refine aw_ciV (rest := [_]) (c_numberAt (by omega) (by omega)) kX4_numberAt eX4_plainSum_14 lX4_plainSum_14 rfl rfl rfl rfl (Nat.le_of_ble_eq_true rfl) ⟨Nat.le_of_ble_eq_true rfl, Nat.le_of_ble_eq_true rfl⟩ ⟨Nat.le_refl _, Nat.le_refl _⟩ ?_
         refine aw_blk oX4_plainSum_17 (pc' := 4) (ls' := [_, _, _, _]) (st' := []) (cs := []) rfl trivial ?_
         skip)
  | succ n ih =>
    intro k hk
    refine aw_blk oX4_plainSum_4 (pc' := 7) (ls' := [_, _, _, _]) (st' := [_, _]) (cs := []) rfl trivial ?_
    refine aw_icmp_ge (tgt := 25) eX4_plainSum_7 (by decide) (by omega) (by omega) (fun h2 => ?_) (fun h2 => ?_)
    · first
      | (exfalso; omega; done)
      | (refine aw_blk oX4_plainSum_25 (pc' := 26) (ls' := [_, _, _, _]) (st' := [_]) (cs := []) rfl trivial ?_
         refine aw_iret eX4_plainSum_26 rfl (Nat.le_refl _) (Nat.le_refl _) ?_
         skip)
    · first
      | (exfalso; omega; done)
      | (refine aw_blk oX4_plainSum_10 (pc' := 14) (ls' := [_, _, _, _]) (st' := [_, _, _, _]) (cs := []) rfl trivial ?_
         refine aw_ciV (rest := [_]) (c_numberAt (by omega) (by omega)) kX4_numberAt eX4_plainSum_14 lX4_plainSum_14 rfl rfl rfl rfl (Nat.le_of_ble_eq_true rfl) ⟨Nat.le_of_ble_eq_true rfl, Nat.le_of_ble_eq_true rfl⟩ ⟨Nat.le_refl _, Nat.le_refl _⟩ ?_
         refine aw_blk oX4_plainSum_17 (pc' := 4) (ls' := [_, _, _, _]) (st' := []) (cs := []) rfl trivial ?_
         exact ih (k + 1) (by omega))
theorem c_plainSum {κ : KX} {μ : MM} {ν : ML} {t : Int} (ht : 0 ≤ t ∧ t < 4) : AE κ 1 mX4_plainSum [aR 49, aI t] μ ν (some (aI (sm (fun k => μ 50 (t * 6 + k)) 6))) μ ν := by
  refine AMet.of kX4_plainSum.1 (Nat.le_of_ble_eq_true rfl) rfl ?_
  refine aw_blk oX4_plainSum_0 (pc' := 4) (ls' := [_, _, _, _]) (st' := []) (cs := []) rfl trivial ?_
  exact l_plainSum ht 6 0 rfl
theorem l_placeSum {κ : KX} {μ : MM} {ν : ML} {t : Int} (ht : 0 ≤ t ∧ t < 4) (n : Nat) : ∀ k : Nat, k + n = 6 → AX κ mX4_placeSum 1 (PE (some (aI (sm (fun k => μ 50 (t * 6 + k) * (k + 1)) 6))) μ ν) 4 [aR 49, aI t, aI (sm (fun k => μ 50 (t * 6 + k) * (k + 1)) k), aI k] [] μ ν := by
  induction n with
  | zero =>
    intro k hk
    refine aw_blk oX4_placeSum_4 (pc' := 7) (ls' := [_, _, _, _]) (st' := [_, _]) (cs := []) rfl trivial ?_
    refine aw_icmp_ge (tgt := 29) eX4_placeSum_7 (by decide) (by omega) (by omega) (fun h3 => ?_) (fun h3 => ?_)
    · first
      | (exfalso; omega; done)
      | (refine aw_blk oX4_placeSum_29 (pc' := 30) (ls' := [_, _, _, _]) (st' := [_]) (cs := []) rfl trivial ?_
         refine aw_iret eX4_placeSum_30 rfl (Nat.le_refl _) (Nat.le_refl _) ?_
         (have e : k = 6 := by omega)
         subst e
         exact pe_i rfl rfl rfl)
    · first
      | (exfalso; omega; done)
      | (refine aw_blk oX4_placeSum_10 (pc' := 14) (ls' := [_, _, _, _]) (st' := [_, _, _, _]) (cs := []) rfl trivial ?_
         refine aw_ciV (rest := [_]) (c_numberAt (by omega) (by omega)) kX4_numberAt eX4_placeSum_14 lX4_placeSum_14 rfl rfl rfl rfl (Nat.le_of_ble_eq_true rfl) ⟨Nat.le_of_ble_eq_true rfl, Nat.le_of_ble_eq_true rfl⟩ ⟨Nat.le_refl _, Nat.le_refl _⟩ ?_
         refine aw_blk oX4_placeSum_17 (pc' := 4) (ls' := [_, _, _, _]) (st' := []) (cs := []) rfl trivial ?_
         skip)
  | succ n ih =>
    intro k hk
    refine aw_blk oX4_placeSum_4 (pc' := 7) (ls' := [_, _, _, _]) (st' := [_, _]) (cs := []) rfl trivial ?_
    refine aw_icmp_ge (tgt := 29) eX4_placeSum_7 (by decide) (by omega) (by omega) (fun h4 => ?_) (fun h4 => ?_)
    · first
      | (exfalso; omega; done)
      | (refine aw_blk oX4_placeSum_29 (pc' := 30) (ls' := [_, _, _, _]) (st' := [_]) (cs := []) rfl trivial ?_
         refine aw_iret eX4_placeSum_30 rfl (Nat.le_refl _) (Nat.le_refl _) ?_
         skip)
    · first
      | (exfalso; omega; done)
      | (refine aw_blk oX4_placeSum_10 (pc' := 14) (ls' := [_, _, _, _]) (st' := [_, _, _, _]) (cs := []) rfl trivial ?_
         refine aw_ciV (rest := [_]) (c_numberAt (by omega) (by omega)) kX4_numberAt eX4_placeSum_14 lX4_placeSum_14 rfl rfl rfl rfl (Nat.le_of_ble_eq_true rfl) ⟨Nat.le_of_ble_eq_true rfl, Nat.le_of_ble_eq_true rfl⟩ ⟨Nat.le_refl _, Nat.le_refl _⟩ ?_
         refine aw_blk oX4_placeSum_17 (pc' := 4) (ls' := [_, _, _, _]) (st' := []) (cs := []) rfl trivial ?_
         exact ih (k + 1) (by omega))
theorem c_placeSum {κ : KX} {μ : MM} {ν : ML} {t : Int} (ht : 0 ≤ t ∧ t < 4) : AE κ 1 mX4_placeSum [aR 49, aI t] μ ν (some (aI (sm (fun k => μ 50 (t * 6 + k) * (k + 1)) 6))) μ ν := by
  refine AMet.of kX4_placeSum.1 (Nat.le_of_ble_eq_true rfl) rfl ?_
  refine aw_blk oX4_placeSum_0 (pc' := 4) (ls' := [_, _, _, _]) (st' := []) (cs := []) rfl trivial ?_
  exact l_placeSum ht 6 0 rfl
theorem c_restorable {κ : KX} {μ : MM} {ν : ML} {l : Int} (h : 0 ≤ l ∧ l < 256) : AE κ 1 mX4_restorable [aI l] μ ν (some (aI (rst l))) μ ν := by
  obtain ⟨j, rfl⟩ : ∃ j : Nat, l = j := ⟨l.toNat, by omega⟩
  have hj := rst_all j (by omega)
  refine AMet.of kX4_restorable.1 (Nat.le_of_ble_eq_true rfl) rfl ?_
  refine aw_blk oX4_restorable_0 (pc' := 4) (ls' := [_, _, _]) (st' := [_]) (cs := []) rfl trivial ?_
  refine aw_ciS (rest := []) (c_bitCount) kJ6_bitCount eX4_restorable_4 lX4_restorable_4 rfl rfl (Nat.le_of_ble_eq_true rfl) ⟨Nat.le_of_ble_eq_true rfl, Nat.le_of_ble_eq_true rfl⟩ ⟨Nat.le_refl _, Nat.le_refl _⟩ ?_
  refine aw_blk oX4_restorable_7 (pc' := 15) (ls' := [_, _, _]) (st' := [_, _]) (cs := []) rfl trivial ?_
  refine aw_ciS (rest := [_]) (c_bitCount) kJ6_bitCount eX4_restorable_15 lX4_restorable_15 rfl rfl (Nat.le_of_ble_eq_true rfl) ⟨Nat.le_of_ble_eq_true rfl, Nat.le_of_ble_eq_true rfl⟩ ⟨Nat.le_refl _, Nat.le_refl _⟩ ?_
  refine aw_blk oX4_restorable_18 (pc' := 22) (ls' := [_, _, _]) (st' := [_, _]) (cs := []) rfl trivial ?_
  refine aw_icmp_gt (tgt := 29) eX4_restorable_22 (by decide) (by first | omega | exact bitC_R | exact hj.2) (by first | omega | exact bitC_R | exact hj.2) (fun h5 => ?_) (fun h5 => ?_)
  · first
    | (exfalso; omega; done)
    | (refine aw_blk oX4_restorable_29 (pc' := 30) (ls' := [_, _, _]) (st' := [_]) (cs := []) rfl trivial ?_
       refine aw_zret eX4_restorable_30 rfl (by first | omega | exact bitC_R | exact hj.2) (Nat.le_refl _) (Nat.le_refl _) ?_
       exact pe_i (by unfold rst; first | rw [if_pos (by omega)] | rw [if_neg (by omega)]) rfl rfl)
  · first
    | (exfalso; omega; done)
    | (refine aw_blk oX4_restorable_25 (pc' := 30) (ls' := [_, _, _]) (st' := [_]) (cs := []) rfl trivial ?_
       refine aw_zret eX4_restorable_30 rfl (by first | omega | exact bitC_R | exact hj.2) (Nat.le_refl _) (Nat.le_refl _) ?_
       exact pe_i (by unfold rst; first | rw [if_pos (by omega)] | rw [if_neg (by omega)]) rfl rfl)
theorem law_put {κ : KX} {μ : MM} {ν : ML} {t f v : Int} (h : RG μ) (ht : R32 t) (hf : R32 f) (hv : R32 v) : LawM RG csG κ mX11_put mX12_put [aI t, aI f, aI v] μ ν := by
  by_cases c1 : 0 ≤ t ∧ t ≤ 3
  · by_cases c2 : (0 ≤ f ∧ f ≤ 5) ∧ (0 ≤ v ∧ v ≤ 65535)
    · have g1 := h (t * 6 + f) (by omega) (by omega)
      have e : 6 * t + f = t * 6 + f := by omega
      refine ⟨μ 50 (t * 6 + f), up μ 50 (t * 6 + f) v, up (up μ 50 (t * 6 + f) v) 72 (t * 6 + f) v, ?_, ?_, by omega, ?_, SR.two.sub (by decide)⟩
      · refine AMet.of kX11_put.1 (Nat.le_of_ble_eq_true rfl) rfl ?_
        refine aw_blk oX11_put_0 (pc' := 3) (ls' := [_, _, _, _]) (st' := [_, _, _]) (cs := []) rfl trivial ?_
        refine aw_ciS (rest := []) (c_X11_between (by omega) (by omega) (by omega)) kX11_between eX11_put_3 lX11_put_3 rfl rfl (Nat.le_of_ble_eq_true rfl) ⟨Nat.le_of_ble_eq_true rfl, Nat.le_of_ble_eq_true rfl⟩ ⟨Nat.le_refl _, Nat.le_refl _⟩ ?_
        refine aw_if_ne (tgt := 11) eX11_put_6 (by decide) bt_r (fun hh => have h6 := bt1 hh; ?_) (fun hh => have h6 := bt0 hh; ?_)
        · first
          | (exfalso; omega; done)
          | (refine aw_blk oX11_put_11 (pc' := 14) (ls' := [_, _, _, _]) (st' := [_, _, _]) (cs := []) rfl trivial ?_
             refine aw_ciS (rest := []) (c_X11_between (by omega) (by omega) (by omega)) kX11_between eX11_put_14 lX11_put_14 rfl rfl (Nat.le_of_ble_eq_true rfl) ⟨Nat.le_of_ble_eq_true rfl, Nat.le_of_ble_eq_true rfl⟩ ⟨Nat.le_refl _, Nat.le_refl _⟩ ?_
             refine aw_if_eq (tgt := 31) eX11_put_17 (by decide) bt_r (fun hh => have h7 := bt0 hh; ?_) (fun hh => have h7 := bt1 hh; ?_)
             · first
               | (exfalso; omega; done)
               | (refine aw_blk oX11_put_31 (pc' := 33) (ls' := [_, _, _, _]) (st' := [_]) (cs := []) rfl trivial ?_
                  refine aw_iret eX11_put_33 rfl (Nat.le_refl _) (Nat.le_refl _) ?_
                  exact pe_i rfl rfl rfl)
             · first
               | (exfalso; omega; done)
               | (refine aw_blk oX11_put_20 (pc' := 25) (ls' := [_, _, _, _]) (st' := [_, _, _]) (cs := []) rfl trivial ?_
                  refine aw_ciS (rest := []) (c_X11_between (by omega) (by omega) (by omega)) kX11_between eX11_put_25 lX11_put_25 rfl rfl (Nat.le_of_ble_eq_true rfl) ⟨Nat.le_of_ble_eq_true rfl, Nat.le_of_ble_eq_true rfl⟩ ⟨Nat.le_refl _, Nat.le_refl _⟩ ?_
                  refine aw_if_ne (tgt := 34) eX11_put_28 (by decide) bt_r (fun hh => have h8 := bt1 hh; ?_) (fun hh => have h8 := bt0 hh; ?_)
                  · first
                    | (exfalso; omega; done)
                    | (refine aw_blk oX11_put_34 (pc' := 41) (ls' := [_, _, _, _]) (st' := [_, _, _, _]) (cs := []) rfl trivial ?_
                       refine aw_ciV (rest := []) (c_X4_change (by omega) (by omega)) kX4_change eX11_put_41 lX11_put_41 rfl rfl rfl rfl (Nat.le_of_ble_eq_true rfl) ⟨Nat.le_of_ble_eq_true rfl, Nat.le_of_ble_eq_true rfl⟩ ⟨Nat.le_refl _, Nat.le_refl _⟩ ?_
                       refine aw_iret eX11_put_44 rfl (Nat.le_refl _) (Nat.le_refl _) ?_
                       exact pe_i rfl rfl rfl)
                  · first
                    | (exfalso; omega; done)
                    | (refine aw_blk oX11_put_31 (pc' := 33) (ls' := [_, _, _, _]) (st' := [_]) (cs := []) rfl trivial ?_
                       refine aw_iret eX11_put_33 rfl (Nat.le_refl _) (Nat.le_refl _) ?_
                       exact pe_i rfl rfl rfl)))
        · first
          | (exfalso; omega; done)
          | (refine aw_blk oX11_put_9 (pc' := 10) (ls' := [_, _, _, _]) (st' := [_]) (cs := []) rfl trivial ?_
             refine aw_iret eX11_put_10 rfl (Nat.le_refl _) (Nat.le_refl _) ?_
             exact pe_i rfl rfl rfl)
      · refine AMet.of kX12_put.1 (Nat.le_of_ble_eq_true rfl) rfl ?_
        refine aw_blk oX12_put_0 (pc' := 1) (ls' := [_, _, _, _, _]) (st' := [_]) (cs := []) rfl trivial ?_
        refine aw_ciS (rest := []) (c_X12_isGroup (by omega)) kX12_isGroup eX12_put_1 lX12_put_1 rfl rfl (Nat.le_of_ble_eq_true rfl) ⟨Nat.le_of_ble_eq_true rfl, Nat.le_of_ble_eq_true rfl⟩ ⟨Nat.le_refl _, Nat.le_refl _⟩ ?_
        refine aw_if_ne (tgt := 9) eX12_put_4 (by decide) bt_r (fun hh => have h9 := bt1 hh; ?_) (fun hh => have h9 := bt0 hh; ?_)
        · first
          | (exfalso; omega; done)
          | (refine aw_blk oX12_put_9 (pc' := 12) (ls' := [_, _, _, _, _]) (st' := [_, _, _]) (cs := []) rfl trivial ?_
             refine aw_ciS (rest := []) (c_X12_in (by omega) (by omega) (by omega)) kX12_in eX12_put_12 lX12_put_12 rfl rfl (Nat.le_of_ble_eq_true rfl) ⟨Nat.le_of_ble_eq_true rfl, Nat.le_of_ble_eq_true rfl⟩ ⟨Nat.le_refl _, Nat.le_refl _⟩ ?_
             refine aw_if_eq (tgt := 28) eX12_put_15 (by decide) bt_r (fun hh => have h10 := bt0 hh; ?_) (fun hh => have h10 := bt1 hh; ?_)
             · first
               | (exfalso; omega; done)
               | (refine aw_blk oX12_put_28 (pc' := 30) (ls' := [_, _, _, _, _]) (st' := [_]) (cs := []) rfl trivial ?_
                  refine aw_iret eX12_put_30 rfl (Nat.le_refl _) (Nat.le_refl _) ?_
                  exact pe_i (by rw [e, up_c (by decide)]; exact g1.1) (by rw [e]) rfl)
             · first
               | (exfalso; omega; done)
               | (refine aw_blk oX12_put_18 (pc' := 22) (ls' := [_, _, _, _, _]) (st' := [_, _, _]) (cs := []) rfl trivial ?_
                  refine aw_ciS (rest := []) (c_X12_in (by omega) (by omega) (by omega)) kX12_in eX12_put_22 lX12_put_22 rfl rfl (Nat.le_of_ble_eq_true rfl) ⟨Nat.le_of_ble_eq_true rfl, Nat.le_of_ble_eq_true rfl⟩ ⟨Nat.le_refl _, Nat.le_refl _⟩ ?_
                  refine aw_if_ne (tgt := 31) eX12_put_25 (by decide) bt_r (fun hh => have h11 := bt1 hh; ?_) (fun hh => have h11 := bt0 hh; ?_)
                  · first
                    | (exfalso; omega; done)
                    | (refine aw_blk oX12_put_31 (pc' := 58) (ls' := [_, _, _, _, _]) (st' := [_]) (cs := [(_, _), (_, _)]) rfl (⟨⟨by omega, by omega⟩, ⟨by omega, by omega⟩, trivial⟩) ?_
                       refine aw_iret eX12_put_58 rfl (Nat.le_refl _) (Nat.le_refl _) ?_
                       exact pe_i (by rw [e, up_c (by decide)]; exact g1.1) (by rw [e]) rfl)
                  · first
                    | (exfalso; omega; done)
                    | (refine aw_blk oX12_put_28 (pc' := 30) (ls' := [_, _, _, _, _]) (st' := [_]) (cs := []) rfl trivial ?_
                       refine aw_iret eX12_put_30 rfl (Nat.le_refl _) (Nat.le_refl _) ?_
                       exact pe_i (by rw [e, up_c (by decide)]; exact g1.1) (by rw [e]) rfl)))
        · first
          | (exfalso; omega; done)
          | (refine aw_blk oX12_put_7 (pc' := 8) (ls' := [_, _, _, _, _]) (st' := [_]) (cs := []) rfl trivial ?_
             refine aw_iret eX12_put_8 rfl (Nat.le_refl _) (Nat.le_refl _) ?_
             exact pe_i (by rw [e, up_c (by decide)]; exact g1.1) (by rw [e]) rfl)
      exact PR.up2 h (by decide) c2.2.1 c2.2.2
    · refine ⟨-2, μ, μ, ?_, ?_, by decide, h, SR.rf⟩
      · refine AMet.of kX11_put.1 (Nat.le_of_ble_eq_true rfl) rfl ?_
        refine aw_blk oX11_put_0 (pc' := 3) (ls' := [_, _, _, _]) (st' := [_, _, _]) (cs := []) rfl trivial ?_
        refine aw_ciS (rest := []) (c_X11_between (by omega) (by omega) (by omega)) kX11_between eX11_put_3 lX11_put_3 rfl rfl (Nat.le_of_ble_eq_true rfl) ⟨Nat.le_of_ble_eq_true rfl, Nat.le_of_ble_eq_true rfl⟩ ⟨Nat.le_refl _, Nat.le_refl _⟩ ?_
        refine aw_if_ne (tgt := 11) eX11_put_6 (by decide) bt_r (fun hh => have h12 := bt1 hh; ?_) (fun hh => have h12 := bt0 hh; ?_)
        · first
          | (exfalso; omega; done)
          | (refine aw_blk oX11_put_11 (pc' := 14) (ls' := [_, _, _, _]) (st' := [_, _, _]) (cs := []) rfl trivial ?_
             refine aw_ciS (rest := []) (c_X11_between (by omega) (by omega) (by omega)) kX11_between eX11_put_14 lX11_put_14 rfl rfl (Nat.le_of_ble_eq_true rfl) ⟨Nat.le_of_ble_eq_true rfl, Nat.le_of_ble_eq_true rfl⟩ ⟨Nat.le_refl _, Nat.le_refl _⟩ ?_
             refine aw_if_eq (tgt := 31) eX11_put_17 (by decide) bt_r (fun hh => have h13 := bt0 hh; ?_) (fun hh => have h13 := bt1 hh; ?_)
             · first
               | (exfalso; omega; done)
               | (refine aw_blk oX11_put_31 (pc' := 33) (ls' := [_, _, _, _]) (st' := [_]) (cs := []) rfl trivial ?_
                  refine aw_iret eX11_put_33 rfl (Nat.le_refl _) (Nat.le_refl _) ?_
                  exact pe_i rfl rfl rfl)
             · first
               | (exfalso; omega; done)
               | (refine aw_blk oX11_put_20 (pc' := 25) (ls' := [_, _, _, _]) (st' := [_, _, _]) (cs := []) rfl trivial ?_
                  refine aw_ciS (rest := []) (c_X11_between (by omega) (by omega) (by omega)) kX11_between eX11_put_25 lX11_put_25 rfl rfl (Nat.le_of_ble_eq_true rfl) ⟨Nat.le_of_ble_eq_true rfl, Nat.le_of_ble_eq_true rfl⟩ ⟨Nat.le_refl _, Nat.le_refl _⟩ ?_
                  refine aw_if_ne (tgt := 34) eX11_put_28 (by decide) bt_r (fun hh => have h14 := bt1 hh; ?_) (fun hh => have h14 := bt0 hh; ?_)
                  · first
                    | (exfalso; omega; done)
                    | (refine aw_blk oX11_put_34 (pc' := 41) (ls' := [_, _, _, _]) (st' := [_, _, _, _]) (cs := []) rfl trivial ?_
                       refine aw_ciV (rest := []) (c_X4_change (by omega) (by omega)) kX4_change eX11_put_41 lX11_put_41 rfl rfl rfl rfl (Nat.le_of_ble_eq_true rfl) ⟨Nat.le_of_ble_eq_true rfl, Nat.le_of_ble_eq_true rfl⟩ ⟨Nat.le_refl _, Nat.le_refl _⟩ ?_
                       refine aw_iret eX11_put_44 rfl (Nat.le_refl _) (Nat.le_refl _) ?_
                       exact pe_i rfl rfl rfl)
                  · first
                    | (exfalso; omega; done)
                    | (refine aw_blk oX11_put_31 (pc' := 33) (ls' := [_, _, _, _]) (st' := [_]) (cs := []) rfl trivial ?_
                       refine aw_iret eX11_put_33 rfl (Nat.le_refl _) (Nat.le_refl _) ?_
                       exact pe_i rfl rfl rfl)))
        · first
          | (exfalso; omega; done)
          | (refine aw_blk oX11_put_9 (pc' := 10) (ls' := [_, _, _, _]) (st' := [_]) (cs := []) rfl trivial ?_
             refine aw_iret eX11_put_10 rfl (Nat.le_refl _) (Nat.le_refl _) ?_
             exact pe_i rfl rfl rfl)
      · refine AMet.of kX12_put.1 (Nat.le_of_ble_eq_true rfl) rfl ?_
        refine aw_blk oX12_put_0 (pc' := 1) (ls' := [_, _, _, _, _]) (st' := [_]) (cs := []) rfl trivial ?_
        refine aw_ciS (rest := []) (c_X12_isGroup (by omega)) kX12_isGroup eX12_put_1 lX12_put_1 rfl rfl (Nat.le_of_ble_eq_true rfl) ⟨Nat.le_of_ble_eq_true rfl, Nat.le_of_ble_eq_true rfl⟩ ⟨Nat.le_refl _, Nat.le_refl _⟩ ?_
        refine aw_if_ne (tgt := 9) eX12_put_4 (by decide) bt_r (fun hh => have h15 := bt1 hh; ?_) (fun hh => have h15 := bt0 hh; ?_)
        · first
          | (exfalso; omega; done)
          | (refine aw_blk oX12_put_9 (pc' := 12) (ls' := [_, _, _, _, _]) (st' := [_, _, _]) (cs := []) rfl trivial ?_
             refine aw_ciS (rest := []) (c_X12_in (by omega) (by omega) (by omega)) kX12_in eX12_put_12 lX12_put_12 rfl rfl (Nat.le_of_ble_eq_true rfl) ⟨Nat.le_of_ble_eq_true rfl, Nat.le_of_ble_eq_true rfl⟩ ⟨Nat.le_refl _, Nat.le_refl _⟩ ?_
             refine aw_if_eq (tgt := 28) eX12_put_15 (by decide) bt_r (fun hh => have h16 := bt0 hh; ?_) (fun hh => have h16 := bt1 hh; ?_)
             · first
               | (exfalso; omega; done)
               | (refine aw_blk oX12_put_28 (pc' := 30) (ls' := [_, _, _, _, _]) (st' := [_]) (cs := []) rfl trivial ?_
                  refine aw_iret eX12_put_30 rfl (Nat.le_refl _) (Nat.le_refl _) ?_
                  exact pe_i rfl rfl rfl)
             · first
               | (exfalso; omega; done)
               | (refine aw_blk oX12_put_18 (pc' := 22) (ls' := [_, _, _, _, _]) (st' := [_, _, _]) (cs := []) rfl trivial ?_
                  refine aw_ciS (rest := []) (c_X12_in (by omega) (by omega) (by omega)) kX12_in eX12_put_22 lX12_put_22 rfl rfl (Nat.le_of_ble_eq_true rfl) ⟨Nat.le_of_ble_eq_true rfl, Nat.le_of_ble_eq_true rfl⟩ ⟨Nat.le_refl _, Nat.le_refl _⟩ ?_
                  refine aw_if_ne (tgt := 31) eX12_put_25 (by decide) bt_r (fun hh => have h17 := bt1 hh; ?_) (fun hh => have h17 := bt0 hh; ?_)
                  · first
                    | (exfalso; omega; done)
                    | (refine aw_blk oX12_put_31 (pc' := 58) (ls' := [_, _, _, _, _]) (st' := [_]) (cs := [(_, _), (_, _)]) rfl (⟨⟨by omega, by omega⟩, ⟨by omega, by omega⟩, trivial⟩) ?_
                       refine aw_iret eX12_put_58 rfl (Nat.le_refl _) (Nat.le_refl _) ?_
                       exact pe_i rfl rfl rfl)
                  · first
                    | (exfalso; omega; done)
                    | (refine aw_blk oX12_put_28 (pc' := 30) (ls' := [_, _, _, _, _]) (st' := [_]) (cs := []) rfl trivial ?_
                       refine aw_iret eX12_put_30 rfl (Nat.le_refl _) (Nat.le_refl _) ?_
                       exact pe_i rfl rfl rfl)))
        · first
          | (exfalso; omega; done)
          | (refine aw_blk oX12_put_7 (pc' := 8) (ls' := [_, _, _, _, _]) (st' := [_]) (cs := []) rfl trivial ?_
             refine aw_iret eX12_put_8 rfl (Nat.le_refl _) (Nat.le_refl _) ?_
             exact pe_i rfl rfl rfl)
  · refine ⟨-1, μ, μ, ?_, ?_, by decide, h, SR.rf⟩
    · refine AMet.of kX11_put.1 (Nat.le_of_ble_eq_true rfl) rfl ?_
      refine aw_blk oX11_put_0 (pc' := 3) (ls' := [_, _, _, _]) (st' := [_, _, _]) (cs := []) rfl trivial ?_
      refine aw_ciS (rest := []) (c_X11_between (by omega) (by omega) (by omega)) kX11_between eX11_put_3 lX11_put_3 rfl rfl (Nat.le_of_ble_eq_true rfl) ⟨Nat.le_of_ble_eq_true rfl, Nat.le_of_ble_eq_true rfl⟩ ⟨Nat.le_refl _, Nat.le_refl _⟩ ?_
      refine aw_if_ne (tgt := 11) eX11_put_6 (by decide) bt_r (fun hh => have h18 := bt1 hh; ?_) (fun hh => have h18 := bt0 hh; ?_)
      · first
        | (exfalso; omega; done)
        | (refine aw_blk oX11_put_11 (pc' := 14) (ls' := [_, _, _, _]) (st' := [_, _, _]) (cs := []) rfl trivial ?_
           refine aw_ciS (rest := []) (c_X11_between (by omega) (by omega) (by omega)) kX11_between eX11_put_14 lX11_put_14 rfl rfl (Nat.le_of_ble_eq_true rfl) ⟨Nat.le_of_ble_eq_true rfl, Nat.le_of_ble_eq_true rfl⟩ ⟨Nat.le_refl _, Nat.le_refl _⟩ ?_
           refine aw_if_eq (tgt := 31) eX11_put_17 (by decide) bt_r (fun hh => have h19 := bt0 hh; ?_) (fun hh => have h19 := bt1 hh; ?_)
           · first
             | (exfalso; omega; done)
             | (refine aw_blk oX11_put_31 (pc' := 33) (ls' := [_, _, _, _]) (st' := [_]) (cs := []) rfl trivial ?_
                refine aw_iret eX11_put_33 rfl (Nat.le_refl _) (Nat.le_refl _) ?_
                exact pe_i rfl rfl rfl)
           · first
             | (exfalso; omega; done)
             | (refine aw_blk oX11_put_20 (pc' := 25) (ls' := [_, _, _, _]) (st' := [_, _, _]) (cs := []) rfl trivial ?_
                refine aw_ciS (rest := []) (c_X11_between (by omega) (by omega) (by omega)) kX11_between eX11_put_25 lX11_put_25 rfl rfl (Nat.le_of_ble_eq_true rfl) ⟨Nat.le_of_ble_eq_true rfl, Nat.le_of_ble_eq_true rfl⟩ ⟨Nat.le_refl _, Nat.le_refl _⟩ ?_
                refine aw_if_ne (tgt := 34) eX11_put_28 (by decide) bt_r (fun hh => have h20 := bt1 hh; ?_) (fun hh => have h20 := bt0 hh; ?_)
                · first
                  | (exfalso; omega; done)
                  | (refine aw_blk oX11_put_34 (pc' := 41) (ls' := [_, _, _, _]) (st' := [_, _, _, _]) (cs := []) rfl trivial ?_
                     refine aw_ciV (rest := []) (c_X4_change (by omega) (by omega)) kX4_change eX11_put_41 lX11_put_41 rfl rfl rfl rfl (Nat.le_of_ble_eq_true rfl) ⟨Nat.le_of_ble_eq_true rfl, Nat.le_of_ble_eq_true rfl⟩ ⟨Nat.le_refl _, Nat.le_refl _⟩ ?_
                     refine aw_iret eX11_put_44 rfl (Nat.le_refl _) (Nat.le_refl _) ?_
                     exact pe_i rfl rfl rfl)
                · first
                  | (exfalso; omega; done)
                  | (refine aw_blk oX11_put_31 (pc' := 33) (ls' := [_, _, _, _]) (st' := [_]) (cs := []) rfl trivial ?_
                     refine aw_iret eX11_put_33 rfl (Nat.le_refl _) (Nat.le_refl _) ?_
                     exact pe_i rfl rfl rfl)))
      · first
        | (exfalso; omega; done)
        | (refine aw_blk oX11_put_9 (pc' := 10) (ls' := [_, _, _, _]) (st' := [_]) (cs := []) rfl trivial ?_
           refine aw_iret eX11_put_10 rfl (Nat.le_refl _) (Nat.le_refl _) ?_
           exact pe_i rfl rfl rfl)
    · refine AMet.of kX12_put.1 (Nat.le_of_ble_eq_true rfl) rfl ?_
      refine aw_blk oX12_put_0 (pc' := 1) (ls' := [_, _, _, _, _]) (st' := [_]) (cs := []) rfl trivial ?_
      refine aw_ciS (rest := []) (c_X12_isGroup (by omega)) kX12_isGroup eX12_put_1 lX12_put_1 rfl rfl (Nat.le_of_ble_eq_true rfl) ⟨Nat.le_of_ble_eq_true rfl, Nat.le_of_ble_eq_true rfl⟩ ⟨Nat.le_refl _, Nat.le_refl _⟩ ?_
      refine aw_if_ne (tgt := 9) eX12_put_4 (by decide) bt_r (fun hh => have h21 := bt1 hh; ?_) (fun hh => have h21 := bt0 hh; ?_)
      · first
        | (exfalso; omega; done)
        | (refine aw_blk oX12_put_9 (pc' := 12) (ls' := [_, _, _, _, _]) (st' := [_, _, _]) (cs := []) rfl trivial ?_
           refine aw_ciS (rest := []) (c_X12_in (by omega) (by omega) (by omega)) kX12_in eX12_put_12 lX12_put_12 rfl rfl (Nat.le_of_ble_eq_true rfl) ⟨Nat.le_of_ble_eq_true rfl, Nat.le_of_ble_eq_true rfl⟩ ⟨Nat.le_refl _, Nat.le_refl _⟩ ?_
           refine aw_if_eq (tgt := 28) eX12_put_15 (by decide) bt_r (fun hh => have h22 := bt0 hh; ?_) (fun hh => have h22 := bt1 hh; ?_)
           · first
             | (exfalso; omega; done)
             | (refine aw_blk oX12_put_28 (pc' := 30) (ls' := [_, _, _, _, _]) (st' := [_]) (cs := []) rfl trivial ?_
                refine aw_iret eX12_put_30 rfl (Nat.le_refl _) (Nat.le_refl _) ?_
                exact pe_i rfl rfl rfl)
           · first
             | (exfalso; omega; done)
             | (refine aw_blk oX12_put_18 (pc' := 22) (ls' := [_, _, _, _, _]) (st' := [_, _, _]) (cs := []) rfl trivial ?_
                refine aw_ciS (rest := []) (c_X12_in (by omega) (by omega) (by omega)) kX12_in eX12_put_22 lX12_put_22 rfl rfl (Nat.le_of_ble_eq_true rfl) ⟨Nat.le_of_ble_eq_true rfl, Nat.le_of_ble_eq_true rfl⟩ ⟨Nat.le_refl _, Nat.le_refl _⟩ ?_
                refine aw_if_ne (tgt := 31) eX12_put_25 (by decide) bt_r (fun hh => have h23 := bt1 hh; ?_) (fun hh => have h23 := bt0 hh; ?_)
                · first
                  | (exfalso; omega; done)
                  | (refine aw_blk oX12_put_31 (pc' := 58) (ls' := [_, _, _, _, _]) (st' := [_]) (cs := [(_, _), (_, _)]) rfl (⟨⟨by omega, by omega⟩, ⟨by omega, by omega⟩, trivial⟩) ?_
                     refine aw_iret eX12_put_58 rfl (Nat.le_refl _) (Nat.le_refl _) ?_
                     exact pe_i rfl rfl rfl)
                · first
                  | (exfalso; omega; done)
                  | (refine aw_blk oX12_put_28 (pc' := 30) (ls' := [_, _, _, _, _]) (st' := [_]) (cs := []) rfl trivial ?_
                     refine aw_iret eX12_put_30 rfl (Nat.le_refl _) (Nat.le_refl _) ?_
                     exact pe_i rfl rfl rfl)))
      · first
        | (exfalso; omega; done)
        | (refine aw_blk oX12_put_7 (pc' := 8) (ls' := [_, _, _, _, _]) (st' := [_]) (cs := []) rfl trivial ?_
           refine aw_iret eX12_put_8 rfl (Nat.le_refl _) (Nat.le_refl _) ?_
           exact pe_i rfl rfl rfl)
theorem l_X12_sum {κ : KX} {μ : MM} {ν : ML} {t w : Int} (ht : 0 ≤ t ∧ t < 4) (hw : w = 0 ∨ w = 1) (n : Nat) : ∀ k : Nat, k + n = 6 → AX κ mX12_sum 60 (PE (some (aI (sm (fun k => μ 72 (6 * t + k) * (if w = 0 then 1 else k + 1)) 6))) μ ν) 26 [aR 55, aI t, aI w, aI (sm (fun k => μ 72 (6 * t + k) * (if w = 0 then 1 else k + 1)) k), aI k] [] μ ν := by
  induction n with
  | zero =>
    intro k hk
    refine aw_blk oX12_sum_26 (pc' := 30) (ls' := [_, _, _, _, _]) (st' := [_, _]) (cs := []) rfl trivial ?_
    refine aw_icmp_ge (tgt := 67) eX12_sum_30 (by decide) (by omega) (by omega) (fun h24 => ?_) (fun h24 => ?_)
    · first
      | (exfalso; omega; done)
      | (refine aw_blk oX12_sum_67 (pc' := 68) (ls' := [_, _, _, _, _]) (st' := [_]) (cs := []) rfl trivial ?_
         refine aw_iret eX12_sum_68 rfl (Nat.le_refl _) (Nat.le_refl _) ?_
         (have e : k = 6 := by omega)
         subst e
         exact pe_i rfl rfl rfl)
    · first
      | (exfalso; omega; done)
      | (refine aw_blk oX12_sum_33 (pc' := 47) (ls' := [_, _, _, _, _]) (st' := [_, _, _]) (cs := [(_, _)]) rfl (⟨⟨by omega, by omega⟩, trivial⟩) ?_
         refine aw_if_ne (tgt := 54) eX12_sum_47 (by decide) (by omega) (fun h25 => ?_) (fun h25 => ?_)
         · first
           | (exfalso; omega; done)
           | (refine aw_blk oX12_sum_54 (pc' := 58) (ls' := [_, _, _, _, _]) (st' := [_, _, _]) (cs := []) rfl trivial ?_
              refine aw_blk oX12_sum_58 (pc' := 26) (ls' := [_, _, _, _, _]) (st' := []) (cs := []) rfl trivial ?_
              skip)
         · first
           | (exfalso; omega; done)
           | (refine aw_blk oX12_sum_50 (pc' := 58) (ls' := [_, _, _, _, _]) (st' := [_, _, _]) (cs := []) rfl trivial ?_
              refine aw_blk oX12_sum_58 (pc' := 26) (ls' := [_, _, _, _, _]) (st' := []) (cs := []) rfl trivial ?_
              skip))
  | succ n ih =>
    intro k hk
    have := ih (k + 1) (by omega)
    rw [sm_succ (n := k)] at this
    refine aw_blk oX12_sum_26 (pc' := 30) (ls' := [_, _, _, _, _]) (st' := [_, _]) (cs := []) rfl trivial ?_
    refine aw_icmp_ge (tgt := 67) eX12_sum_30 (by decide) (by omega) (by omega) (fun h26 => ?_) (fun h26 => ?_)
    · first
      | (exfalso; omega; done)
      | (refine aw_blk oX12_sum_67 (pc' := 68) (ls' := [_, _, _, _, _]) (st' := [_]) (cs := []) rfl trivial ?_
         refine aw_iret eX12_sum_68 rfl (Nat.le_refl _) (Nat.le_refl _) ?_
         skip)
    · first
      | (exfalso; omega; done)
      | (refine aw_blk oX12_sum_33 (pc' := 47) (ls' := [_, _, _, _, _]) (st' := [_, _, _]) (cs := [(_, _)]) rfl (⟨⟨by omega, by omega⟩, trivial⟩) ?_
         refine aw_if_ne (tgt := 54) eX12_sum_47 (by decide) (by omega) (fun h27 => ?_) (fun h27 => ?_)
         · first
           | (exfalso; omega; done)
           | (refine aw_blk oX12_sum_54 (pc' := 58) (ls' := [_, _, _, _, _]) (st' := [_, _, _]) (cs := []) rfl trivial ?_
              refine aw_blk oX12_sum_58 (pc' := 26) (ls' := [_, _, _, _, _]) (st' := []) (cs := []) rfl trivial ?_
              (first | rw [if_pos (by omega)] at this | rw [if_neg (by omega)] at this)
              exact this)
         · first
           | (exfalso; omega; done)
           | (refine aw_blk oX12_sum_50 (pc' := 58) (ls' := [_, _, _, _, _]) (st' := [_, _, _]) (cs := []) rfl trivial ?_
              refine aw_blk oX12_sum_58 (pc' := 26) (ls' := [_, _, _, _, _]) (st' := []) (cs := []) rfl trivial ?_
              (first | rw [if_pos (by omega)] at this | rw [if_neg (by omega)] at this)
              exact this))
theorem law_sum {κ : KX} {μ : MM} {ν : ML} {t w : Int} (h : RG μ) (ht : R32 t) (hw : R32 w) : LawM RG csG κ mX11_sum mX12_sum [aI t, aI w] μ ν := by
  by_cases c1 : 0 ≤ t ∧ t ≤ 3
  · by_cases c2 : 0 ≤ w ∧ w ≤ 1
    · have hm := l_X12_sum (κ := κ) (μ := μ) (ν := ν) (t := t) (w := w) (by omega) (by omega) 6 0 rfl
      have g : ∀ k : Nat, k < 6 → μ 72 (6 * t + k) = μ 50 (t * 6 + k) ∧ 0 ≤ μ 50 (t * 6 + k) ∧ μ 50 (t * 6 + k) ≤ 65535 := fun k hk => by
        have := h (6 * t + k) (by omega) (by omega)
        rw [show 6 * t + (k : Int) = t * 6 + k by omega] at this ⊢
        exact this
      by_cases c3 : w = 0
      · have e : sm (fun k => μ 72 (6 * t + k) * (if w = 0 then 1 else k + 1)) 6 = sm (fun k => μ 50 (t * 6 + k)) 6 := sm_congr 6 (fun k hk => by rw [if_pos c3, (g k hk).1, Int.mul_one])
        have b := sm_bd (g := fun k => μ 50 (t * 6 + k)) (B := 65535) 6 (fun k hk => (g k hk).2)
        rw [e] at hm
        refine ⟨sm (fun k => μ 50 (t * 6 + k)) 6, μ, μ, ?_, ?_, by omega, h, SR.rf⟩
        · skip
          refine AMet.of kX11_sum.1 (Nat.le_of_ble_eq_true rfl) rfl ?_
          refine aw_blk oX11_sum_0 (pc' := 3) (ls' := [_, _, _]) (st' := [_, _, _]) (cs := []) rfl trivial ?_
          refine aw_ciS (rest := []) (c_X11_between (by omega) (by omega) (by omega)) kX11_between eX11_sum_3 lX11_sum_3 rfl rfl (Nat.le_of_ble_eq_true rfl) ⟨Nat.le_of_ble_eq_true rfl, Nat.le_of_ble_eq_true rfl⟩ ⟨Nat.le_refl _, Nat.le_refl _⟩ ?_
          refine aw_if_ne (tgt := 11) eX11_sum_6 (by decide) bt_r (fun hh => have h28 := bt1 hh; ?_) (fun hh => have h28 := bt0 hh; ?_)
          · first
            | (exfalso; omega; done)
            | (refine aw_blk oX11_sum_11 (pc' := 14) (ls' := [_, _, _]) (st' := [_, _, _]) (cs := []) rfl trivial ?_
               refine aw_ciS (rest := []) (c_X11_between (by omega) (by omega) (by omega)) kX11_between eX11_sum_14 lX11_sum_14 rfl rfl (Nat.le_of_ble_eq_true rfl) ⟨Nat.le_of_ble_eq_true rfl, Nat.le_of_ble_eq_true rfl⟩ ⟨Nat.le_refl _, Nat.le_refl _⟩ ?_
               refine aw_if_ne (tgt := 23) eX11_sum_17 (by decide) bt_r (fun hh => have h29 := bt1 hh; ?_) (fun hh => have h29 := bt0 hh; ?_)
               · first
                 | (exfalso; omega; done)
                 | (refine aw_blk oX11_sum_23 (pc' := 24) (ls' := [_, _, _]) (st' := [_]) (cs := []) rfl trivial ?_
                    refine aw_if_ne (tgt := 38) eX11_sum_24 (by decide) (by omega) (fun h30 => ?_) (fun h30 => ?_)
                    · first
                      | (exfalso; omega; done)
                      | (refine aw_blk oX11_sum_38 (pc' := 43) (ls' := [_, _, _]) (st' := [_, _]) (cs := []) rfl trivial ?_
                         refine aw_ciV (rest := []) (c_placeSum (by omega)) kX4_placeSum eX11_sum_43 lX11_sum_43 rfl rfl rfl rfl (Nat.le_of_ble_eq_true rfl) ⟨Nat.le_of_ble_eq_true rfl, Nat.le_of_ble_eq_true rfl⟩ ⟨Nat.le_refl _, Nat.le_refl _⟩ ?_
                         refine aw_iret eX11_sum_46 rfl (Nat.le_refl _) (Nat.le_refl _) ?_
                         exact pe_i rfl rfl rfl)
                    · first
                      | (exfalso; omega; done)
                      | (refine aw_blk oX11_sum_27 (pc' := 32) (ls' := [_, _, _]) (st' := [_, _]) (cs := []) rfl trivial ?_
                         refine aw_ciV (rest := []) (c_plainSum (by omega)) kX4_plainSum eX11_sum_32 lX11_sum_32 rfl rfl rfl rfl (Nat.le_of_ble_eq_true rfl) ⟨Nat.le_of_ble_eq_true rfl, Nat.le_of_ble_eq_true rfl⟩ ⟨Nat.le_refl _, Nat.le_refl _⟩ ?_
                         refine aw_blk oX11_sum_35 (pc' := 46) (ls' := [_, _, _]) (st' := [_]) (cs := []) rfl trivial ?_
                         refine aw_iret eX11_sum_46 rfl (Nat.le_refl _) (Nat.le_refl _) ?_
                         exact pe_i rfl rfl rfl))
               · first
                 | (exfalso; omega; done)
                 | (refine aw_blk oX11_sum_20 (pc' := 22) (ls' := [_, _, _]) (st' := [_]) (cs := []) rfl trivial ?_
                    refine aw_iret eX11_sum_22 rfl (Nat.le_refl _) (Nat.le_refl _) ?_
                    exact pe_i rfl rfl rfl))
          · first
            | (exfalso; omega; done)
            | (refine aw_blk oX11_sum_9 (pc' := 10) (ls' := [_, _, _]) (st' := [_]) (cs := []) rfl trivial ?_
               refine aw_iret eX11_sum_10 rfl (Nat.le_refl _) (Nat.le_refl _) ?_
               exact pe_i rfl rfl rfl)
        · skip
          refine AMet.of kX12_sum.1 (Nat.le_of_ble_eq_true rfl) rfl ?_
          refine aw_blk oX12_sum_0 (pc' := 1) (ls' := [_, _, _, _, _]) (st' := [_]) (cs := []) rfl trivial ?_
          refine aw_ciS (rest := []) (c_X12_isGroup (by omega)) kX12_isGroup eX12_sum_1 lX12_sum_1 rfl rfl (Nat.le_of_ble_eq_true rfl) ⟨Nat.le_of_ble_eq_true rfl, Nat.le_of_ble_eq_true rfl⟩ ⟨Nat.le_refl _, Nat.le_refl _⟩ ?_
          refine aw_if_ne (tgt := 9) eX12_sum_4 (by decide) bt_r (fun hh => have h31 := bt1 hh; ?_) (fun hh => have h31 := bt0 hh; ?_)
          · first
            | (exfalso; omega; done)
            | (refine aw_blk oX12_sum_9 (pc' := 12) (ls' := [_, _, _, _, _]) (st' := [_, _, _]) (cs := []) rfl trivial ?_
               refine aw_ciS (rest := []) (c_X12_in (by omega) (by omega) (by omega)) kX12_in eX12_sum_12 lX12_sum_12 rfl rfl (Nat.le_of_ble_eq_true rfl) ⟨Nat.le_of_ble_eq_true rfl, Nat.le_of_ble_eq_true rfl⟩ ⟨Nat.le_refl _, Nat.le_refl _⟩ ?_
               refine aw_if_ne (tgt := 21) eX12_sum_15 (by decide) bt_r (fun hh => have h32 := bt1 hh; ?_) (fun hh => have h32 := bt0 hh; ?_)
               · first
                 | (exfalso; omega; done)
                 | (refine aw_blk oX12_sum_21 (pc' := 26) (ls' := [_, _, _, _, _]) (st' := []) (cs := []) rfl trivial ?_
                    exact hm)
               · first
                 | (exfalso; omega; done)
                 | (refine aw_blk oX12_sum_18 (pc' := 20) (ls' := [_, _, _, _, _]) (st' := [_]) (cs := []) rfl trivial ?_
                    refine aw_iret eX12_sum_20 rfl (Nat.le_refl _) (Nat.le_refl _) ?_
                    exact pe_i rfl rfl rfl))
          · first
            | (exfalso; omega; done)
            | (refine aw_blk oX12_sum_7 (pc' := 8) (ls' := [_, _, _, _, _]) (st' := [_]) (cs := []) rfl trivial ?_
               refine aw_iret eX12_sum_8 rfl (Nat.le_refl _) (Nat.le_refl _) ?_
               exact pe_i rfl rfl rfl)
      · have e : sm (fun k => μ 72 (6 * t + k) * (if w = 0 then 1 else k + 1)) 6 = sm (fun k => μ 50 (t * 6 + k) * (k + 1)) 6 := sm_congr 6 (fun k hk => by rw [if_neg c3, (g k hk).1])
        have b := sm_bd (g := fun k => μ 50 (t * 6 + k) * (k + 1)) (B := 393210) 6 (fun k hk => by
          have h1 := (g k hk).2
          refine ⟨Int.mul_nonneg h1.1 (by omega), ?_⟩
          calc μ 50 (t * 6 + k) * ((k : Int) + 1) ≤ 65535 * ((k : Int) + 1) := Int.mul_le_mul_of_nonneg_right h1.2 (by omega)
            _ ≤ 393210 := by omega)
        rw [e] at hm
        refine ⟨sm (fun k => μ 50 (t * 6 + k) * (k + 1)) 6, μ, μ, ?_, ?_, by omega, h, SR.rf⟩
        · skip
          refine AMet.of kX11_sum.1 (Nat.le_of_ble_eq_true rfl) rfl ?_
          refine aw_blk oX11_sum_0 (pc' := 3) (ls' := [_, _, _]) (st' := [_, _, _]) (cs := []) rfl trivial ?_
          refine aw_ciS (rest := []) (c_X11_between (by omega) (by omega) (by omega)) kX11_between eX11_sum_3 lX11_sum_3 rfl rfl (Nat.le_of_ble_eq_true rfl) ⟨Nat.le_of_ble_eq_true rfl, Nat.le_of_ble_eq_true rfl⟩ ⟨Nat.le_refl _, Nat.le_refl _⟩ ?_
          refine aw_if_ne (tgt := 11) eX11_sum_6 (by decide) bt_r (fun hh => have h33 := bt1 hh; ?_) (fun hh => have h33 := bt0 hh; ?_)
          · first
            | (exfalso; omega; done)
            | (refine aw_blk oX11_sum_11 (pc' := 14) (ls' := [_, _, _]) (st' := [_, _, _]) (cs := []) rfl trivial ?_
               refine aw_ciS (rest := []) (c_X11_between (by omega) (by omega) (by omega)) kX11_between eX11_sum_14 lX11_sum_14 rfl rfl (Nat.le_of_ble_eq_true rfl) ⟨Nat.le_of_ble_eq_true rfl, Nat.le_of_ble_eq_true rfl⟩ ⟨Nat.le_refl _, Nat.le_refl _⟩ ?_
               refine aw_if_ne (tgt := 23) eX11_sum_17 (by decide) bt_r (fun hh => have h34 := bt1 hh; ?_) (fun hh => have h34 := bt0 hh; ?_)
               · first
                 | (exfalso; omega; done)
                 | (refine aw_blk oX11_sum_23 (pc' := 24) (ls' := [_, _, _]) (st' := [_]) (cs := []) rfl trivial ?_
                    refine aw_if_ne (tgt := 38) eX11_sum_24 (by decide) (by omega) (fun h35 => ?_) (fun h35 => ?_)
                    · first
                      | (exfalso; omega; done)
                      | (refine aw_blk oX11_sum_38 (pc' := 43) (ls' := [_, _, _]) (st' := [_, _]) (cs := []) rfl trivial ?_
                         refine aw_ciV (rest := []) (c_placeSum (by omega)) kX4_placeSum eX11_sum_43 lX11_sum_43 rfl rfl rfl rfl (Nat.le_of_ble_eq_true rfl) ⟨Nat.le_of_ble_eq_true rfl, Nat.le_of_ble_eq_true rfl⟩ ⟨Nat.le_refl _, Nat.le_refl _⟩ ?_
                         refine aw_iret eX11_sum_46 rfl (Nat.le_refl _) (Nat.le_refl _) ?_
                         exact pe_i rfl rfl rfl)
                    · first
                      | (exfalso; omega; done)
                      | (refine aw_blk oX11_sum_27 (pc' := 32) (ls' := [_, _, _]) (st' := [_, _]) (cs := []) rfl trivial ?_
                         refine aw_ciV (rest := []) (c_plainSum (by omega)) kX4_plainSum eX11_sum_32 lX11_sum_32 rfl rfl rfl rfl (Nat.le_of_ble_eq_true rfl) ⟨Nat.le_of_ble_eq_true rfl, Nat.le_of_ble_eq_true rfl⟩ ⟨Nat.le_refl _, Nat.le_refl _⟩ ?_
                         refine aw_blk oX11_sum_35 (pc' := 46) (ls' := [_, _, _]) (st' := [_]) (cs := []) rfl trivial ?_
                         refine aw_iret eX11_sum_46 rfl (Nat.le_refl _) (Nat.le_refl _) ?_
                         exact pe_i rfl rfl rfl))
               · first
                 | (exfalso; omega; done)
                 | (refine aw_blk oX11_sum_20 (pc' := 22) (ls' := [_, _, _]) (st' := [_]) (cs := []) rfl trivial ?_
                    refine aw_iret eX11_sum_22 rfl (Nat.le_refl _) (Nat.le_refl _) ?_
                    exact pe_i rfl rfl rfl))
          · first
            | (exfalso; omega; done)
            | (refine aw_blk oX11_sum_9 (pc' := 10) (ls' := [_, _, _]) (st' := [_]) (cs := []) rfl trivial ?_
               refine aw_iret eX11_sum_10 rfl (Nat.le_refl _) (Nat.le_refl _) ?_
               exact pe_i rfl rfl rfl)
        · skip
          refine AMet.of kX12_sum.1 (Nat.le_of_ble_eq_true rfl) rfl ?_
          refine aw_blk oX12_sum_0 (pc' := 1) (ls' := [_, _, _, _, _]) (st' := [_]) (cs := []) rfl trivial ?_
          refine aw_ciS (rest := []) (c_X12_isGroup (by omega)) kX12_isGroup eX12_sum_1 lX12_sum_1 rfl rfl (Nat.le_of_ble_eq_true rfl) ⟨Nat.le_of_ble_eq_true rfl, Nat.le_of_ble_eq_true rfl⟩ ⟨Nat.le_refl _, Nat.le_refl _⟩ ?_
          refine aw_if_ne (tgt := 9) eX12_sum_4 (by decide) bt_r (fun hh => have h36 := bt1 hh; ?_) (fun hh => have h36 := bt0 hh; ?_)
          · first
            | (exfalso; omega; done)
            | (refine aw_blk oX12_sum_9 (pc' := 12) (ls' := [_, _, _, _, _]) (st' := [_, _, _]) (cs := []) rfl trivial ?_
               refine aw_ciS (rest := []) (c_X12_in (by omega) (by omega) (by omega)) kX12_in eX12_sum_12 lX12_sum_12 rfl rfl (Nat.le_of_ble_eq_true rfl) ⟨Nat.le_of_ble_eq_true rfl, Nat.le_of_ble_eq_true rfl⟩ ⟨Nat.le_refl _, Nat.le_refl _⟩ ?_
               refine aw_if_ne (tgt := 21) eX12_sum_15 (by decide) bt_r (fun hh => have h37 := bt1 hh; ?_) (fun hh => have h37 := bt0 hh; ?_)
               · first
                 | (exfalso; omega; done)
                 | (refine aw_blk oX12_sum_21 (pc' := 26) (ls' := [_, _, _, _, _]) (st' := []) (cs := []) rfl trivial ?_
                    exact hm)
               · first
                 | (exfalso; omega; done)
                 | (refine aw_blk oX12_sum_18 (pc' := 20) (ls' := [_, _, _, _, _]) (st' := [_]) (cs := []) rfl trivial ?_
                    refine aw_iret eX12_sum_20 rfl (Nat.le_refl _) (Nat.le_refl _) ?_
                    exact pe_i rfl rfl rfl))
          · first
            | (exfalso; omega; done)
            | (refine aw_blk oX12_sum_7 (pc' := 8) (ls' := [_, _, _, _, _]) (st' := [_]) (cs := []) rfl trivial ?_
               refine aw_iret eX12_sum_8 rfl (Nat.le_refl _) (Nat.le_refl _) ?_
               exact pe_i rfl rfl rfl)
    · refine ⟨-2, μ, μ, ?_, ?_, by decide, h, SR.rf⟩
      · refine AMet.of kX11_sum.1 (Nat.le_of_ble_eq_true rfl) rfl ?_
        refine aw_blk oX11_sum_0 (pc' := 3) (ls' := [_, _, _]) (st' := [_, _, _]) (cs := []) rfl trivial ?_
        refine aw_ciS (rest := []) (c_X11_between (by omega) (by omega) (by omega)) kX11_between eX11_sum_3 lX11_sum_3 rfl rfl (Nat.le_of_ble_eq_true rfl) ⟨Nat.le_of_ble_eq_true rfl, Nat.le_of_ble_eq_true rfl⟩ ⟨Nat.le_refl _, Nat.le_refl _⟩ ?_
        refine aw_if_ne (tgt := 11) eX11_sum_6 (by decide) bt_r (fun hh => have h38 := bt1 hh; ?_) (fun hh => have h38 := bt0 hh; ?_)
        · first
          | (exfalso; omega; done)
          | (refine aw_blk oX11_sum_11 (pc' := 14) (ls' := [_, _, _]) (st' := [_, _, _]) (cs := []) rfl trivial ?_
             refine aw_ciS (rest := []) (c_X11_between (by omega) (by omega) (by omega)) kX11_between eX11_sum_14 lX11_sum_14 rfl rfl (Nat.le_of_ble_eq_true rfl) ⟨Nat.le_of_ble_eq_true rfl, Nat.le_of_ble_eq_true rfl⟩ ⟨Nat.le_refl _, Nat.le_refl _⟩ ?_
             refine aw_if_ne (tgt := 23) eX11_sum_17 (by decide) bt_r (fun hh => have h39 := bt1 hh; ?_) (fun hh => have h39 := bt0 hh; ?_)
             · first
               | (exfalso; omega; done)
               | (refine aw_blk oX11_sum_23 (pc' := 24) (ls' := [_, _, _]) (st' := [_]) (cs := []) rfl trivial ?_
                  refine aw_if_ne (tgt := 38) eX11_sum_24 (by decide) (by omega) (fun h40 => ?_) (fun h40 => ?_)
                  · first
                    | (exfalso; omega; done)
                    | (refine aw_blk oX11_sum_38 (pc' := 43) (ls' := [_, _, _]) (st' := [_, _]) (cs := []) rfl trivial ?_
                       refine aw_ciV (rest := []) (c_placeSum (by omega)) kX4_placeSum eX11_sum_43 lX11_sum_43 rfl rfl rfl rfl (Nat.le_of_ble_eq_true rfl) ⟨Nat.le_of_ble_eq_true rfl, Nat.le_of_ble_eq_true rfl⟩ ⟨Nat.le_refl _, Nat.le_refl _⟩ ?_
                       refine aw_iret eX11_sum_46 rfl (Nat.le_refl _) (Nat.le_refl _) ?_
                       exact pe_i rfl rfl rfl)
                  · first
                    | (exfalso; omega; done)
                    | (refine aw_blk oX11_sum_27 (pc' := 32) (ls' := [_, _, _]) (st' := [_, _]) (cs := []) rfl trivial ?_
                       refine aw_ciV (rest := []) (c_plainSum (by omega)) kX4_plainSum eX11_sum_32 lX11_sum_32 rfl rfl rfl rfl (Nat.le_of_ble_eq_true rfl) ⟨Nat.le_of_ble_eq_true rfl, Nat.le_of_ble_eq_true rfl⟩ ⟨Nat.le_refl _, Nat.le_refl _⟩ ?_
                       refine aw_blk oX11_sum_35 (pc' := 46) (ls' := [_, _, _]) (st' := [_]) (cs := []) rfl trivial ?_
                       refine aw_iret eX11_sum_46 rfl (Nat.le_refl _) (Nat.le_refl _) ?_
                       exact pe_i rfl rfl rfl))
             · first
               | (exfalso; omega; done)
               | (refine aw_blk oX11_sum_20 (pc' := 22) (ls' := [_, _, _]) (st' := [_]) (cs := []) rfl trivial ?_
                  refine aw_iret eX11_sum_22 rfl (Nat.le_refl _) (Nat.le_refl _) ?_
                  exact pe_i rfl rfl rfl))
        · first
          | (exfalso; omega; done)
          | (refine aw_blk oX11_sum_9 (pc' := 10) (ls' := [_, _, _]) (st' := [_]) (cs := []) rfl trivial ?_
             refine aw_iret eX11_sum_10 rfl (Nat.le_refl _) (Nat.le_refl _) ?_
             exact pe_i rfl rfl rfl)
      · refine AMet.of kX12_sum.1 (Nat.le_of_ble_eq_true rfl) rfl ?_
        refine aw_blk oX12_sum_0 (pc' := 1) (ls' := [_, _, _, _, _]) (st' := [_]) (cs := []) rfl trivial ?_
        refine aw_ciS (rest := []) (c_X12_isGroup (by omega)) kX12_isGroup eX12_sum_1 lX12_sum_1 rfl rfl (Nat.le_of_ble_eq_true rfl) ⟨Nat.le_of_ble_eq_true rfl, Nat.le_of_ble_eq_true rfl⟩ ⟨Nat.le_refl _, Nat.le_refl _⟩ ?_
        refine aw_if_ne (tgt := 9) eX12_sum_4 (by decide) bt_r (fun hh => have h41 := bt1 hh; ?_) (fun hh => have h41 := bt0 hh; ?_)
        · first
          | (exfalso; omega; done)
          | (refine aw_blk oX12_sum_9 (pc' := 12) (ls' := [_, _, _, _, _]) (st' := [_, _, _]) (cs := []) rfl trivial ?_
             refine aw_ciS (rest := []) (c_X12_in (by omega) (by omega) (by omega)) kX12_in eX12_sum_12 lX12_sum_12 rfl rfl (Nat.le_of_ble_eq_true rfl) ⟨Nat.le_of_ble_eq_true rfl, Nat.le_of_ble_eq_true rfl⟩ ⟨Nat.le_refl _, Nat.le_refl _⟩ ?_
             refine aw_if_ne (tgt := 21) eX12_sum_15 (by decide) bt_r (fun hh => have h42 := bt1 hh; ?_) (fun hh => have h42 := bt0 hh; ?_)
             · first
               | (exfalso; omega; done)
               | (refine aw_blk oX12_sum_21 (pc' := 26) (ls' := [_, _, _, _, _]) (st' := []) (cs := []) rfl trivial ?_
                  skip)
             · first
               | (exfalso; omega; done)
               | (refine aw_blk oX12_sum_18 (pc' := 20) (ls' := [_, _, _, _, _]) (st' := [_]) (cs := []) rfl trivial ?_
                  refine aw_iret eX12_sum_20 rfl (Nat.le_refl _) (Nat.le_refl _) ?_
                  exact pe_i rfl rfl rfl))
        · first
          | (exfalso; omega; done)
          | (refine aw_blk oX12_sum_7 (pc' := 8) (ls' := [_, _, _, _, _]) (st' := [_]) (cs := []) rfl trivial ?_
             refine aw_iret eX12_sum_8 rfl (Nat.le_refl _) (Nat.le_refl _) ?_
             exact pe_i rfl rfl rfl)
  · refine ⟨-1, μ, μ, ?_, ?_, by decide, h, SR.rf⟩
    · refine AMet.of kX11_sum.1 (Nat.le_of_ble_eq_true rfl) rfl ?_
      refine aw_blk oX11_sum_0 (pc' := 3) (ls' := [_, _, _]) (st' := [_, _, _]) (cs := []) rfl trivial ?_
      refine aw_ciS (rest := []) (c_X11_between (by omega) (by omega) (by omega)) kX11_between eX11_sum_3 lX11_sum_3 rfl rfl (Nat.le_of_ble_eq_true rfl) ⟨Nat.le_of_ble_eq_true rfl, Nat.le_of_ble_eq_true rfl⟩ ⟨Nat.le_refl _, Nat.le_refl _⟩ ?_
      refine aw_if_ne (tgt := 11) eX11_sum_6 (by decide) bt_r (fun hh => have h43 := bt1 hh; ?_) (fun hh => have h43 := bt0 hh; ?_)
      · first
        | (exfalso; omega; done)
        | (refine aw_blk oX11_sum_11 (pc' := 14) (ls' := [_, _, _]) (st' := [_, _, _]) (cs := []) rfl trivial ?_
           refine aw_ciS (rest := []) (c_X11_between (by omega) (by omega) (by omega)) kX11_between eX11_sum_14 lX11_sum_14 rfl rfl (Nat.le_of_ble_eq_true rfl) ⟨Nat.le_of_ble_eq_true rfl, Nat.le_of_ble_eq_true rfl⟩ ⟨Nat.le_refl _, Nat.le_refl _⟩ ?_
           refine aw_if_ne (tgt := 23) eX11_sum_17 (by decide) bt_r (fun hh => have h44 := bt1 hh; ?_) (fun hh => have h44 := bt0 hh; ?_)
           · first
             | (exfalso; omega; done)
             | (refine aw_blk oX11_sum_23 (pc' := 24) (ls' := [_, _, _]) (st' := [_]) (cs := []) rfl trivial ?_
                refine aw_if_ne (tgt := 38) eX11_sum_24 (by decide) (by omega) (fun h45 => ?_) (fun h45 => ?_)
                · first
                  | (exfalso; omega; done)
                  | (refine aw_blk oX11_sum_38 (pc' := 43) (ls' := [_, _, _]) (st' := [_, _]) (cs := []) rfl trivial ?_
                     refine aw_ciV (rest := []) (c_placeSum (by omega)) kX4_placeSum eX11_sum_43 lX11_sum_43 rfl rfl rfl rfl (Nat.le_of_ble_eq_true rfl) ⟨Nat.le_of_ble_eq_true rfl, Nat.le_of_ble_eq_true rfl⟩ ⟨Nat.le_refl _, Nat.le_refl _⟩ ?_
                     refine aw_iret eX11_sum_46 rfl (Nat.le_refl _) (Nat.le_refl _) ?_
                     exact pe_i rfl rfl rfl)
                · first
                  | (exfalso; omega; done)
                  | (refine aw_blk oX11_sum_27 (pc' := 32) (ls' := [_, _, _]) (st' := [_, _]) (cs := []) rfl trivial ?_
                     refine aw_ciV (rest := []) (c_plainSum (by omega)) kX4_plainSum eX11_sum_32 lX11_sum_32 rfl rfl rfl rfl (Nat.le_of_ble_eq_true rfl) ⟨Nat.le_of_ble_eq_true rfl, Nat.le_of_ble_eq_true rfl⟩ ⟨Nat.le_refl _, Nat.le_refl _⟩ ?_
                     refine aw_blk oX11_sum_35 (pc' := 46) (ls' := [_, _, _]) (st' := [_]) (cs := []) rfl trivial ?_
                     refine aw_iret eX11_sum_46 rfl (Nat.le_refl _) (Nat.le_refl _) ?_
                     exact pe_i rfl rfl rfl))
           · first
             | (exfalso; omega; done)
             | (refine aw_blk oX11_sum_20 (pc' := 22) (ls' := [_, _, _]) (st' := [_]) (cs := []) rfl trivial ?_
                refine aw_iret eX11_sum_22 rfl (Nat.le_refl _) (Nat.le_refl _) ?_
                exact pe_i rfl rfl rfl))
      · first
        | (exfalso; omega; done)
        | (refine aw_blk oX11_sum_9 (pc' := 10) (ls' := [_, _, _]) (st' := [_]) (cs := []) rfl trivial ?_
           refine aw_iret eX11_sum_10 rfl (Nat.le_refl _) (Nat.le_refl _) ?_
           exact pe_i rfl rfl rfl)
    · refine AMet.of kX12_sum.1 (Nat.le_of_ble_eq_true rfl) rfl ?_
      refine aw_blk oX12_sum_0 (pc' := 1) (ls' := [_, _, _, _, _]) (st' := [_]) (cs := []) rfl trivial ?_
      refine aw_ciS (rest := []) (c_X12_isGroup (by omega)) kX12_isGroup eX12_sum_1 lX12_sum_1 rfl rfl (Nat.le_of_ble_eq_true rfl) ⟨Nat.le_of_ble_eq_true rfl, Nat.le_of_ble_eq_true rfl⟩ ⟨Nat.le_refl _, Nat.le_refl _⟩ ?_
      refine aw_if_ne (tgt := 9) eX12_sum_4 (by decide) bt_r (fun hh => have h46 := bt1 hh; ?_) (fun hh => have h46 := bt0 hh; ?_)
      · first
        | (exfalso; omega; done)
        | (refine aw_blk oX12_sum_9 (pc' := 12) (ls' := [_, _, _, _, _]) (st' := [_, _, _]) (cs := []) rfl trivial ?_
           refine aw_ciS (rest := []) (c_X12_in (by omega) (by omega) (by omega)) kX12_in eX12_sum_12 lX12_sum_12 rfl rfl (Nat.le_of_ble_eq_true rfl) ⟨Nat.le_of_ble_eq_true rfl, Nat.le_of_ble_eq_true rfl⟩ ⟨Nat.le_refl _, Nat.le_refl _⟩ ?_
           refine aw_if_ne (tgt := 21) eX12_sum_15 (by decide) bt_r (fun hh => have h47 := bt1 hh; ?_) (fun hh => have h47 := bt0 hh; ?_)
           · first
             | (exfalso; omega; done)
             | (refine aw_blk oX12_sum_21 (pc' := 26) (ls' := [_, _, _, _, _]) (st' := []) (cs := []) rfl trivial ?_
                skip)
           · first
             | (exfalso; omega; done)
             | (refine aw_blk oX12_sum_18 (pc' := 20) (ls' := [_, _, _, _, _]) (st' := [_]) (cs := []) rfl trivial ?_
                refine aw_iret eX12_sum_20 rfl (Nat.le_refl _) (Nat.le_refl _) ?_
                exact pe_i rfl rfl rfl))
      · first
        | (exfalso; omega; done)
        | (refine aw_blk oX12_sum_7 (pc' := 8) (ls' := [_, _, _, _, _]) (st' := [_]) (cs := []) rfl trivial ?_
           refine aw_iret eX12_sum_8 rfl (Nat.le_refl _) (Nat.le_refl _) ?_
           exact pe_i rfl rfl rfl)
theorem l_X12_restore {κ : KX} {μ : MM} {ν : ML} {g l i : Int} (hg : 0 ≤ g ∧ g < 4) (hl : 0 ≤ l ∧ l < 256) (hi : 0 ≤ i ∧ i < 6) (n : Nat) : ∀ k : Nat, k + n = 6 → AX κ mX12_restore 60 (PE (some (aI (if sm (fun k => bitk l k) 6 ≤ 2 - bitk l 6 - bitk l 7 then μ 72 (6 * g + i) else -6))) μ ν) 49 [aR 55, aI g, aI l, aI i, aI (sm (fun k => bitk l k) k), aI k] [] μ ν := by
  have b6 := bitk_bd l 6
  have b7 := bitk_bd l 7
  have bs := sm_bd (g := fun k => bitk l k) (B := 1) 6 (fun k hk => bitk_bd l k)
  induction n with
  | zero =>
    intro k hk
    have e : k = 6 := by omega
    subst e
    refine aw_blk oX12_restore_49 (pc' := 53) (ls' := [_, _, _, _, _, _]) (st' := [_, _]) (cs := []) rfl trivial ?_
    refine aw_icmp_ge (tgt := 73) eX12_restore_53 (by decide) (by omega) (by omega) (fun h => ?_) (fun h => ?_)
    · refine aw_blk oX12_restore_73 (pc' := 94) (ls' := [_, _, _, _, _, _]) (st' := [_, _]) (cs := []) rfl trivial ?_
      refine aw_icmp_gt (tgt := 111) eX12_restore_94 (by decide) (by first | exact (show R32 (sm (fun k => bitk l k) 6) by omega) | exact (show R32 (2 - bitk l 6 - bitk l 7) by omega)) (by first | exact (show R32 (sm (fun k => bitk l k) 6) by omega) | exact (show R32 (2 - bitk l 6 - bitk l 7) by omega)) (fun h2 => ?_) (fun h2 => ?_)
      · refine aw_blk oX12_restore_111 (pc' := 113) (ls' := [_, _, _, _, _, _]) (st' := [_]) (cs := []) rfl trivial ?_
        refine aw_iret eX12_restore_113 rfl (Nat.le_refl _) (Nat.le_refl _) ?_
        have h2 : 2 - bitk l 6 - bitk l 7 < sm (fun k => bitk l k) 6 := h2
        exact pe_i (by rw [if_neg (by omega)]) rfl rfl
      · refine aw_blk oX12_restore_97 (pc' := 113) (ls' := [_, _, _, _, _, _]) (st' := [_]) (cs := [(_, _)]) rfl (⟨⟨by omega, by omega⟩, trivial⟩) ?_
        refine aw_iret eX12_restore_113 rfl (Nat.le_refl _) (Nat.le_refl _) ?_
        have h2 : ¬ 2 - bitk l 6 - bitk l 7 < sm (fun k => bitk l k) 6 := h2
        exact pe_i (by rw [if_pos (by omega)]) rfl rfl
    · exfalso; omega
  | succ n ih =>
    intro k hk
    refine aw_blk oX12_restore_49 (pc' := 53) (ls' := [_, _, _, _, _, _]) (st' := [_, _]) (cs := []) rfl trivial ?_
    refine aw_icmp_ge (tgt := 73) eX12_restore_53 (by decide) (by omega) (by omega) (fun h => ?_) (fun h => ?_)
    · exfalso; omega
    · refine aw_blk oX12_restore_56 (pc' := 49) (ls' := [_, _, _, _, _, _]) (st' := []) (cs := []) rfl trivial ?_
      exact ih (k + 1) (by omega)
theorem law_restore {κ : KX} {μ : MM} {ν : ML} {t l i : Int} (h : RG μ) (ht : R32 t) (hl : R32 l) (hi : R32 i) : LawM RG csG κ mX11_restore mX12_restore [aI t, aI l, aI i] μ ν := by
  by_cases c1 : 0 ≤ t ∧ t ≤ 3
  · by_cases c2 : (0 ≤ l ∧ l ≤ 255) ∧ (0 ≤ i ∧ i ≤ 5)
    · have g1 := h (t * 6 + i) (by omega) (by omega)
      have e : 6 * t + i = t * 6 + i := by omega
      by_cases c3 : bitk l i = 0
      · refine ⟨-5, μ, μ, ?_, ?_, by decide, h, SR.rf⟩
        · skip
          refine AMet.of kX11_restore.1 (Nat.le_of_ble_eq_true rfl) rfl ?_
          refine aw_blk oX11_restore_0 (pc' := 3) (ls' := [_, _, _, _]) (st' := [_, _, _]) (cs := []) rfl trivial ?_
          refine aw_ciS (rest := []) (c_X11_between (by first | omega | exact bitk_R _ _ | exact rst_R) (by first | omega | exact bitk_R _ _ | exact rst_R) (by first | omega | exact bitk_R _ _ | exact rst_R)) kX11_between eX11_restore_3 lX11_restore_3 rfl rfl (Nat.le_of_ble_eq_true rfl) ⟨Nat.le_of_ble_eq_true rfl, Nat.le_of_ble_eq_true rfl⟩ ⟨Nat.le_refl _, Nat.le_refl _⟩ ?_
          refine aw_if_ne (tgt := 11) eX11_restore_6 (by decide) bt_r (fun hh => have h48 := bt1 hh; ?_) (fun hh => have h48 := bt0 hh; ?_)
          · first
            | (exfalso; first | omega | exact absurd c3 (by assumption); done)
            | (refine aw_blk oX11_restore_11 (pc' := 16) (ls' := [_, _, _, _]) (st' := [_, _, _]) (cs := []) rfl trivial ?_
               refine aw_ciS (rest := []) (c_X11_between (by first | omega | exact bitk_R _ _ | exact rst_R) (by first | omega | exact bitk_R _ _ | exact rst_R) (by first | omega | exact bitk_R _ _ | exact rst_R)) kX11_between eX11_restore_16 lX11_restore_16 rfl rfl (Nat.le_of_ble_eq_true rfl) ⟨Nat.le_of_ble_eq_true rfl, Nat.le_of_ble_eq_true rfl⟩ ⟨Nat.le_refl _, Nat.le_refl _⟩ ?_
               refine aw_if_eq (tgt := 31) eX11_restore_19 (by decide) bt_r (fun hh => have h49 := bt0 hh; ?_) (fun hh => have h49 := bt1 hh; ?_)
               · first
                 | (exfalso; first | omega | exact absurd c3 (by assumption); done)
                 | (refine aw_blk oX11_restore_31 (pc' := 33) (ls' := [_, _, _, _]) (st' := [_]) (cs := []) rfl trivial ?_
                    refine aw_iret eX11_restore_33 rfl (Nat.le_refl _) (Nat.le_refl _) ?_
                    exact pe_i rfl rfl rfl)
               · first
                 | (exfalso; first | omega | exact absurd c3 (by assumption); done)
                 | (refine aw_blk oX11_restore_22 (pc' := 25) (ls' := [_, _, _, _]) (st' := [_, _, _]) (cs := []) rfl trivial ?_
                    refine aw_ciS (rest := []) (c_X11_between (by first | omega | exact bitk_R _ _ | exact rst_R) (by first | omega | exact bitk_R _ _ | exact rst_R) (by first | omega | exact bitk_R _ _ | exact rst_R)) kX11_between eX11_restore_25 lX11_restore_25 rfl rfl (Nat.le_of_ble_eq_true rfl) ⟨Nat.le_of_ble_eq_true rfl, Nat.le_of_ble_eq_true rfl⟩ ⟨Nat.le_refl _, Nat.le_refl _⟩ ?_
                    refine aw_if_ne (tgt := 34) eX11_restore_28 (by decide) bt_r (fun hh => have h50 := bt1 hh; ?_) (fun hh => have h50 := bt0 hh; ?_)
                    · first
                      | (exfalso; first | omega | exact absurd c3 (by assumption); done)
                      | (refine aw_blk oX11_restore_34 (pc' := 39) (ls' := [_, _, _, _]) (st' := [_]) (cs := []) rfl trivial ?_
                         refine aw_if_ne (tgt := 45) eX11_restore_39 (by decide) (by first | omega | exact bitk_R _ _ | exact rst_R) (fun h51 => ?_) (fun h51 => ?_)
                         · first
                           | (exfalso; first | omega | exact absurd c3 (by assumption); done)
                           | (refine aw_blk oX11_restore_45 (pc' := 46) (ls' := [_, _, _, _]) (st' := [_]) (cs := []) rfl trivial ?_
                              refine aw_ciS (rest := []) (c_restorable (by omega)) kX4_restorable eX11_restore_46 lX11_restore_46 rfl rfl (Nat.le_of_ble_eq_true rfl) ⟨Nat.le_of_ble_eq_true rfl, Nat.le_of_ble_eq_true rfl⟩ ⟨Nat.le_refl _, Nat.le_refl _⟩ ?_
                              refine aw_if_eq (tgt := 64) eX11_restore_49 (by decide) (by first | omega | exact bitk_R _ _ | exact rst_R) (fun h52 => ?_) (fun h52 => ?_)
                              · first
                                | (exfalso; first | omega | exact absurd c3 (by assumption); done)
                                | (refine aw_blk oX11_restore_64 (pc' := 66) (ls' := [_, _, _, _]) (st' := [_]) (cs := []) rfl trivial ?_
                                   refine aw_iret eX11_restore_66 rfl (Nat.le_refl _) (Nat.le_refl _) ?_
                                   exact pe_i rfl rfl rfl)
                              · first
                                | (exfalso; first | omega | exact absurd c3 (by assumption); done)
                                | (refine aw_blk oX11_restore_52 (pc' := 58) (ls' := [_, _, _, _]) (st' := [_, _, _]) (cs := []) rfl trivial ?_
                                   refine aw_ciV (rest := []) (c_numberAt (by omega) (by omega)) kX4_numberAt eX11_restore_58 lX11_restore_58 rfl rfl rfl rfl (Nat.le_of_ble_eq_true rfl) ⟨Nat.le_of_ble_eq_true rfl, Nat.le_of_ble_eq_true rfl⟩ ⟨Nat.le_refl _, Nat.le_refl _⟩ ?_
                                   refine aw_blk oX11_restore_61 (pc' := 66) (ls' := [_, _, _, _]) (st' := [_]) (cs := []) rfl trivial ?_
                                   refine aw_iret eX11_restore_66 rfl (Nat.le_refl _) (Nat.le_refl _) ?_
                                   exact pe_i rfl rfl rfl))
                         · first
                           | (exfalso; first | omega | exact absurd c3 (by assumption); done)
                           | (refine aw_blk oX11_restore_42 (pc' := 44) (ls' := [_, _, _, _]) (st' := [_]) (cs := []) rfl trivial ?_
                              refine aw_iret eX11_restore_44 rfl (Nat.le_refl _) (Nat.le_refl _) ?_
                              exact pe_i rfl rfl rfl))
                    · first
                      | (exfalso; first | omega | exact absurd c3 (by assumption); done)
                      | (refine aw_blk oX11_restore_31 (pc' := 33) (ls' := [_, _, _, _]) (st' := [_]) (cs := []) rfl trivial ?_
                         refine aw_iret eX11_restore_33 rfl (Nat.le_refl _) (Nat.le_refl _) ?_
                         exact pe_i rfl rfl rfl)))
          · first
            | (exfalso; first | omega | exact absurd c3 (by assumption); done)
            | (refine aw_blk oX11_restore_9 (pc' := 10) (ls' := [_, _, _, _]) (st' := [_]) (cs := []) rfl trivial ?_
               refine aw_iret eX11_restore_10 rfl (Nat.le_refl _) (Nat.le_refl _) ?_
               exact pe_i rfl rfl rfl)
        · skip
          refine AMet.of kX12_restore.1 (Nat.le_of_ble_eq_true rfl) rfl ?_
          refine aw_blk oX12_restore_0 (pc' := 1) (ls' := [_, _, _, _, _, _]) (st' := [_]) (cs := []) rfl trivial ?_
          refine aw_ciS (rest := []) (c_X12_isGroup (by first | omega | exact bitk_R _ _)) kX12_isGroup eX12_restore_1 lX12_restore_1 rfl rfl (Nat.le_of_ble_eq_true rfl) ⟨Nat.le_of_ble_eq_true rfl, Nat.le_of_ble_eq_true rfl⟩ ⟨Nat.le_refl _, Nat.le_refl _⟩ ?_
          refine aw_if_ne (tgt := 9) eX12_restore_4 (by decide) bt_r (fun hh => have h53 := bt1 hh; ?_) (fun hh => have h53 := bt0 hh; ?_)
          · first
            | (exfalso; first | omega | exact absurd c3 (by assumption); done)
            | (refine aw_blk oX12_restore_9 (pc' := 14) (ls' := [_, _, _, _, _, _]) (st' := [_, _, _]) (cs := []) rfl trivial ?_
               refine aw_ciS (rest := []) (c_X12_in (by first | omega | exact bitk_R _ _) (by first | omega | exact bitk_R _ _) (by first | omega | exact bitk_R _ _)) kX12_in eX12_restore_14 lX12_restore_14 rfl rfl (Nat.le_of_ble_eq_true rfl) ⟨Nat.le_of_ble_eq_true rfl, Nat.le_of_ble_eq_true rfl⟩ ⟨Nat.le_refl _, Nat.le_refl _⟩ ?_
               refine aw_if_eq (tgt := 29) eX12_restore_17 (by decide) bt_r (fun hh => have h54 := bt0 hh; ?_) (fun hh => have h54 := bt1 hh; ?_)
               · first
                 | (exfalso; first | omega | exact absurd c3 (by assumption); done)
                 | (refine aw_blk oX12_restore_29 (pc' := 31) (ls' := [_, _, _, _, _, _]) (st' := [_]) (cs := []) rfl trivial ?_
                    refine aw_iret eX12_restore_31 rfl (Nat.le_refl _) (Nat.le_refl _) ?_
                    exact pe_i rfl rfl rfl)
               · first
                 | (exfalso; first | omega | exact absurd c3 (by assumption); done)
                 | (refine aw_blk oX12_restore_20 (pc' := 23) (ls' := [_, _, _, _, _, _]) (st' := [_, _, _]) (cs := []) rfl trivial ?_
                    refine aw_ciS (rest := []) (c_X12_in (by first | omega | exact bitk_R _ _) (by first | omega | exact bitk_R _ _) (by first | omega | exact bitk_R _ _)) kX12_in eX12_restore_23 lX12_restore_23 rfl rfl (Nat.le_of_ble_eq_true rfl) ⟨Nat.le_of_ble_eq_true rfl, Nat.le_of_ble_eq_true rfl⟩ ⟨Nat.le_refl _, Nat.le_refl _⟩ ?_
                    refine aw_if_ne (tgt := 32) eX12_restore_26 (by decide) bt_r (fun hh => have h55 := bt1 hh; ?_) (fun hh => have h55 := bt0 hh; ?_)
                    · first
                      | (exfalso; first | omega | exact absurd c3 (by assumption); done)
                      | (refine aw_blk oX12_restore_32 (pc' := 37) (ls' := [_, _, _, _, _, _]) (st' := [_]) (cs := []) rfl trivial ?_
                         refine aw_if_ne (tgt := 43) eX12_restore_37 (by decide) (by first | omega | exact bitk_R _ _) (fun h56 => ?_) (fun h56 => ?_)
                         · first
                           | (exfalso; first | omega | exact absurd c3 (by assumption); done)
                           | (refine aw_blk oX12_restore_43 (pc' := 49) (ls' := [_, _, _, _, _, _]) (st' := []) (cs := []) rfl trivial ?_
                              skip)
                         · first
                           | (exfalso; first | omega | exact absurd c3 (by assumption); done)
                           | (refine aw_blk oX12_restore_40 (pc' := 42) (ls' := [_, _, _, _, _, _]) (st' := [_]) (cs := []) rfl trivial ?_
                              refine aw_iret eX12_restore_42 rfl (Nat.le_refl _) (Nat.le_refl _) ?_
                              exact pe_i rfl rfl rfl))
                    · first
                      | (exfalso; first | omega | exact absurd c3 (by assumption); done)
                      | (refine aw_blk oX12_restore_29 (pc' := 31) (ls' := [_, _, _, _, _, _]) (st' := [_]) (cs := []) rfl trivial ?_
                         refine aw_iret eX12_restore_31 rfl (Nat.le_refl _) (Nat.le_refl _) ?_
                         exact pe_i rfl rfl rfl)))
          · first
            | (exfalso; first | omega | exact absurd c3 (by assumption); done)
            | (refine aw_blk oX12_restore_7 (pc' := 8) (ls' := [_, _, _, _, _, _]) (st' := [_]) (cs := []) rfl trivial ?_
               refine aw_iret eX12_restore_8 rfl (Nat.le_refl _) (Nat.le_refl _) ?_
               exact pe_i rfl rfl rfl)
      · have hm := l_X12_restore (κ := κ) (μ := μ) (ν := ν) (g := t) (l := l) (i := i) (by omega) (by omega) (by omega) 6 0 rfl
        have hj := (rst_all l.toNat (by omega)).1
        rw [show ((l.toNat : Nat) : Int) = l by omega] at hj
        have er : (if sm (fun k => bitk l k) 6 ≤ 2 - bitk l 6 - bitk l 7 then μ 72 (6 * t + i) else -6) = if rst l = 0 then -6 else μ 50 (t * 6 + i) := by
          rw [e, g1.1]
          unfold rst
          by_cases q : bitC (bAnd l 63) ≤ 2 - bitC (bAnd (bShr l 6) 3)
          · rw [if_pos (hj.mp q), if_pos q]; rfl
          · rw [if_neg (fun z => q (hj.mpr z)), if_neg q]; rfl
        rw [er] at hm
        refine ⟨if rst l = 0 then -6 else μ 50 (t * 6 + i), μ, μ, ?_, ?_, by split <;> omega, h, SR.rf⟩
        · skip
          refine AMet.of kX11_restore.1 (Nat.le_of_ble_eq_true rfl) rfl ?_
          refine aw_blk oX11_restore_0 (pc' := 3) (ls' := [_, _, _, _]) (st' := [_, _, _]) (cs := []) rfl trivial ?_
          refine aw_ciS (rest := []) (c_X11_between (by first | omega | exact bitk_R _ _ | exact rst_R) (by first | omega | exact bitk_R _ _ | exact rst_R) (by first | omega | exact bitk_R _ _ | exact rst_R)) kX11_between eX11_restore_3 lX11_restore_3 rfl rfl (Nat.le_of_ble_eq_true rfl) ⟨Nat.le_of_ble_eq_true rfl, Nat.le_of_ble_eq_true rfl⟩ ⟨Nat.le_refl _, Nat.le_refl _⟩ ?_
          refine aw_if_ne (tgt := 11) eX11_restore_6 (by decide) bt_r (fun hh => have h57 := bt1 hh; ?_) (fun hh => have h57 := bt0 hh; ?_)
          · first
            | (exfalso; first | omega | exact absurd (by assumption) c3; done)
            | (refine aw_blk oX11_restore_11 (pc' := 16) (ls' := [_, _, _, _]) (st' := [_, _, _]) (cs := []) rfl trivial ?_
               refine aw_ciS (rest := []) (c_X11_between (by first | omega | exact bitk_R _ _ | exact rst_R) (by first | omega | exact bitk_R _ _ | exact rst_R) (by first | omega | exact bitk_R _ _ | exact rst_R)) kX11_between eX11_restore_16 lX11_restore_16 rfl rfl (Nat.le_of_ble_eq_true rfl) ⟨Nat.le_of_ble_eq_true rfl, Nat.le_of_ble_eq_true rfl⟩ ⟨Nat.le_refl _, Nat.le_refl _⟩ ?_
               refine aw_if_eq (tgt := 31) eX11_restore_19 (by decide) bt_r (fun hh => have h58 := bt0 hh; ?_) (fun hh => have h58 := bt1 hh; ?_)
               · first
                 | (exfalso; first | omega | exact absurd (by assumption) c3; done)
                 | (refine aw_blk oX11_restore_31 (pc' := 33) (ls' := [_, _, _, _]) (st' := [_]) (cs := []) rfl trivial ?_
                    refine aw_iret eX11_restore_33 rfl (Nat.le_refl _) (Nat.le_refl _) ?_
                    exact pe_i (by first | (rw [if_pos (by assumption)]) | (rw [if_neg (by assumption)])) rfl rfl)
               · first
                 | (exfalso; first | omega | exact absurd (by assumption) c3; done)
                 | (refine aw_blk oX11_restore_22 (pc' := 25) (ls' := [_, _, _, _]) (st' := [_, _, _]) (cs := []) rfl trivial ?_
                    refine aw_ciS (rest := []) (c_X11_between (by first | omega | exact bitk_R _ _ | exact rst_R) (by first | omega | exact bitk_R _ _ | exact rst_R) (by first | omega | exact bitk_R _ _ | exact rst_R)) kX11_between eX11_restore_25 lX11_restore_25 rfl rfl (Nat.le_of_ble_eq_true rfl) ⟨Nat.le_of_ble_eq_true rfl, Nat.le_of_ble_eq_true rfl⟩ ⟨Nat.le_refl _, Nat.le_refl _⟩ ?_
                    refine aw_if_ne (tgt := 34) eX11_restore_28 (by decide) bt_r (fun hh => have h59 := bt1 hh; ?_) (fun hh => have h59 := bt0 hh; ?_)
                    · first
                      | (exfalso; first | omega | exact absurd (by assumption) c3; done)
                      | (refine aw_blk oX11_restore_34 (pc' := 39) (ls' := [_, _, _, _]) (st' := [_]) (cs := []) rfl trivial ?_
                         refine aw_if_ne (tgt := 45) eX11_restore_39 (by decide) (by first | omega | exact bitk_R _ _ | exact rst_R) (fun h60 => ?_) (fun h60 => ?_)
                         · first
                           | (exfalso; first | omega | exact absurd (by assumption) c3; done)
                           | (refine aw_blk oX11_restore_45 (pc' := 46) (ls' := [_, _, _, _]) (st' := [_]) (cs := []) rfl trivial ?_
                              refine aw_ciS (rest := []) (c_restorable (by omega)) kX4_restorable eX11_restore_46 lX11_restore_46 rfl rfl (Nat.le_of_ble_eq_true rfl) ⟨Nat.le_of_ble_eq_true rfl, Nat.le_of_ble_eq_true rfl⟩ ⟨Nat.le_refl _, Nat.le_refl _⟩ ?_
                              refine aw_if_eq (tgt := 64) eX11_restore_49 (by decide) (by first | omega | exact bitk_R _ _ | exact rst_R) (fun h61 => ?_) (fun h61 => ?_)
                              · first
                                | (exfalso; first | omega | exact absurd (by assumption) c3; done)
                                | (refine aw_blk oX11_restore_64 (pc' := 66) (ls' := [_, _, _, _]) (st' := [_]) (cs := []) rfl trivial ?_
                                   refine aw_iret eX11_restore_66 rfl (Nat.le_refl _) (Nat.le_refl _) ?_
                                   exact pe_i (by first | (rw [if_pos (by assumption)]) | (rw [if_neg (by assumption)])) rfl rfl)
                              · first
                                | (exfalso; first | omega | exact absurd (by assumption) c3; done)
                                | (refine aw_blk oX11_restore_52 (pc' := 58) (ls' := [_, _, _, _]) (st' := [_, _, _]) (cs := []) rfl trivial ?_
                                   refine aw_ciV (rest := []) (c_numberAt (by omega) (by omega)) kX4_numberAt eX11_restore_58 lX11_restore_58 rfl rfl rfl rfl (Nat.le_of_ble_eq_true rfl) ⟨Nat.le_of_ble_eq_true rfl, Nat.le_of_ble_eq_true rfl⟩ ⟨Nat.le_refl _, Nat.le_refl _⟩ ?_
                                   refine aw_blk oX11_restore_61 (pc' := 66) (ls' := [_, _, _, _]) (st' := [_]) (cs := []) rfl trivial ?_
                                   refine aw_iret eX11_restore_66 rfl (Nat.le_refl _) (Nat.le_refl _) ?_
                                   exact pe_i (by first | (rw [if_pos (by assumption)]) | (rw [if_neg (by assumption)])) rfl rfl))
                         · first
                           | (exfalso; first | omega | exact absurd (by assumption) c3; done)
                           | (refine aw_blk oX11_restore_42 (pc' := 44) (ls' := [_, _, _, _]) (st' := [_]) (cs := []) rfl trivial ?_
                              refine aw_iret eX11_restore_44 rfl (Nat.le_refl _) (Nat.le_refl _) ?_
                              exact pe_i (by first | (rw [if_pos (by assumption)]) | (rw [if_neg (by assumption)])) rfl rfl))
                    · first
                      | (exfalso; first | omega | exact absurd (by assumption) c3; done)
                      | (refine aw_blk oX11_restore_31 (pc' := 33) (ls' := [_, _, _, _]) (st' := [_]) (cs := []) rfl trivial ?_
                         refine aw_iret eX11_restore_33 rfl (Nat.le_refl _) (Nat.le_refl _) ?_
                         exact pe_i (by first | (rw [if_pos (by assumption)]) | (rw [if_neg (by assumption)])) rfl rfl)))
          · first
            | (exfalso; first | omega | exact absurd (by assumption) c3; done)
            | (refine aw_blk oX11_restore_9 (pc' := 10) (ls' := [_, _, _, _]) (st' := [_]) (cs := []) rfl trivial ?_
               refine aw_iret eX11_restore_10 rfl (Nat.le_refl _) (Nat.le_refl _) ?_
               exact pe_i (by first | (rw [if_pos (by assumption)]) | (rw [if_neg (by assumption)])) rfl rfl)
        · skip
          refine AMet.of kX12_restore.1 (Nat.le_of_ble_eq_true rfl) rfl ?_
          refine aw_blk oX12_restore_0 (pc' := 1) (ls' := [_, _, _, _, _, _]) (st' := [_]) (cs := []) rfl trivial ?_
          refine aw_ciS (rest := []) (c_X12_isGroup (by first | omega | exact bitk_R _ _)) kX12_isGroup eX12_restore_1 lX12_restore_1 rfl rfl (Nat.le_of_ble_eq_true rfl) ⟨Nat.le_of_ble_eq_true rfl, Nat.le_of_ble_eq_true rfl⟩ ⟨Nat.le_refl _, Nat.le_refl _⟩ ?_
          refine aw_if_ne (tgt := 9) eX12_restore_4 (by decide) bt_r (fun hh => have h62 := bt1 hh; ?_) (fun hh => have h62 := bt0 hh; ?_)
          · first
            | (exfalso; first | omega | exact absurd (by assumption) c3; done)
            | (refine aw_blk oX12_restore_9 (pc' := 14) (ls' := [_, _, _, _, _, _]) (st' := [_, _, _]) (cs := []) rfl trivial ?_
               refine aw_ciS (rest := []) (c_X12_in (by first | omega | exact bitk_R _ _) (by first | omega | exact bitk_R _ _) (by first | omega | exact bitk_R _ _)) kX12_in eX12_restore_14 lX12_restore_14 rfl rfl (Nat.le_of_ble_eq_true rfl) ⟨Nat.le_of_ble_eq_true rfl, Nat.le_of_ble_eq_true rfl⟩ ⟨Nat.le_refl _, Nat.le_refl _⟩ ?_
               refine aw_if_eq (tgt := 29) eX12_restore_17 (by decide) bt_r (fun hh => have h63 := bt0 hh; ?_) (fun hh => have h63 := bt1 hh; ?_)
               · first
                 | (exfalso; first | omega | exact absurd (by assumption) c3; done)
                 | (refine aw_blk oX12_restore_29 (pc' := 31) (ls' := [_, _, _, _, _, _]) (st' := [_]) (cs := []) rfl trivial ?_
                    refine aw_iret eX12_restore_31 rfl (Nat.le_refl _) (Nat.le_refl _) ?_
                    skip)
               · first
                 | (exfalso; first | omega | exact absurd (by assumption) c3; done)
                 | (refine aw_blk oX12_restore_20 (pc' := 23) (ls' := [_, _, _, _, _, _]) (st' := [_, _, _]) (cs := []) rfl trivial ?_
                    refine aw_ciS (rest := []) (c_X12_in (by first | omega | exact bitk_R _ _) (by first | omega | exact bitk_R _ _) (by first | omega | exact bitk_R _ _)) kX12_in eX12_restore_23 lX12_restore_23 rfl rfl (Nat.le_of_ble_eq_true rfl) ⟨Nat.le_of_ble_eq_true rfl, Nat.le_of_ble_eq_true rfl⟩ ⟨Nat.le_refl _, Nat.le_refl _⟩ ?_
                    refine aw_if_ne (tgt := 32) eX12_restore_26 (by decide) bt_r (fun hh => have h64 := bt1 hh; ?_) (fun hh => have h64 := bt0 hh; ?_)
                    · first
                      | (exfalso; first | omega | exact absurd (by assumption) c3; done)
                      | (refine aw_blk oX12_restore_32 (pc' := 37) (ls' := [_, _, _, _, _, _]) (st' := [_]) (cs := []) rfl trivial ?_
                         refine aw_if_ne (tgt := 43) eX12_restore_37 (by decide) (by first | omega | exact bitk_R _ _) (fun h65 => ?_) (fun h65 => ?_)
                         · first
                           | (exfalso; first | omega | exact absurd (by assumption) c3; done)
                           | (refine aw_blk oX12_restore_43 (pc' := 49) (ls' := [_, _, _, _, _, _]) (st' := []) (cs := []) rfl trivial ?_
                              exact hm)
                         · first
                           | (exfalso; first | omega | exact absurd (by assumption) c3; done)
                           | (refine aw_blk oX12_restore_40 (pc' := 42) (ls' := [_, _, _, _, _, _]) (st' := [_]) (cs := []) rfl trivial ?_
                              refine aw_iret eX12_restore_42 rfl (Nat.le_refl _) (Nat.le_refl _) ?_
                              skip))
                    · first
                      | (exfalso; first | omega | exact absurd (by assumption) c3; done)
                      | (refine aw_blk oX12_restore_29 (pc' := 31) (ls' := [_, _, _, _, _, _]) (st' := [_]) (cs := []) rfl trivial ?_
                         refine aw_iret eX12_restore_31 rfl (Nat.le_refl _) (Nat.le_refl _) ?_
                         skip)))
          · first
            | (exfalso; first | omega | exact absurd (by assumption) c3; done)
            | (refine aw_blk oX12_restore_7 (pc' := 8) (ls' := [_, _, _, _, _, _]) (st' := [_]) (cs := []) rfl trivial ?_
               refine aw_iret eX12_restore_8 rfl (Nat.le_refl _) (Nat.le_refl _) ?_
               skip)
    · refine ⟨-2, μ, μ, ?_, ?_, by decide, h, SR.rf⟩
      · refine AMet.of kX11_restore.1 (Nat.le_of_ble_eq_true rfl) rfl ?_
        refine aw_blk oX11_restore_0 (pc' := 3) (ls' := [_, _, _, _]) (st' := [_, _, _]) (cs := []) rfl trivial ?_
        refine aw_ciS (rest := []) (c_X11_between (by first | omega | exact bitk_R _ _ | exact rst_R) (by first | omega | exact bitk_R _ _ | exact rst_R) (by first | omega | exact bitk_R _ _ | exact rst_R)) kX11_between eX11_restore_3 lX11_restore_3 rfl rfl (Nat.le_of_ble_eq_true rfl) ⟨Nat.le_of_ble_eq_true rfl, Nat.le_of_ble_eq_true rfl⟩ ⟨Nat.le_refl _, Nat.le_refl _⟩ ?_
        refine aw_if_ne (tgt := 11) eX11_restore_6 (by decide) bt_r (fun hh => have h66 := bt1 hh; ?_) (fun hh => have h66 := bt0 hh; ?_)
        · first
          | (exfalso; omega; done)
          | (refine aw_blk oX11_restore_11 (pc' := 16) (ls' := [_, _, _, _]) (st' := [_, _, _]) (cs := []) rfl trivial ?_
             refine aw_ciS (rest := []) (c_X11_between (by first | omega | exact bitk_R _ _ | exact rst_R) (by first | omega | exact bitk_R _ _ | exact rst_R) (by first | omega | exact bitk_R _ _ | exact rst_R)) kX11_between eX11_restore_16 lX11_restore_16 rfl rfl (Nat.le_of_ble_eq_true rfl) ⟨Nat.le_of_ble_eq_true rfl, Nat.le_of_ble_eq_true rfl⟩ ⟨Nat.le_refl _, Nat.le_refl _⟩ ?_
             refine aw_if_eq (tgt := 31) eX11_restore_19 (by decide) bt_r (fun hh => have h67 := bt0 hh; ?_) (fun hh => have h67 := bt1 hh; ?_)
             · first
               | (exfalso; omega; done)
               | (refine aw_blk oX11_restore_31 (pc' := 33) (ls' := [_, _, _, _]) (st' := [_]) (cs := []) rfl trivial ?_
                  refine aw_iret eX11_restore_33 rfl (Nat.le_refl _) (Nat.le_refl _) ?_
                  exact pe_i rfl rfl rfl)
             · first
               | (exfalso; omega; done)
               | (refine aw_blk oX11_restore_22 (pc' := 25) (ls' := [_, _, _, _]) (st' := [_, _, _]) (cs := []) rfl trivial ?_
                  refine aw_ciS (rest := []) (c_X11_between (by first | omega | exact bitk_R _ _ | exact rst_R) (by first | omega | exact bitk_R _ _ | exact rst_R) (by first | omega | exact bitk_R _ _ | exact rst_R)) kX11_between eX11_restore_25 lX11_restore_25 rfl rfl (Nat.le_of_ble_eq_true rfl) ⟨Nat.le_of_ble_eq_true rfl, Nat.le_of_ble_eq_true rfl⟩ ⟨Nat.le_refl _, Nat.le_refl _⟩ ?_
                  refine aw_if_ne (tgt := 34) eX11_restore_28 (by decide) bt_r (fun hh => have h68 := bt1 hh; ?_) (fun hh => have h68 := bt0 hh; ?_)
                  · first
                    | (exfalso; omega; done)
                    | (refine aw_blk oX11_restore_34 (pc' := 39) (ls' := [_, _, _, _]) (st' := [_]) (cs := []) rfl trivial ?_
                       refine aw_if_ne (tgt := 45) eX11_restore_39 (by decide) (by first | omega | exact bitk_R _ _ | exact rst_R) (fun h69 => ?_) (fun h69 => ?_)
                       · first
                         | (exfalso; omega; done)
                         | (refine aw_blk oX11_restore_45 (pc' := 46) (ls' := [_, _, _, _]) (st' := [_]) (cs := []) rfl trivial ?_
                            refine aw_ciS (rest := []) (c_restorable (by omega)) kX4_restorable eX11_restore_46 lX11_restore_46 rfl rfl (Nat.le_of_ble_eq_true rfl) ⟨Nat.le_of_ble_eq_true rfl, Nat.le_of_ble_eq_true rfl⟩ ⟨Nat.le_refl _, Nat.le_refl _⟩ ?_
                            skip)
                       · first
                         | (exfalso; omega; done)
                         | (refine aw_blk oX11_restore_42 (pc' := 44) (ls' := [_, _, _, _]) (st' := [_]) (cs := []) rfl trivial ?_
                            refine aw_iret eX11_restore_44 rfl (Nat.le_refl _) (Nat.le_refl _) ?_
                            exact pe_i rfl rfl rfl))
                  · first
                    | (exfalso; omega; done)
                    | (refine aw_blk oX11_restore_31 (pc' := 33) (ls' := [_, _, _, _]) (st' := [_]) (cs := []) rfl trivial ?_
                       refine aw_iret eX11_restore_33 rfl (Nat.le_refl _) (Nat.le_refl _) ?_
                       exact pe_i rfl rfl rfl)))
        · first
          | (exfalso; omega; done)
          | (refine aw_blk oX11_restore_9 (pc' := 10) (ls' := [_, _, _, _]) (st' := [_]) (cs := []) rfl trivial ?_
             refine aw_iret eX11_restore_10 rfl (Nat.le_refl _) (Nat.le_refl _) ?_
             exact pe_i rfl rfl rfl)
      · refine AMet.of kX12_restore.1 (Nat.le_of_ble_eq_true rfl) rfl ?_
        refine aw_blk oX12_restore_0 (pc' := 1) (ls' := [_, _, _, _, _, _]) (st' := [_]) (cs := []) rfl trivial ?_
        refine aw_ciS (rest := []) (c_X12_isGroup (by first | omega | exact bitk_R _ _ | exact rst_R)) kX12_isGroup eX12_restore_1 lX12_restore_1 rfl rfl (Nat.le_of_ble_eq_true rfl) ⟨Nat.le_of_ble_eq_true rfl, Nat.le_of_ble_eq_true rfl⟩ ⟨Nat.le_refl _, Nat.le_refl _⟩ ?_
        refine aw_if_ne (tgt := 9) eX12_restore_4 (by decide) bt_r (fun hh => have h70 := bt1 hh; ?_) (fun hh => have h70 := bt0 hh; ?_)
        · first
          | (exfalso; omega; done)
          | (refine aw_blk oX12_restore_9 (pc' := 14) (ls' := [_, _, _, _, _, _]) (st' := [_, _, _]) (cs := []) rfl trivial ?_
             refine aw_ciS (rest := []) (c_X12_in (by first | omega | exact bitk_R _ _ | exact rst_R) (by first | omega | exact bitk_R _ _ | exact rst_R) (by first | omega | exact bitk_R _ _ | exact rst_R)) kX12_in eX12_restore_14 lX12_restore_14 rfl rfl (Nat.le_of_ble_eq_true rfl) ⟨Nat.le_of_ble_eq_true rfl, Nat.le_of_ble_eq_true rfl⟩ ⟨Nat.le_refl _, Nat.le_refl _⟩ ?_
             refine aw_if_eq (tgt := 29) eX12_restore_17 (by decide) bt_r (fun hh => have h71 := bt0 hh; ?_) (fun hh => have h71 := bt1 hh; ?_)
             · first
               | (exfalso; omega; done)
               | (refine aw_blk oX12_restore_29 (pc' := 31) (ls' := [_, _, _, _, _, _]) (st' := [_]) (cs := []) rfl trivial ?_
                  refine aw_iret eX12_restore_31 rfl (Nat.le_refl _) (Nat.le_refl _) ?_
                  exact pe_i rfl rfl rfl)
             · first
               | (exfalso; omega; done)
               | (refine aw_blk oX12_restore_20 (pc' := 23) (ls' := [_, _, _, _, _, _]) (st' := [_, _, _]) (cs := []) rfl trivial ?_
                  refine aw_ciS (rest := []) (c_X12_in (by first | omega | exact bitk_R _ _ | exact rst_R) (by first | omega | exact bitk_R _ _ | exact rst_R) (by first | omega | exact bitk_R _ _ | exact rst_R)) kX12_in eX12_restore_23 lX12_restore_23 rfl rfl (Nat.le_of_ble_eq_true rfl) ⟨Nat.le_of_ble_eq_true rfl, Nat.le_of_ble_eq_true rfl⟩ ⟨Nat.le_refl _, Nat.le_refl _⟩ ?_
                  refine aw_if_ne (tgt := 32) eX12_restore_26 (by decide) bt_r (fun hh => have h72 := bt1 hh; ?_) (fun hh => have h72 := bt0 hh; ?_)
                  · first
                    | (exfalso; omega; done)
                    | (refine aw_blk oX12_restore_32 (pc' := 37) (ls' := [_, _, _, _, _, _]) (st' := [_]) (cs := []) rfl trivial ?_
                       refine aw_if_ne (tgt := 43) eX12_restore_37 (by decide) (by first | omega | exact bitk_R _ _ | exact rst_R) (fun h73 => ?_) (fun h73 => ?_)
                       · first
                         | (exfalso; omega; done)
                         | (refine aw_blk oX12_restore_43 (pc' := 49) (ls' := [_, _, _, _, _, _]) (st' := []) (cs := []) rfl trivial ?_
                            skip)
                       · first
                         | (exfalso; omega; done)
                         | (refine aw_blk oX12_restore_40 (pc' := 42) (ls' := [_, _, _, _, _, _]) (st' := [_]) (cs := []) rfl trivial ?_
                            refine aw_iret eX12_restore_42 rfl (Nat.le_refl _) (Nat.le_refl _) ?_
                            exact pe_i rfl rfl rfl))
                  · first
                    | (exfalso; omega; done)
                    | (refine aw_blk oX12_restore_29 (pc' := 31) (ls' := [_, _, _, _, _, _]) (st' := [_]) (cs := []) rfl trivial ?_
                       refine aw_iret eX12_restore_31 rfl (Nat.le_refl _) (Nat.le_refl _) ?_
                       exact pe_i rfl rfl rfl)))
        · first
          | (exfalso; omega; done)
          | (refine aw_blk oX12_restore_7 (pc' := 8) (ls' := [_, _, _, _, _, _]) (st' := [_]) (cs := []) rfl trivial ?_
             refine aw_iret eX12_restore_8 rfl (Nat.le_refl _) (Nat.le_refl _) ?_
             exact pe_i rfl rfl rfl)
  · refine ⟨-1, μ, μ, ?_, ?_, by decide, h, SR.rf⟩
    · refine AMet.of kX11_restore.1 (Nat.le_of_ble_eq_true rfl) rfl ?_
      refine aw_blk oX11_restore_0 (pc' := 3) (ls' := [_, _, _, _]) (st' := [_, _, _]) (cs := []) rfl trivial ?_
      refine aw_ciS (rest := []) (c_X11_between (by first | omega | exact bitk_R _ _ | exact rst_R) (by first | omega | exact bitk_R _ _ | exact rst_R) (by first | omega | exact bitk_R _ _ | exact rst_R)) kX11_between eX11_restore_3 lX11_restore_3 rfl rfl (Nat.le_of_ble_eq_true rfl) ⟨Nat.le_of_ble_eq_true rfl, Nat.le_of_ble_eq_true rfl⟩ ⟨Nat.le_refl _, Nat.le_refl _⟩ ?_
      refine aw_if_ne (tgt := 11) eX11_restore_6 (by decide) bt_r (fun hh => have h74 := bt1 hh; ?_) (fun hh => have h74 := bt0 hh; ?_)
      · first
        | (exfalso; omega; done)
        | (refine aw_blk oX11_restore_11 (pc' := 16) (ls' := [_, _, _, _]) (st' := [_, _, _]) (cs := []) rfl trivial ?_
           refine aw_ciS (rest := []) (c_X11_between (by first | omega | exact bitk_R _ _ | exact rst_R) (by first | omega | exact bitk_R _ _ | exact rst_R) (by first | omega | exact bitk_R _ _ | exact rst_R)) kX11_between eX11_restore_16 lX11_restore_16 rfl rfl (Nat.le_of_ble_eq_true rfl) ⟨Nat.le_of_ble_eq_true rfl, Nat.le_of_ble_eq_true rfl⟩ ⟨Nat.le_refl _, Nat.le_refl _⟩ ?_
           refine aw_if_eq (tgt := 31) eX11_restore_19 (by decide) bt_r (fun hh => have h75 := bt0 hh; ?_) (fun hh => have h75 := bt1 hh; ?_)
           · first
             | (exfalso; omega; done)
             | (refine aw_blk oX11_restore_31 (pc' := 33) (ls' := [_, _, _, _]) (st' := [_]) (cs := []) rfl trivial ?_
                refine aw_iret eX11_restore_33 rfl (Nat.le_refl _) (Nat.le_refl _) ?_
                exact pe_i rfl rfl rfl)
           · first
             | (exfalso; omega; done)
             | (refine aw_blk oX11_restore_22 (pc' := 25) (ls' := [_, _, _, _]) (st' := [_, _, _]) (cs := []) rfl trivial ?_
                refine aw_ciS (rest := []) (c_X11_between (by first | omega | exact bitk_R _ _ | exact rst_R) (by first | omega | exact bitk_R _ _ | exact rst_R) (by first | omega | exact bitk_R _ _ | exact rst_R)) kX11_between eX11_restore_25 lX11_restore_25 rfl rfl (Nat.le_of_ble_eq_true rfl) ⟨Nat.le_of_ble_eq_true rfl, Nat.le_of_ble_eq_true rfl⟩ ⟨Nat.le_refl _, Nat.le_refl _⟩ ?_
                refine aw_if_ne (tgt := 34) eX11_restore_28 (by decide) bt_r (fun hh => have h76 := bt1 hh; ?_) (fun hh => have h76 := bt0 hh; ?_)
                · first
                  | (exfalso; omega; done)
                  | (refine aw_blk oX11_restore_34 (pc' := 39) (ls' := [_, _, _, _]) (st' := [_]) (cs := []) rfl trivial ?_
                     refine aw_if_ne (tgt := 45) eX11_restore_39 (by decide) (by first | omega | exact bitk_R _ _ | exact rst_R) (fun h77 => ?_) (fun h77 => ?_)
                     · first
                       | (exfalso; omega; done)
                       | (refine aw_blk oX11_restore_45 (pc' := 46) (ls' := [_, _, _, _]) (st' := [_]) (cs := []) rfl trivial ?_
                          refine aw_ciS (rest := []) (c_restorable (by omega)) kX4_restorable eX11_restore_46 lX11_restore_46 rfl rfl (Nat.le_of_ble_eq_true rfl) ⟨Nat.le_of_ble_eq_true rfl, Nat.le_of_ble_eq_true rfl⟩ ⟨Nat.le_refl _, Nat.le_refl _⟩ ?_
                          skip)
                     · first
                       | (exfalso; omega; done)
                       | (refine aw_blk oX11_restore_42 (pc' := 44) (ls' := [_, _, _, _]) (st' := [_]) (cs := []) rfl trivial ?_
                          refine aw_iret eX11_restore_44 rfl (Nat.le_refl _) (Nat.le_refl _) ?_
                          exact pe_i rfl rfl rfl))
                · first
                  | (exfalso; omega; done)
                  | (refine aw_blk oX11_restore_31 (pc' := 33) (ls' := [_, _, _, _]) (st' := [_]) (cs := []) rfl trivial ?_
                     refine aw_iret eX11_restore_33 rfl (Nat.le_refl _) (Nat.le_refl _) ?_
                     exact pe_i rfl rfl rfl)))
      · first
        | (exfalso; omega; done)
        | (refine aw_blk oX11_restore_9 (pc' := 10) (ls' := [_, _, _, _]) (st' := [_]) (cs := []) rfl trivial ?_
           refine aw_iret eX11_restore_10 rfl (Nat.le_refl _) (Nat.le_refl _) ?_
           exact pe_i rfl rfl rfl)
    · refine AMet.of kX12_restore.1 (Nat.le_of_ble_eq_true rfl) rfl ?_
      refine aw_blk oX12_restore_0 (pc' := 1) (ls' := [_, _, _, _, _, _]) (st' := [_]) (cs := []) rfl trivial ?_
      refine aw_ciS (rest := []) (c_X12_isGroup (by first | omega | exact bitk_R _ _ | exact rst_R)) kX12_isGroup eX12_restore_1 lX12_restore_1 rfl rfl (Nat.le_of_ble_eq_true rfl) ⟨Nat.le_of_ble_eq_true rfl, Nat.le_of_ble_eq_true rfl⟩ ⟨Nat.le_refl _, Nat.le_refl _⟩ ?_
      refine aw_if_ne (tgt := 9) eX12_restore_4 (by decide) bt_r (fun hh => have h78 := bt1 hh; ?_) (fun hh => have h78 := bt0 hh; ?_)
      · first
        | (exfalso; omega; done)
        | (refine aw_blk oX12_restore_9 (pc' := 14) (ls' := [_, _, _, _, _, _]) (st' := [_, _, _]) (cs := []) rfl trivial ?_
           refine aw_ciS (rest := []) (c_X12_in (by first | omega | exact bitk_R _ _ | exact rst_R) (by first | omega | exact bitk_R _ _ | exact rst_R) (by first | omega | exact bitk_R _ _ | exact rst_R)) kX12_in eX12_restore_14 lX12_restore_14 rfl rfl (Nat.le_of_ble_eq_true rfl) ⟨Nat.le_of_ble_eq_true rfl, Nat.le_of_ble_eq_true rfl⟩ ⟨Nat.le_refl _, Nat.le_refl _⟩ ?_
           refine aw_if_eq (tgt := 29) eX12_restore_17 (by decide) bt_r (fun hh => have h79 := bt0 hh; ?_) (fun hh => have h79 := bt1 hh; ?_)
           · first
             | (exfalso; omega; done)
             | (refine aw_blk oX12_restore_29 (pc' := 31) (ls' := [_, _, _, _, _, _]) (st' := [_]) (cs := []) rfl trivial ?_
                refine aw_iret eX12_restore_31 rfl (Nat.le_refl _) (Nat.le_refl _) ?_
                exact pe_i rfl rfl rfl)
           · first
             | (exfalso; omega; done)
             | (refine aw_blk oX12_restore_20 (pc' := 23) (ls' := [_, _, _, _, _, _]) (st' := [_, _, _]) (cs := []) rfl trivial ?_
                refine aw_ciS (rest := []) (c_X12_in (by first | omega | exact bitk_R _ _ | exact rst_R) (by first | omega | exact bitk_R _ _ | exact rst_R) (by first | omega | exact bitk_R _ _ | exact rst_R)) kX12_in eX12_restore_23 lX12_restore_23 rfl rfl (Nat.le_of_ble_eq_true rfl) ⟨Nat.le_of_ble_eq_true rfl, Nat.le_of_ble_eq_true rfl⟩ ⟨Nat.le_refl _, Nat.le_refl _⟩ ?_
                refine aw_if_ne (tgt := 32) eX12_restore_26 (by decide) bt_r (fun hh => have h80 := bt1 hh; ?_) (fun hh => have h80 := bt0 hh; ?_)
                · first
                  | (exfalso; omega; done)
                  | (refine aw_blk oX12_restore_32 (pc' := 37) (ls' := [_, _, _, _, _, _]) (st' := [_]) (cs := []) rfl trivial ?_
                     refine aw_if_ne (tgt := 43) eX12_restore_37 (by decide) (by first | omega | exact bitk_R _ _ | exact rst_R) (fun h81 => ?_) (fun h81 => ?_)
                     · first
                       | (exfalso; omega; done)
                       | (refine aw_blk oX12_restore_43 (pc' := 49) (ls' := [_, _, _, _, _, _]) (st' := []) (cs := []) rfl trivial ?_
                          skip)
                     · first
                       | (exfalso; omega; done)
                       | (refine aw_blk oX12_restore_40 (pc' := 42) (ls' := [_, _, _, _, _, _]) (st' := [_]) (cs := []) rfl trivial ?_
                          refine aw_iret eX12_restore_42 rfl (Nat.le_refl _) (Nat.le_refl _) ?_
                          exact pe_i rfl rfl rfl))
                · first
                  | (exfalso; omega; done)
                  | (refine aw_blk oX12_restore_29 (pc' := 31) (ls' := [_, _, _, _, _, _]) (st' := [_]) (cs := []) rfl trivial ?_
                     refine aw_iret eX12_restore_31 rfl (Nat.le_refl _) (Nat.le_refl _) ?_
                     exact pe_i rfl rfl rfl)))
      · first
        | (exfalso; omega; done)
        | (refine aw_blk oX12_restore_7 (pc' := 8) (ls' := [_, _, _, _, _, _]) (st' := [_]) (cs := []) rfl trivial ?_
           refine aw_iret eX12_restore_8 rfl (Nat.le_refl _) (Nat.le_refl _) ?_
           exact pe_i rfl rfl rfl)

/-! ===== BEST: the reference ===== -/
def cdN (d cnt : Int) : Nat → Nat
  | 0 => 1
  | n + 1 => if dor d (cnt - 1 - n) then 3 * cdN d cnt n else cdN d cnt n
/-- how many rows there are from piece p on -/
def cdP (d cnt p : Int) : Nat := cdN d cnt (cnt - p).toNat
theorem cdP_e {d cnt : Int} : cdP d cnt cnt = 1 := by
  unfold cdP
  rw [show (cnt - cnt).toNat = 0 by omega]
  rfl
theorem cdP_s {d cnt p : Int} (h : p < cnt) : cdP d cnt p = if dor d p then 3 * cdP d cnt (p + 1) else cdP d cnt (p + 1) := by
  unfold cdP
  rw [show (cnt - p).toNat = (cnt - (p + 1)).toNat + 1 by omega, cdN, show cnt - 1 - (((cnt - (p + 1)).toNat : Nat) : Int) = p by omega]
theorem cdN_bd {d cnt : Int} : ∀ n : Nat, 0 < cdN d cnt n ∧ cdN d cnt n ≤ 3 ^ n
  | 0 => ⟨Nat.le_refl 1, Nat.le_refl 1⟩
  | n + 1 => by
    have := cdN_bd (d := d) (cnt := cnt) n
    rw [cdN, Nat.pow_succ]
    split <;> omega
theorem cdP_bd {d cnt p : Int} (h0 : 0 ≤ p) (h1 : cnt ≤ 8) : 0 < cdP d cnt p ∧ cdP d cnt p ≤ 6561 := by
  have a := cdN_bd (d := d) (cnt := cnt) (cnt - p).toNat
  have b : 3 ^ (cnt - p).toNat ≤ 3 ^ 8 := Nat.pow_le_pow_right (by decide) (by omega)
  have e : 3 ^ 8 = 6561 := rfl
  unfold cdP
  omega
def rcN (d cnt code : Int) : Nat → Int
  | 0 => (code / (cdP d cnt 1 : Int)) % 3
  | p + 1 => if dor d (p + 1) then (code / (cdP d cnt (p + 1 + 1) : Int)) % 3 else rcN d cnt code p
/-- the row of a code -/
def rc (d cnt code p : Int) : Int := rcN d cnt code p.toNat
theorem rc_d {d cnt code p : Int} (h0 : 0 ≤ p) (h : dor d p) : rc d cnt code p = (code / (cdP d cnt (p + 1) : Int)) % 3 := by
  unfold rc
  by_cases k : p = 0
  · rw [k]; rfl
  · obtain ⟨n, rfl⟩ : ∃ n : Nat, p = n + 1 := ⟨(p - 1).toNat, by omega⟩
    rw [show ((n : Int) + 1).toNat = n + 1 by omega, rcN, if_pos h]
theorem rc_n {d cnt code p : Int} (h0 : 0 < p) (h : ¬ dor d p) : rc d cnt code p = rc d cnt code (p - 1) := by
  unfold rc
  obtain ⟨n, rfl⟩ : ∃ n : Nat, p = n + 1 := ⟨(p - 1).toNat, by omega⟩
  rw [show ((n : Int) + 1).toNat = n + 1 by omega, rcN, if_neg h, show ((n : Int) + 1 - 1).toNat = n by omega]
theorem rcN_bd {d cnt code : Int} : ∀ n : Nat, 0 ≤ rcN d cnt code n ∧ rcN d cnt code n ≤ 2
  | 0 => by rw [rcN]; omega
  | n + 1 => by
    rw [rcN]
    split
    · omega
    · exact rcN_bd n
theorem rc_ok {D : FD} {d cnt code : Int} : okW D (rc d cnt code) := fun _ _ _ => rcN_bd _
abbrev dgt (d cnt code q : Int) : Int := if dor d q then (code / (cdP d cnt (q + 1) : Int)) % 3 else -1
theorem dor_z {d : Int} : dor d 0 := Or.inl rfl
theorem ndor {d p : Int} (h2 : ¬ p = 0) (h3 : ¬ bitk d p = 1) : ¬ dor d p := fun q => by
  rcases q with q | q
  · exact h2 q
  · exact h3 q
theorem l_wish2 {κ : KX} {μ0 : MM} {ν : ML} {d cnt code : Int} (hc : 1 ≤ cnt ∧ cnt ≤ 8) (e4 : μ0 55 4 = cnt) (n : Nat) : ∀ (p : Int) (x2 : Int) (u4 : AV) (μ : MM), 1 ≤ p → p + n = cnt → SR [82] μ0 μ → (∀ q : Int, 0 ≤ q → q < p → μ 82 q = rc d cnt code q) → (∀ q : Int, p ≤ q → q < cnt → μ 82 q = dgt d cnt code q) → AX κ mX12_wish 0 (QS (fun r μ' ν' => r = none ∧ ν' = ν ∧ SR [82] μ0 μ' ∧ ∀ q : Int, 0 ≤ q → q < cnt → μ' 82 q = rc d cnt code q)) 75 [aR 55, aI code, aI x2, aI p, u4] [] μ ν := by
  induction n with
  | zero =>
    intro p x2 u4 μ p1 hn hS hl hr
    have e : μ 55 4 = cnt := by rw [hS 55 (by decide)]; exact e4
    refine aw_blk oX12_wish_75 (pc' := 80) (ls' := [_, _, _, _, _]) (st' := [_, _]) (cs := []) rfl trivial ?_
    refine aw_icmp_ge (tgt := 121) eX12_wish_80 (by decide) (by omega) (by omega) (fun h1 => ?_) (fun h1 => ?_)
    · refine aw_vret eX12_wish_121 rfl (Nat.le_refl _) (Nat.le_refl _) ?_
      exact ⟨rfl, rfl, rfl, hS, fun q q0 q1 => hl q q0 (by omega)⟩
    · exfalso; omega
  | succ n ih =>
    intro p x2 u4 μ p1 hn hS hl hr
    have e : μ 55 4 = cnt := by rw [hS 55 (by decide)]; exact e4
    have hp := hr p (by omega) (by omega)
    have hp1 := hl (p - 1) (by omega) (by omega)
    have hb : -1 ≤ μ 82 p ∧ μ 82 p ≤ 2 := by
      rw [hp]
      show -1 ≤ (if dor d p then (code / (cdP d cnt (p + 1) : Int)) % 3 else -1) ∧ (if dor d p then (code / (cdP d cnt (p + 1) : Int)) % 3 else -1) ≤ 2
      split <;> omega
    have E114 : ∀ v : Int, v = rc d cnt code p → AX κ mX12_wish 0 (QS (fun r μ' ν' => r = none ∧ ν' = ν ∧ SR [82] μ0 μ' ∧ ∀ q : Int, 0 ≤ q → q < cnt → μ' 82 q = rc d cnt code q)) 114 [aR 55, aI code, aI x2, aI p, u4] [aI v, aI p, aR 82] μ ν := fun v ev => by
      refine aw_blk oX12_wish_114 (pc' := 75) (ls' := [_, _, _, _, _]) (st' := []) (cs := [(_, _)]) rfl (⟨⟨by omega, by omega⟩, trivial⟩) ?_
      refine ih (p + 1) _ _ _ (by omega) (by omega) (hS.put (by decide)) (fun q q0 q1 => ?_) (fun q q0 q1 => ?_)
      · by_cases k : q = p
        · rw [k, up_at, ev]
        · rw [up_ne (Or.inr k)]; exact hl q q0 (by omega)
      · rw [up_ne (Or.inr (by omega))]; exact hr q (by omega) q1
    refine aw_blk oX12_wish_75 (pc' := 80) (ls' := [_, _, _, _, _]) (st' := [_, _]) (cs := []) rfl trivial ?_
    refine aw_icmp_ge (tgt := 121) eX12_wish_80 (by decide) (by omega) (by omega) (fun h1 => ?_) (fun h1 => ?_)
    · exfalso; omega
    · refine aw_blk oX12_wish_83 (pc' := 94) (ls' := [_, _, _, _, _]) (st' := [_, _, _]) (cs := [(_, _)]) rfl (⟨⟨by omega, by omega⟩, trivial⟩) ?_
      by_cases dd : dor d p
      · have hp : μ 82 p = (code / (cdP d cnt (p + 1) : Int)) % 3 := by rw [hp]; exact if_pos dd
        refine aw_if_ge (tgt := 108) eX12_wish_94 (by decide) (by omega) (fun h2 => ?_) (fun h2 => ?_)
        · refine aw_blk oX12_wish_108 (pc' := 114) (ls' := [_, _, _, _, _]) (st' := [_, _, _]) (cs := [(_, _)]) rfl (⟨⟨by omega, by omega⟩, trivial⟩) ?_
          exact E114 _ (by rw [hp, rc_d (by omega) dd])
        · exfalso; omega
      · have hp : μ 82 p = -1 := by rw [hp]; exact if_neg dd
        refine aw_if_ge (tgt := 108) eX12_wish_94 (by decide) (by omega) (fun h2 => ?_) (fun h2 => ?_)
        · exfalso; omega
        · refine aw_blk oX12_wish_97 (pc' := 114) (ls' := [_, _, _, _, _]) (st' := [_, _, _]) (cs := [(_, _)]) rfl (⟨⟨by omega, by omega⟩, trivial⟩) ?_
          exact E114 _ (by rw [hp1, rc_n (by omega) dd])
theorem l_wish1 {κ : KX} {μ0 : MM} {ν : ML} {d cnt code : Int} (hc : 1 ≤ cnt ∧ cnt ≤ 8) (h0 : 0 ≤ code ∧ code < 2147483648) (e4 : μ0 55 4 = cnt) (e6 : μ0 55 6 = d) (n : Nat) : ∀ (p left : Int) (u4 : AV) (μ : MM), p + 1 = n → p < cnt → left = code / (cdP d cnt (p + 1) : Int) → SR [82] μ0 μ → (∀ q : Int, p < q → q < cnt → μ 82 q = dgt d cnt code q) → AX κ mX12_wish 0 (QS (fun r μ' ν' => r = none ∧ ν' = ν ∧ SR [82] μ0 μ' ∧ ∀ q : Int, 0 ≤ q → q < cnt → μ' 82 q = rc d cnt code q)) 9 [aR 55, aI code, aI left, aI p, u4] [] μ ν := by
  induction n with
  | zero =>
    intro p left u4 μ pn p1 el hS hr
    refine aw_blk oX12_wish_9 (pc' := 10) (ls' := [_, _, _, _, _]) (st' := [_]) (cs := []) rfl trivial ?_
    refine aw_if_lt (tgt := 73) eX12_wish_10 (by decide) (by omega) (fun h1 => ?_) (fun h1 => ?_)
    · refine aw_blk oX12_wish_73 (pc' := 75) (ls' := [_, _, _, _, _]) (st' := []) (cs := []) rfl trivial ?_
      refine l_wish2 hc e4 (cnt - 1).toNat 1 _ _ μ (by omega) (by omega) hS (fun q q0 q1 => ?_) (fun q q0 q1 => hr q (by omega) q1)
      have e : q = 0 := by omega
      rw [e, hr 0 (by omega) (by omega), rc_d (by omega) dor_z]
      exact if_pos dor_z
    · exfalso; omega
  | succ n ih =>
    intro p left u4 μ pn p1 el hS hr
    have e : μ 55 4 = cnt := by rw [hS 55 (by decide)]; exact e4
    have e' : μ 55 6 = d := by rw [hS 55 (by decide)]; exact e6
    have hN := cdP_bd (d := d) (cnt := cnt) (p := p + 1) (by omega) hc.2
    have hl : 0 ≤ left ∧ left ≤ code := by
      rw [el]
      exact ⟨Int.ediv_nonneg h0.1 (by omega), Int.ediv_le_self _ h0.1⟩
    have E34 : ∀ (z : Int) (u4 : AV), z = (if dor d p then 1 else 0) → AX κ mX12_wish 0 (QS (fun r μ' ν' => r = none ∧ ν' = ν ∧ SR [82] μ0 μ' ∧ ∀ q : Int, 0 ≤ q → q < cnt → μ' 82 q = rc d cnt code q)) 34 [aR 55, aI code, aI left, aI p, u4] [aI z] μ ν := fun z u4 ez => by
      by_cases dd : dor d p
      · rw [if_pos dd] at ez
        subst ez
        have T := ih (p - 1) (left / 3) (aI 1) (up μ 82 p (left % 3)) (by omega) (by omega) (by
          rw [el, show p - 1 + 1 = p by omega, cdP_s (p := p) (by omega), if_pos dd, Int.ediv_ediv_of_nonneg (by omega)]
          congr 1
          omega) (hS.put (by decide)) (fun q q0 q1 => by
          by_cases k : q = p
          · rw [k, up_at, el]
            exact (if_pos dd).symm
          · rw [up_ne (Or.inr k)]; exact hr q (by omega) q1)
        refine aw_blk oX12_wish_34 (pc' := 43) (ls' := [_, _, _, _, _]) (st' := [_, _, _]) (cs := []) rfl trivial ?_
        refine aw_if_eq (tgt := 52) eX12_wish_43 (by decide) (by omega) (fun h3 => ?_) (fun h3 => ?_)
        · exfalso; omega
        · refine aw_blk oX12_wish_46 (pc' := 53) (ls' := [_, _, _, _, _]) (st' := [_, _, _]) (cs := [(_, _)]) rfl (⟨⟨by omega, by omega⟩, trivial⟩) ?_
          refine aw_blk oX12_wish_53 (pc' := 57) (ls' := [_, _, _, _, _]) (st' := [_, _]) (cs := [(_, _)]) rfl (⟨⟨by omega, by omega⟩, trivial⟩) ?_
          rw [bRem_nn (by omega) (by omega)]
          refine aw_if_eq (tgt := 64) eX12_wish_57 (by decide) (by omega) (fun h4 => ?_) (fun h4 => ?_)
          · exfalso; omega
          · refine aw_blk oX12_wish_60 (pc' := 65) (ls' := [_, _, _, _, _]) (st' := [_, _]) (cs := []) rfl trivial ?_
            refine aw_blk oX12_wish_65 (pc' := 9) (ls' := [_, _, _, _, _]) (st' := []) (cs := [(_, _)]) rfl (⟨⟨by omega, by omega⟩, trivial⟩) ?_
            rw [bDiv_nn (by omega) (by omega)]
            exact T
      · rw [if_neg dd] at ez
        subst ez
        have T := ih (p - 1) left (aI 0) (up μ 82 p (-1)) (by omega) (by omega) (by
          rw [el, show p - 1 + 1 = p by omega, cdP_s (p := p) (by omega), if_neg dd]) (hS.put (by decide)) (fun q q0 q1 => by
          by_cases k : q = p
          · rw [k, up_at]
            exact (if_neg dd).symm
          · rw [up_ne (Or.inr k)]; exact hr q (by omega) q1)
        refine aw_blk oX12_wish_34 (pc' := 43) (ls' := [_, _, _, _, _]) (st' := [_, _, _]) (cs := []) rfl trivial ?_
        refine aw_if_eq (tgt := 52) eX12_wish_43 (by decide) (by omega) (fun h3 => ?_) (fun h3 => ?_)
        · refine aw_blk oX12_wish_52 (pc' := 53) (ls' := [_, _, _, _, _]) (st' := [_, _, _]) (cs := []) rfl trivial ?_
          refine aw_blk oX12_wish_53 (pc' := 57) (ls' := [_, _, _, _, _]) (st' := [_, _]) (cs := [(_, _)]) rfl (⟨⟨by omega, by omega⟩, trivial⟩) ?_
          refine aw_if_eq (tgt := 64) eX12_wish_57 (by decide) (by omega) (fun h4 => ?_) (fun h4 => ?_)
          · refine aw_blk oX12_wish_64 (pc' := 65) (ls' := [_, _, _, _, _]) (st' := [_, _]) (cs := []) rfl trivial ?_
            refine aw_blk oX12_wish_65 (pc' := 9) (ls' := [_, _, _, _, _]) (st' := []) (cs := [(_, _)]) rfl (⟨⟨by omega, by omega⟩, trivial⟩) ?_
            rw [bDiv_nn (by omega) (by omega), show left / 1 = left by omega]
            exact T
          · exfalso; omega
        · exfalso; omega
    refine aw_blk oX12_wish_9 (pc' := 10) (ls' := [_, _, _, _, _]) (st' := [_]) (cs := []) rfl trivial ?_
    refine aw_if_lt (tgt := 73) eX12_wish_10 (by decide) (by omega) (fun h1 => ?_) (fun h1 => ?_)
    · exfalso; omega
    · refine aw_blk oX12_wish_13 (pc' := 14) (ls' := [_, _, _, _, _]) (st' := [_]) (cs := []) rfl trivial ?_
      refine aw_if_eq (tgt := 29) eX12_wish_14 (by decide) (by omega) (fun h2 => ?_) (fun h2 => ?_)
      · refine aw_blk oX12_wish_29 (pc' := 34) (ls' := [_, _, _, _, _]) (st' := [_]) (cs := []) rfl trivial ?_
        exact E34 _ _ (by rw [if_pos (Or.inl h2)])
      · refine aw_blk oX12_wish_17 (pc' := 26) (ls' := [_, _, _, _, _]) (st' := [_, _]) (cs := []) rfl trivial ?_
        rw [e']
        refine aw_icmp_ne (tgt := 33) eX12_wish_26 (by decide) (by first | exact bitk_R d p | omega) (by first | exact bitk_R d p | omega) (fun h3 => ?_) (fun h3 => ?_)
        · refine aw_blk oX12_wish_33 (pc' := 34) (ls' := [_, _, _, _, _]) (st' := [_]) (cs := []) rfl trivial ?_
          exact E34 _ _ (by rw [if_neg (ndor h2 h3)])
        · refine aw_blk oX12_wish_29 (pc' := 34) (ls' := [_, _, _, _, _]) (st' := [_]) (cs := []) rfl trivial ?_
          exact E34 _ _ (by rw [if_pos (show dor d p from Or.inr h3)])
theorem c_wish {κ : KX} {μ : MM} {ν : ML} {d cnt code : Int} (hc : 1 ≤ cnt ∧ cnt ≤ 8) (h0 : 0 ≤ code ∧ code < 2147483648) (e4 : μ 55 4 = cnt) (e6 : μ 55 6 = d) : AQ κ 0 mX12_wish [aR 55, aI code] μ ν (fun r μ' ν' => r = none ∧ ν' = ν ∧ SR [82] μ μ' ∧ ∀ q : Int, 0 ≤ q → q < cnt → μ' 82 q = rc d cnt code q) := by
  refine AMet.of kX12_wish.1 (Nat.le_of_ble_eq_true rfl) rfl ?_
  refine aw_blk oX12_wish_0 (pc' := 9) (ls' := [_, _, _, _, _]) (st' := []) (cs := []) rfl trivial ?_
  rw [e4]
  refine l_wish1 hc h0 e4 e6 cnt.toNat (cnt - 1) code _ μ (by omega) (by omega) ?_ SR.rf (fun q q0 q1 => by omega)
  rw [show cnt - 1 + 1 = cnt by omega, cdP_e]
  show code = code / 1
  omega
theorem cho_wish {κ : KX} {μ0 : MM} {ν : ML} {D : FD} {w : Int → Int} (h : ∀ p : Int, 0 ≤ p → p < D.cnt → μ0 82 p = w p) (hn : D.cnt ≤ 8) : CHO κ ν μ0 (rD D w) 0 := by
  intro P μ W bg t left u8 hS hE hW hm hw h0 h1 K
  have a := hW.1
  have hw : W.whole < D.cnt := hw
  have e82 : μ 82 W.whole = w W.whole := by rw [hS.1 82 (by decide)]; exact h W.whole (by omega) hw
  have K : ∀ u8' : AV, AX κ mX12_run 2 P 176 [aR 55, aI 0, aI (nowOf W), aI W.whole, aI 0, aI bg, aI t, aI left, u8'] [aI (w W.whole)] μ ν := K
  have E122 : ∀ (z : Int) (u8 : AV), AX κ mX12_run 2 P 122 [aR 55, aI 0, aI (nowOf W), aI W.whole, aI 0, aI bg, aI t, aI left, u8] [aI z] μ ν := fun z u8 => by
    refine aw_blk oX12_run_122 (pc' := 125) (ls' := [_, _, _, _, _, _, _, _, _]) (st' := [_]) (cs := []) rfl trivial ?_
    refine aw_if_ne (tgt := 137) eX12_run_125 (by decide) (by omega) (fun h2 => ?_) (fun h2 => ?_)
    · exfalso; omega
    · refine aw_blk oX12_run_128 (pc' := 176) (ls' := [_, _, _, _, _, _, _, _, _]) (st' := [_]) (cs := [(_, _)]) rfl (⟨⟨by omega, by omega⟩, trivial⟩) ?_
      rw [e82]
      exact K _
  refine aw_blk oX12_run_101 (pc' := 102) (ls' := [_, _, _, _, _, _, _, _, _]) (st' := [_]) (cs := []) rfl trivial ?_
  refine aw_if_eq (tgt := 117) eX12_run_102 (by decide) (by omega) (fun h2 => ?_) (fun h2 => ?_)
  · refine aw_blk oX12_run_117 (pc' := 122) (ls' := [_, _, _, _, _, _, _, _, _]) (st' := [_]) (cs := []) rfl trivial ?_
    exact E122 _ _
  · refine aw_blk oX12_run_105 (pc' := 114) (ls' := [_, _, _, _, _, _, _, _, _]) (st' := [_, _]) (cs := []) rfl trivial ?_
    refine aw_icmp_ne (tgt := 121) eX12_run_114 (by decide) (by first | exact bitk_R (μ 55 6) W.whole | omega) (by first | exact bitk_R (μ 55 6) W.whole | omega) (fun h3 => ?_) (fun h3 => ?_)
    · refine aw_blk oX12_run_121 (pc' := 122) (ls' := [_, _, _, _, _, _, _, _, _]) (st' := [_]) (cs := []) rfl trivial ?_
      exact E122 _ _
    · refine aw_blk oX12_run_117 (pc' := 122) (ls' := [_, _, _, _, _, _, _, _, _]) (st' := [_]) (cs := []) rfl trivial ?_
      exact E122 _ _
def telV (v : FV) (w : Int) : Int := if w = 0 then v.1.1 else if w = 1 then v.1.2.1 else if w = 2 then v.1.2.2.1 else if w = 3 then v.1.2.2.2 else v.2 (w - 10)
theorem tel_vw {W : WS} {w : Int} (hw : told w) : tel W w = telV (vw W) w := by
  unfold told at hw
  unfold tel telV
  split
  · rfl
  · split
    · rfl
    · split
      · rfl
      · split
        · rfl
        · show W.row (w - 10) = if 0 ≤ w - 10 ∧ w - 10 < 8 then W.row (w - 10) else 0
          rw [if_pos (by omega)]
/-- the reference's fields of a search -/
def SB (μ0 μ : MM) : Prop := SR [55, 81, 82] μ0 μ ∧ SF [31, 32, 33, 34] μ0 μ
theorem SB.rf {μ : MM} : SB μ μ := ⟨SR.rf, fun _ _ => rfl⟩
theorem SB.w {μ0 μ μ1 : MM} (h : SB μ0 μ) (h1 : SR [82] μ μ1) : SB μ0 μ1 := ⟨fun c hc => by rw [h1 c (fun q => hc ((show ∀ c ∈ [82], c ∈ [55, 81, 82] by decide) c q)), h.1 c hc], fun j hj => by rw [h1 55 (by decide)]; exact h.2 j hj⟩
theorem SB.r {μ0 μ μ1 : MM} (h : SB μ0 μ) (h1 : SM μ μ1) : SB μ0 μ1 := ⟨fun c hc => by rw [h1.1 c (fun q => hc ((show ∀ c ∈ [55, 81], c ∈ [55, 81, 82] by decide) c q)), h.1 c hc], fun j hj => by rw [h1.2 j hj]; exact h.2 j hj⟩
theorem SB.md {μ0 μ : MM} {D : FD} {w : Int → Int} (h : SB μ0 μ) (hM : MD μ0 D) (hw : okW D w) : MD μ (rD D w) := by
  obtain ⟨a, b, c, d, e⟩ := hM
  refine ⟨rD_ok a hw, fun t h0 h1 => ?_, fun i h0 h1 => ?_, ?_, ?_⟩
  · rw [h.1 60 (by decide)]; exact b t h0 h1
  · rw [h.1 59 (by decide)]; exact c i h0 h1
  · rw [h.2 4 (by decide)]; exact d
  · rw [h.1 58 (by decide)]; exact e
/-- the show of a code -/
def SC (D : FD) (d code : Int) : FV := SW D (rc d D.cnt code)
def isBst (D : FD) (d : Int) (C : Int) (b : Int) : Prop := (0 ≤ b ∧ b < C) ∧ (∀ c : Int, 0 ≤ c → c < C → nb (SC D d b) (SC D d c) = true) ∧ ∀ c : Int, 0 ≤ c → c < b → nb (SC D d c) (SC D d b) = false
theorem isBst.next {D : FD} {d C b : Int} (h : isBst D d C b) (hn : nb (SC D d b) (SC D d C) = true) : isBst D d (C + 1) b := ⟨by have := h.1; omega, fun c c0 c1 => by
    by_cases k : c = C
    · rw [k]; exact hn
    · exact h.2.1 c c0 (by omega), h.2.2⟩
theorem isBst.take {D : FD} {d C b : Int} (h : isBst D d C b) (hn : nb (SC D d b) (SC D d C) = false) : isBst D d (C + 1) C := ⟨by have := h.1; omega, fun c c0 c1 => by
    by_cases k : c = C
    · rw [k]; exact nb_rf
    · exact nb_tr (nb_tot hn) (h.2.1 c c0 (by omega)), fun c c0 c1 => by
    cases e : nb (SC D d c) (SC D d C)
    · rfl
    · have := nb_tr (h.2.1 c c0 c1) e
      rw [this] at hn
      cases hn⟩
theorem l_bestM {κ : KX} {μ0 : MM} {ν : ML} {D : FD} {d w : Int} (hM : MD μ0 D) (e6 : μ0 55 6 = d) (hw : told w) (n : Nat) : ∀ (c bs s1 s2 s3 : Int) (u8 : AV) (μ : MM), 0 ≤ c → c + n = (cdP d D.cnt 0 : Int) → SB μ0 μ → ((c = 0 ∧ bs = -1 ∧ s1 = 0 ∧ s2 = 0 ∧ s3 = 0) ∨ (0 < c ∧ isBst D d c bs ∧ s1 = (SC D d bs).1.1 ∧ s2 = (SC D d bs).1.2.1 ∧ s3 = (SC D d bs).1.2.2.1)) → AX κ mX12_best 60 (QS (fun r μ' ν' => ∃ b : Int, isBst D d (cdP d D.cnt 0 : Int) b ∧ r = some (aI (telV (SC D d b) w)) ∧ ν' = ν ∧ SB μ0 μ')) 66 [aR 55, aI w, aI (cdP d D.cnt 0 : Int), aI bs, aI s1, aI s2, aI s3, aI c, u8] [] μ ν := by
  have hD := hM.1
  have o := hD.1
  have hN := cdP_bd (d := d) (cnt := D.cnt) (p := 0) (by omega) o.2
  induction n with
  | zero =>
    intro c bs s1 s2 s3 u8 μ c0 cn hS hI
    rcases hI with ⟨a1, a2⟩ | ⟨a1, a2, a3⟩
    · omega
    · have ec : c = (cdP d D.cnt 0 : Int) := by omega
      have ab := a2.1
      refine aw_blk oX12_best_66 (pc' := 69) (ls' := [_, _, _, _, _, _, _, _, _]) (st' := [_, _]) (cs := []) rfl trivial ?_
      refine aw_icmp_ge (tgt := 171) eX12_best_69 (by decide) (by omega) (by omega) (fun h1 => ?_) (fun h1 => ?_)
      · refine aw_blk oX12_best_171 (pc' := 173) (ls' := [_, _, _, _, _, _, _, _, _]) (st' := [_, _]) (cs := []) rfl trivial ?_
        refine aw_crV (rest := []) (c_wish (d := d) (cnt := D.cnt) o (by omega) (by rw [hS.2 4 (by decide)]; exact hM.2.2.2.1) (by rw [hS.2 6 (by decide)]; exact e6)) kX12_wish eX12_best_173 lX12_best_173 rfl rfl rfl rfl (Nat.le_of_ble_eq_true rfl) ⟨Nat.le_of_ble_eq_true rfl, Nat.le_of_ble_eq_true rfl⟩ ⟨Nat.le_refl _, Nat.le_refl _⟩ ?_
        intro r μ1 ν1 hP
        obtain ⟨rfl, rfl, q1, q2⟩ := hP
        have hS1 := hS.w q1
        refine aw_blk oX12_best_176 (pc' := 178) (ls' := [_, _, _, _, _, _, _, _, _]) (st' := [_, _]) (cs := []) rfl trivial ?_
        refine aw_crV (rest := []) (c_runM (hS1.md hM rc_ok) (cho_wish q2 o.2)) kX12_run eX12_best_178 lX12_best_178 rfl rfl rfl rfl (Nat.le_of_ble_eq_true rfl) ⟨Nat.le_of_ble_eq_true rfl, Nat.le_of_ble_eq_true rfl⟩ ⟨Nat.le_refl _, Nat.le_refl _⟩ ?_
        intro r μ2 ν2 hP
        obtain ⟨rfl, rfl, q3, q4⟩ := hP
        have hS2 := hS1.r q3
        have I := shw_inv (rD_ok hD (rc_ok (d := d) (cnt := D.cnt) (code := bs))) 60 0 W0 (by omega) (by omega) (WI.w0 (rD_ok hD rc_ok)) WB.w0
        refine aw_blk oX12_best_181 (pc' := 183) (ls' := [_, _, _, _, _, _, _, _, _]) (st' := [_, _]) (cs := []) rfl trivial ?_
        refine aw_ciV (rest := []) (c_tell q4 (rD_ok hD rc_ok) I.1 (by rw [hS2.2 4 (by decide)]; exact hM.2.2.2.1) hw) kX12_tell eX12_best_183 lX12_best_183 rfl rfl rfl rfl (Nat.le_of_ble_eq_true rfl) ⟨Nat.le_of_ble_eq_true rfl, Nat.le_of_ble_eq_true rfl⟩ ⟨Nat.le_refl _, Nat.le_refl _⟩ ?_
        refine aw_iret eX12_best_186 rfl (Nat.le_refl _) (Nat.le_refl _) ?_
        refine ⟨rfl, bs, by rw [← ec]; exact a2, ?_, rfl, hS2⟩
        rw [tel_vw hw]
        rfl
      · exfalso; omega
  | succ n ih =>
    intro c bs s1 s2 s3 u8 μ c0 cn hS hI
    have hB := SW_FB hD (rc_ok (D := D) (d := d) (cnt := D.cnt) (code := c))
    have hb0 : -1 ≤ bs ∧ bs < c ∨ bs = -1 := by
      rcases hI with ⟨a1, a2, -⟩ | ⟨a1, a2, -⟩
      · exact Or.inr a2
      · have := a2.1; omega
    have hs123 : (0 ≤ s1 ∧ s1 ≤ 8) ∧ (0 ≤ s2 ∧ s2 ≤ 60) ∧ (0 ≤ s3 ∧ s3 ≤ 16) := by
      rcases hI with ⟨a1, a2, b1, b2, b3⟩ | ⟨a1, a2, b1, b2, b3⟩
      · omega
      · have B : FB (SC D d bs) := SW_FB hD (rc_ok (D := D) (d := d) (cnt := D.cnt) (code := bs))
        have b1' := B.1
        have b2' := B.2.1
        have b3' := B.2.2.1
        omega
    refine aw_blk oX12_best_66 (pc' := 69) (ls' := [_, _, _, _, _, _, _, _, _]) (st' := [_, _]) (cs := []) rfl trivial ?_
    refine aw_icmp_ge (tgt := 171) eX12_best_69 (by decide) (by omega) (by omega) (fun h1 => ?_) (fun h1 => ?_)
    · exfalso; omega
    · refine aw_blk oX12_best_72 (pc' := 75) (ls' := [_, _, _, _, _, _, _, _, _]) (st' := [_, _]) (cs := []) rfl trivial ?_
      refine aw_crV (rest := []) (c_wish (d := d) (cnt := D.cnt) o (by omega) (by rw [hS.2 4 (by decide)]; exact hM.2.2.2.1) (by rw [hS.2 6 (by decide)]; exact e6)) kX12_wish eX12_best_75 lX12_best_75 rfl rfl rfl rfl (Nat.le_of_ble_eq_true rfl) ⟨Nat.le_of_ble_eq_true rfl, Nat.le_of_ble_eq_true rfl⟩ ⟨Nat.le_refl _, Nat.le_refl _⟩ ?_
      intro r μ1 ν1 hP
      obtain ⟨rfl, rfl, q1, q2⟩ := hP
      have hS1 := hS.w q1
      refine aw_blk oX12_best_78 (pc' := 80) (ls' := [_, _, _, _, _, _, _, _, _]) (st' := [_, _]) (cs := []) rfl trivial ?_
      refine aw_crV (rest := []) (c_runM (hS1.md hM rc_ok) (cho_wish q2 o.2)) kX12_run eX12_best_80 lX12_best_80 rfl rfl rfl rfl (Nat.le_of_ble_eq_true rfl) ⟨Nat.le_of_ble_eq_true rfl, Nat.le_of_ble_eq_true rfl⟩ ⟨Nat.le_refl _, Nat.le_refl _⟩ ?_
      intro r μ2 ν2 hP
      obtain ⟨rfl, rfl, q3, q4⟩ := hP
      have hS2 := hS1.r q3
      have v1 : μ2 55 31 = (SC D d c).1.1 := q4.1
      have v2 : μ2 55 32 = (SC D d c).1.2.1 := q4.2.1
      have v3 : μ2 55 33 = (SC D d c).1.2.2.1 := q4.2.2.1
      have g1 : 0 ≤ (SC D d c).1.1 ∧ (SC D d c).1.1 ≤ 8 := hB.1
      have g2 : 0 ≤ (SC D d c).1.2.1 ∧ (SC D d c).1.2.1 ≤ 60 := hB.2.1
      have g3 : 0 ≤ (SC D d c).1.2.2.1 ∧ (SC D d c).1.2.2.1 ≤ 16 := hB.2.2.1
      have E1 : ∀ u8 : AV, (bs < 0 ∨ nb (SC D d bs) (SC D d c) = false) → AX κ mX12_best 60 (QS (fun r μ' ν' => ∃ b : Int, isBst D d (cdP d D.cnt 0 : Int) b ∧ r = some (aI (telV (SC D d b) w)) ∧ ν' = ν2 ∧ SB μ0 μ')) 137 [aR 55, aI w, aI (cdP d D.cnt 0 : Int), aI bs, aI s1, aI s2, aI s3, aI c, u8] [aI 1] μ2 ν2 := fun u8 hb => by
        refine aw_blk oX12_best_137 (pc' := 141) (ls' := [_, _, _, _, _, _, _, _, _]) (st' := [_]) (cs := []) rfl trivial ?_
        refine aw_if_eq (tgt := 165) eX12_best_141 (by decide) (by omega) (fun h9 => ?_) (fun h9 => ?_)
        · exfalso; omega
        · refine aw_blk oX12_best_144 (pc' := 165) (ls' := [_, _, _, _, _, _, _, _, _]) (st' := []) (cs := []) rfl trivial ?_
          refine aw_blk oX12_best_165 (pc' := 66) (ls' := [_, _, _, _, _, _, _, _, _]) (st' := []) (cs := []) rfl trivial ?_
          refine ih (c + 1) c _ _ _ _ μ2 (by omega) (by omega) hS2 (Or.inr ⟨by omega, ?_, v1, v2, v3⟩)
          rcases hI with ⟨a1, a2, -⟩ | ⟨a1, a2, -⟩
          · refine ⟨by omega, fun x x0 x1 => ?_, fun x x0 x1 => by omega⟩
            rw [show x = c by omega]; exact nb_rf
          · have := a2.1
            rcases hb with hb | hb
            · omega
            · exact a2.take hb
      have E0 : ∀ u8 : AV, ¬ bs < 0 → nb (SC D d bs) (SC D d c) = true → AX κ mX12_best 60 (QS (fun r μ' ν' => ∃ b : Int, isBst D d (cdP d D.cnt 0 : Int) b ∧ r = some (aI (telV (SC D d b) w)) ∧ ν' = ν2 ∧ SB μ0 μ')) 137 [aR 55, aI w, aI (cdP d D.cnt 0 : Int), aI bs, aI s1, aI s2, aI s3, aI c, u8] [aI 0] μ2 ν2 := fun u8 hb0 hb => by
        refine aw_blk oX12_best_137 (pc' := 141) (ls' := [_, _, _, _, _, _, _, _, _]) (st' := [_]) (cs := []) rfl trivial ?_
        refine aw_if_eq (tgt := 165) eX12_best_141 (by decide) (by omega) (fun h9 => ?_) (fun h9 => ?_)
        · refine aw_blk oX12_best_165 (pc' := 66) (ls' := [_, _, _, _, _, _, _, _, _]) (st' := []) (cs := []) rfl trivial ?_
          refine ih (c + 1) bs s1 s2 s3 _ μ2 (by omega) (by omega) hS2 (Or.inr ?_)
          rcases hI with ⟨a1, a2, -⟩ | ⟨a1, a2, a3⟩
          · omega
          · exact ⟨by omega, a2.next hb, a3⟩
        · exfalso; omega
      have hv : ¬ bs < 0 → s1 = (SC D d bs).1.1 ∧ s2 = (SC D d bs).1.2.1 ∧ s3 = (SC D d bs).1.2.2.1 := fun k => by
        rcases hI with ⟨a1, a2, -⟩ | ⟨a1, a2, a3⟩
        · omega
        · exact a3
      refine aw_blk oX12_best_83 (pc' := 84) (ls' := [_, _, _, _, _, _, _, _, _]) (st' := [_]) (cs := []) rfl trivial ?_
      refine aw_if_lt (tgt := 132) eX12_best_84 (by decide) (by omega) (fun h2 => ?_) (fun h2 => ?_)
      · refine aw_blk oX12_best_132 (pc' := 137) (ls' := [_, _, _, _, _, _, _, _, _]) (st' := [_]) (cs := []) rfl trivial ?_
        exact E1 _ (Or.inl h2)
      · have hv := hv (by omega)
        refine aw_blk oX12_best_87 (pc' := 93) (ls' := [_, _, _, _, _, _, _, _, _]) (st' := [_, _]) (cs := []) rfl trivial ?_
        rw [v1]
        refine aw_icmp_gt (tgt := 132) eX12_best_93 (by decide) (by omega) (by omega) (fun h3 => ?_) (fun h3 => ?_)
        · refine aw_blk oX12_best_132 (pc' := 137) (ls' := [_, _, _, _, _, _, _, _, _]) (st' := [_]) (cs := []) rfl trivial ?_
          exact E1 _ (Or.inr (nb_f (by omega)))
        · refine aw_blk oX12_best_96 (pc' := 102) (ls' := [_, _, _, _, _, _, _, _, _]) (st' := [_, _]) (cs := []) rfl trivial ?_
          rw [v1]
          refine aw_icmp_ne (tgt := 136) eX12_best_102 (by decide) (by omega) (by omega) (fun h4 => ?_) (fun h4 => ?_)
          · refine aw_blk oX12_best_136 (pc' := 137) (ls' := [_, _, _, _, _, _, _, _, _]) (st' := [_]) (cs := []) rfl trivial ?_
            exact E0 _ (by omega) (nb_t (by omega))
          · refine aw_blk oX12_best_105 (pc' := 111) (ls' := [_, _, _, _, _, _, _, _, _]) (st' := [_, _]) (cs := []) rfl trivial ?_
            rw [v2]
            refine aw_icmp_lt (tgt := 132) eX12_best_111 (by decide) (by omega) (by omega) (fun h5 => ?_) (fun h5 => ?_)
            · refine aw_blk oX12_best_132 (pc' := 137) (ls' := [_, _, _, _, _, _, _, _, _]) (st' := [_]) (cs := []) rfl trivial ?_
              exact E1 _ (Or.inr (nb_f (by omega)))
            · refine aw_blk oX12_best_114 (pc' := 120) (ls' := [_, _, _, _, _, _, _, _, _]) (st' := [_, _]) (cs := []) rfl trivial ?_
              rw [v2]
              refine aw_icmp_ne (tgt := 136) eX12_best_120 (by decide) (by omega) (by omega) (fun h6 => ?_) (fun h6 => ?_)
              · refine aw_blk oX12_best_136 (pc' := 137) (ls' := [_, _, _, _, _, _, _, _, _]) (st' := [_]) (cs := []) rfl trivial ?_
                exact E0 _ (by omega) (nb_t (by omega))
              · refine aw_blk oX12_best_123 (pc' := 129) (ls' := [_, _, _, _, _, _, _, _, _]) (st' := [_, _]) (cs := []) rfl trivial ?_
                rw [v3]
                refine aw_icmp_le (tgt := 136) eX12_best_129 (by decide) (by omega) (by omega) (fun h7 => ?_) (fun h7 => ?_)
                · refine aw_blk oX12_best_136 (pc' := 137) (ls' := [_, _, _, _, _, _, _, _, _]) (st' := [_]) (cs := []) rfl trivial ?_
                  exact E0 _ (by omega) (nb_t (by omega))
                · refine aw_blk oX12_best_132 (pc' := 137) (ls' := [_, _, _, _, _, _, _, _, _]) (st' := [_]) (cs := []) rfl trivial ?_
                  exact E1 _ (Or.inr (nb_f (by omega)))
theorem l_codes {κ : KX} {μ : MM} {ν : ML} {d cnt w : Int} {P : Option AV → List SH → MM → ML → Prop} (hc : 1 ≤ cnt ∧ cnt ≤ 8) (e4 : μ 55 4 = cnt) (e6 : μ 55 6 = d) (K : ∀ u3 : AV, AX κ mX12_best 60 P 52 [aR 55, aI w, aI (cdP d cnt 0 : Int), u3, aU, aU, aU, aU, aU] [] μ ν) (n : Nat) : ∀ (p codes : Int), 0 ≤ p → p + n = cnt → codes * (cdP d cnt p : Int) = (cdP d cnt 0 : Int) → AX κ mX12_best 60 P 14 [aR 55, aI w, aI codes, aI p, aU, aU, aU, aU, aU] [] μ ν := by
  induction n with
  | zero =>
    intro p codes p0 pn e
    rw [show p = cnt by omega, cdP_e] at e
    have e : codes * 1 = (cdP d cnt 0 : Int) := e
    rw [Int.mul_one] at e
    subst e
    refine aw_blk oX12_best_14 (pc' := 19) (ls' := [_, _, _, _, _, _, _, _, _]) (st' := [_, _]) (cs := []) rfl trivial ?_
    refine aw_icmp_ge (tgt := 52) eX12_best_19 (by decide) (by omega) (by omega) (fun h1 => ?_) (fun h1 => ?_)
    · exact K _
    · exfalso; omega
  | succ n ih =>
    intro p codes p0 pn e
    rw [cdP_s (p := p) (by omega)] at e
    refine aw_blk oX12_best_14 (pc' := 19) (ls' := [_, _, _, _, _, _, _, _, _]) (st' := [_, _]) (cs := []) rfl trivial ?_
    refine aw_icmp_ge (tgt := 52) eX12_best_19 (by decide) (by omega) (by omega) (fun h1 => ?_) (fun h1 => ?_)
    · exfalso; omega
    · refine aw_blk oX12_best_22 (pc' := 24) (ls' := [_, _, _, _, _, _, _, _, _]) (st' := [_, _]) (cs := []) rfl trivial ?_
      have E3 : dor d p → AX κ mX12_best 60 P 39 [aR 55, aI w, aI codes, aI p, aU, aU, aU, aU, aU] [aI codes] μ ν := fun dd => by
        rw [if_pos dd] at e
        refine aw_blk oX12_best_39 (pc' := 44) (ls' := [_, _, _, _, _, _, _, _, _]) (st' := [_, _]) (cs := []) rfl trivial ?_
        refine aw_blk oX12_best_44 (pc' := 14) (ls' := [_, _, _, _, _, _, _, _, _]) (st' := []) (cs := []) rfl trivial ?_
        refine ih (p + 1) (codes * 3) (by omega) (by omega) ?_
        rw [← e, Int.mul_assoc]
        congr 1
      have E1 : ¬ dor d p → AX κ mX12_best 60 P 43 [aR 55, aI w, aI codes, aI p, aU, aU, aU, aU, aU] [aI codes] μ ν := fun dd => by
        rw [if_neg dd] at e
        refine aw_blk oX12_best_43 (pc' := 44) (ls' := [_, _, _, _, _, _, _, _, _]) (st' := [_, _]) (cs := []) rfl trivial ?_
        refine aw_blk oX12_best_44 (pc' := 14) (ls' := [_, _, _, _, _, _, _, _, _]) (st' := []) (cs := []) rfl trivial ?_
        refine ih (p + 1) (codes * 1) (by omega) (by omega) ?_
        rw [Int.mul_one]
        exact e
      refine aw_if_eq (tgt := 39) eX12_best_24 (by decide) (by omega) (fun h2 => ?_) (fun h2 => ?_)
      · exact E3 (Or.inl h2)
      · refine aw_blk oX12_best_27 (pc' := 36) (ls' := [_, _, _, _, _, _, _, _, _]) (st' := [_, _, _]) (cs := []) rfl trivial ?_
        rw [e6]
        refine aw_icmp_ne (tgt := 43) eX12_best_36 (by decide) (by first | exact bitk_R d p | omega) (by first | exact bitk_R d p | omega) (fun h3 => ?_) (fun h3 => ?_)
        · exact E1 (ndor h2 h3)
        · exact E3 (Or.inr h3)
theorem c_bestM {κ : KX} {μ : MM} {ν : ML} {D : FD} {d w : Int} (hM : MD μ D) (e6 : μ 55 6 = d) (hwR : R32 w) (hw : told w) : AQ κ 60 mX12_best [aR 55, aI w] μ ν (fun r μ' ν' => ∃ b : Int, isBst D d (cdP d D.cnt 0 : Int) b ∧ r = some (aI (telV (SC D d b) w)) ∧ ν' = ν ∧ SB μ μ') := by
  have o := hM.1.1
  refine AMet.of kX12_best.1 (Nat.le_of_ble_eq_true rfl) rfl ?_
  refine aw_blk oX12_best_0 (pc' := 1) (ls' := [_, _, _, _, _, _, _, _, _]) (st' := [_]) (cs := []) rfl trivial ?_
  refine aw_ciS (rest := []) (c_isTold1 hwR hw) kX12_isTold eX12_best_1 lX12_best_1 rfl rfl (Nat.le_of_ble_eq_true rfl) ⟨Nat.le_of_ble_eq_true rfl, Nat.le_of_ble_eq_true rfl⟩ ⟨Nat.le_refl _, Nat.le_refl _⟩ ?_
  refine aw_if_ne (tgt := 10) eX12_best_4 (by decide) (by omega) (fun h1 => ?_) (fun h1 => ?_)
  · refine aw_blk oX12_best_10 (pc' := 14) (ls' := [_, _, _, _, _, _, _, _, _]) (st' := []) (cs := []) rfl trivial ?_
    refine l_codes (d := d) (cnt := D.cnt) o hM.2.2.2.1 e6 (fun u3 => ?_) D.cnt.toNat 0 1 (by omega) (by omega) (by omega)
    refine aw_blk oX12_best_52 (pc' := 66) (ls' := [_, _, _, _, _, _, _, _, _]) (st' := []) (cs := []) rfl trivial ?_
    exact l_bestM hM e6 hw (cdP d D.cnt 0) 0 (-1) 0 0 0 _ μ (by omega) (by omega) SB.rf (Or.inl ⟨rfl, rfl, rfl, rfl, rfl⟩)
  · exfalso; omega

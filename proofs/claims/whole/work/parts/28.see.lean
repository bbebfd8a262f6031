/-! ===== see, owed ===== -/
theorem anyR_lim {μ : MM} {ν : ML} (h : RR μ ν) {s f hr : Int} : ∀ (n : Nat) (i : Int), 0 ≤ i → i + n ≤ 12 → anyR (pA μ s f hr) n i = true → μ 46 (s * 6 + f) < 20
  | 0, _, _, _, q => by cases q
  | n + 1, i, h0, h1, q => by
    simp only [anyR, Bool.or_eq_true] at q
    rcases q with q | q
    · unfold pA at q
      have q := of_decide_eq_true q
      obtain ⟨-, -, -, -, -, -, -, -, -, b⟩ := h.2.1 i h0 (by omega)
      omega
    · exact anyR_lim h n (i + 1) (by omega) (by omega) q
def frs (X : Nat) (a u : Int) : Int := if a ≤ u ∧ tb X u = 0 then 1 else 0
theorem frs_class {x : Int64} {a b : Int} (ha : 0 ≤ a) (hab : a ≤ b) (hb : b < 60) : lbc (lShl (lUshr (Int64.ofInt (-1)) (63 - (b - a))) a &&& (x ^^^ Int64.ofInt (-1))) = sm (frs (n64 x) a) (b.toNat + 1) := by
  obtain ⟨A, rfl⟩ : ∃ A : Nat, a = A := ⟨a.toNat, by omega⟩
  obtain ⟨B, rfl⟩ : ∃ B : Nat, b = B := ⟨b.toNat, by omega⟩
  rw [show (63 : Int) - ((B : Int) - A) = ((63 - (B - A) : Nat) : Int) by omega]
  have key : ∀ t : Nat, t < 64 → tb (n64 (lShl (lUshr (Int64.ofInt (-1)) ((63 - (B - A) : Nat) : Int)) (A : Int) &&& (x ^^^ Int64.ofInt (-1)))) t = if (A : Int) ≤ t ∧ (t : Int) ≤ B ∧ tb (n64 x) t = 0 then 1 else 0 := by
    intro t ht
    unfold tb
    rw [n64_and, n64_xor, Int.toNat_natCast, Nat.testBit_and, Nat.testBit_xor, spn_tb (by omega) (by omega) t ht, show n64 (Int64.ofInt (-1)) = 2 ^ 64 - 1 by decide, Nat.testBit_two_pow_sub_one]
    by_cases h1 : A ≤ t <;> by_cases h2 : t ≤ B <;> cases h3 : (n64 x).testBit t <;> simp [ht, h1, h2] <;> omega
  rw [lbc_sm, show 64 = (B + 1) + (63 - B) by omega, sm_tail (63 - B) (fun k h1 h2 => by rw [key k (by omega), if_neg (by omega)]), Int.toNat_natCast]
  refine sm_congr (B + 1) (fun k hk => ?_)
  rw [key k (by omega)]
  unfold frs
  by_cases q : (A : Int) ≤ k ∧ tb (n64 x) k = 0
  · rw [if_pos q, if_pos ⟨q.1, by omega, q.2⟩]
  · rw [if_neg q, if_neg (fun z => q ⟨z.1, z.2.2⟩)]
def rowT (g : Int → Int) (base a t : Int) : Int → Int := fun j => if base + a ≤ j ∧ j < base + t then 1 else g j
theorem rowT_s {g : Int → Int} {base a t : Int} (h : a ≤ t) : rowU (rowT g base a t) (base + t) 1 = rowT g base a (t + 1) := by
  funext j
  unfold rowU rowT
  by_cases e : j = base + t
  · rw [if_pos e, if_pos (by omega)]
  · rw [if_neg e]
    by_cases q : base + a ≤ j ∧ j < base + t
    · rw [if_pos q, if_pos (by omega)]
    · rw [if_neg q, if_neg (by omega)]
theorem l_see {κ : KX} {μ : MM} {ν : ML} {P : Option AV → List SH → MM → ML → Prop} {s f hr a b : Int} {X : Nat} (hs : 0 ≤ s ∧ s < 8) (hf : 0 ≤ f ∧ f < 6) (ha : 0 ≤ a) (hab : a ≤ b) (hb : b < 60) (hX : ∀ t : Int, 0 ≤ t → t < 60 → μ 69 (60 * (6 * s + f) + t) = tb X t) (K : ∀ u8 : AV, AX κ mX12_see 60 P 134 [aR 55, aI s, aI f, aI hr, aI a, aI b, aI (sm (frs X a) (b.toNat + 1)), aI (b + 1), u8] [] (setRow μ 69 (rowT (μ 69) (60 * (6 * s + f)) a (b + 1))) ν) (n : Nat) : ∀ (k : Nat) (u8 : AV), (k : Int) + n = b + 1 → a ≤ k → AX κ mX12_see 60 P 79 [aR 55, aI s, aI f, aI hr, aI a, aI b, aI (sm (frs X a) k), aI k, u8] [] (setRow μ 69 (rowT (μ 69) (60 * (6 * s + f)) a k)) ν := by
  induction n with
  | zero =>
    intro k u8 hk ha2
    have e : (k : Int) = b + 1 := by omega
    have e2 : k = b.toNat + 1 := by omega
    rw [e, e2]
    refine aw_blk oX12_see_79 (pc' := 83) (ls' := [_, _, _, _, _, _, _, _, _]) (st' := [_, _]) (cs := []) rfl trivial ?_
    refine aw_icmp_gt (tgt := 134) eX12_see_83 (by decide) (by omega) (by omega) (fun h => ?_) (fun h => ?_)
    · exact K u8
    · exfalso; omega
  | succ n ih =>
    intro k u8 hk ha2
    have T := fun u => ih (k + 1) u (by omega) (by omega)
    rw [sm_succ (n := k)] at T
    have gv : (setRow μ 69 (rowT (μ 69) (60 * (6 * s + f)) a k)) 69 (60 * (6 * s + f) + k) = tb X k := by
      rw [setRow_at]
      unfold rowT
      rw [if_neg (by omega)]
      exact hX k (by omega) (by omega)
    have gb := tb_bd X (k : Int)
    have er : up (setRow μ 69 (rowT (μ 69) (60 * (6 * s + f)) a k)) 69 (60 * (6 * s + f) + k) 1 = setRow μ 69 (rowT (μ 69) (60 * (6 * s + f)) a ((k : Int) + 1)) := by
      rw [up_setRow, rowT_s ha2]
    refine aw_blk oX12_see_79 (pc' := 83) (ls' := [_, _, _, _, _, _, _, _, _]) (st' := [_, _]) (cs := []) rfl trivial ?_
    refine aw_icmp_gt (tgt := 134) eX12_see_83 (by decide) (by omega) (by omega) (fun h => ?_) (fun h => ?_)
    · exfalso; omega
    · refine aw_blk oX12_see_86 (pc' := 109) (ls' := [_, _, _, _, _, _, _, _, _]) (st' := [_, _]) (cs := [(_, _)]) rfl (⟨⟨by omega, by omega⟩, trivial⟩) ?_
      refine aw_if_eq (tgt := 116) eX12_see_109 (by decide) (by omega) (fun h2 => ?_) (fun h2 => ?_)
      · rw [show frs X a (k : Int) = 1 from if_pos ⟨ha2, by omega⟩] at T
        refine aw_blk oX12_see_116 (pc' := 117) (ls' := [_, _, _, _, _, _, _, _, _]) (st' := [_, _]) (cs := []) rfl trivial ?_
        refine aw_blk oX12_see_117 (pc' := 79) (ls' := [_, _, _, _, _, _, _, _, _]) (st' := []) (cs := [(_, _), (_, _)]) rfl (⟨⟨by omega, by omega⟩, ⟨by omega, by omega⟩, trivial⟩) ?_
        rw [er]
        exact T _
      · rw [show frs X a (k : Int) = 0 from if_neg (by omega)] at T
        refine aw_blk oX12_see_112 (pc' := 117) (ls' := [_, _, _, _, _, _, _, _, _]) (st' := [_, _]) (cs := []) rfl trivial ?_
        refine aw_blk oX12_see_117 (pc' := 79) (ls' := [_, _, _, _, _, _, _, _, _]) (st' := []) (cs := [(_, _), (_, _)]) rfl (⟨⟨by omega, by omega⟩, ⟨by omega, by omega⟩, trivial⟩) ?_
        rw [er]
        exact T _
theorem sm_zero {g : Int → Int} : ∀ n : Nat, (∀ k : Nat, k < n → g k = 0) → sm g n = 0
  | 0, _ => rfl
  | n + 1, h => by rw [sm_succ, sm_zero n (fun k hk => h k (by omega)), h n (by omega)]; rfl
theorem law_see {κ : KX} {μ : MM} {ν : ML} {s f hr a b : Int} (h : RR μ ν) (hs : R32 s) (hf : R32 f) (hh : R32 hr) (ha : R32 a) (hb : R32 b) : LawN RR csR κ mX11_see mX12_see [aI s, aI f, aI hr, aI a, aI b] μ ν := by
  obtain ⟨cn, r, l, t, q⟩ := id h
  by_cases c1 : (0 ≤ s ∧ s ≤ 7) ∧ (0 ≤ f ∧ f ≤ 5)
  · by_cases c2 : (0 ≤ hr ∧ hr ≤ 999) ∧ (0 ≤ a ∧ a ≤ 59) ∧ (a ≤ b ∧ b ≤ 59)
    · have hA := c_allow (κ := κ) h (s := s) (f := f) (hr := hr) (by omega) (by omega) (by omega)
      by_cases ca : anyR (pA μ s f hr) (μ 38 5).toNat 0 = true
      · rw [if_pos ca] at hA
        have hlim := anyR_lim h (s := s) (f := f) (hr := hr) (μ 38 5).toNat 0 (by omega) (by omega) ca
        have gt1 := t (s * 6 + f) (by omega) (by omega)
        have gq := q (s * 6 + f) (by omega) (by omega)
        have hfr := frs_class (x := ν 45 (s * 6 + f)) (a := a) (b := b) (by omega) (by omega) (by omega)
        obtain ⟨μ1, hμ1⟩ : ∃ m, m = up μ 46 (s * 6 + f) (μ 46 (s * 6 + f) + 1) := ⟨_, rfl⟩
        obtain ⟨sp, hsp⟩ : ∃ m, m = lShl (lUshr (Int64.ofInt (-1)) (63 - (b - a))) a := ⟨_, rfl⟩
        have hM := c_mayItU (κ := κ) (μ' := μ1) (ν' := upL ν 45 (s * 6 + f) (ν 45 (s * 6 + f) ||| sp)) h (by rw [hμ1]; rfl) (by rw [hμ1]; rfl) (by rw [hμ1]; rfl) (by rw [hμ1]; rfl) (s := s) (f := f) (hr := hr) (by omega) (by omega) (by omega)
        rw [if_pos ca] at hM
        have e69 : μ1 69 = μ 69 := by rw [hμ1]; rfl
        have e70 : μ1 70 = μ 70 := by rw [hμ1]; rfl
        obtain ⟨μ2, hμ2⟩ : ∃ m, m = up (setRow μ1 69 (rowT (μ1 69) (60 * (6 * s + f)) a (b + 1))) 70 (6 * s + f) (μ 46 (s * 6 + f) + 1) := ⟨_, rfl⟩
        have zb : R32 (sm (frs (n64 (ν 45 (s * 6 + f))) a) (b.toNat + 1)) := by
          have := lbc_bd (lShl (lUshr (Int64.ofInt (-1)) (63 - (b - a))) a &&& (ν 45 (s * 6 + f) ^^^ Int64.ofInt (-1)))
          rw [hfr] at this
          omega
        refine ⟨sm (frs (n64 (ν 45 (s * 6 + f))) a) (b.toNat + 1), μ1, upL ν 45 (s * 6 + f) (ν 45 (s * 6 + f) ||| sp), μ2, ?_, ?_, zb, ?_, ?_⟩
        · skip
          refine AMet.of kX11_see.1 (Nat.le_of_ble_eq_true rfl) rfl ?_
          refine aw_blk oX11_see_0 (pc' := 1) (ls' := [_, _, _, _, _, _]) (st' := [_]) (cs := []) rfl trivial ?_
          refine aw_ciS (rest := []) (c_X11_isSeer (by omega)) kX11_isSeer eX11_see_1 lX11_see_1 rfl rfl (Nat.le_of_ble_eq_true rfl) ⟨Nat.le_of_ble_eq_true rfl, Nat.le_of_ble_eq_true rfl⟩ ⟨Nat.le_refl _, Nat.le_refl _⟩ ?_
          refine aw_if_eq (tgt := 14) eX11_see_4 (by decide) bt_r (fun hh => have h156 := bt0 hh; ?_) (fun hh => have h156 := bt1 hh; ?_)
          · first
            | (exfalso; omega; done)
            | (refine aw_blk oX11_see_14 (pc' := 15) (ls' := [_, _, _, _, _, _]) (st' := [_]) (cs := []) rfl trivial ?_
               refine aw_iret eX11_see_15 rfl (Nat.le_refl _) (Nat.le_refl _) ?_
               exact pe_i hfr (by rw [hμ1]) (by rw [hsp]))
          · first
            | (exfalso; omega; done)
            | (refine aw_blk oX11_see_7 (pc' := 8) (ls' := [_, _, _, _, _, _]) (st' := [_]) (cs := []) rfl trivial ?_
               refine aw_ciS (rest := []) (c_X11_isFilm (by omega)) kX11_isFilm eX11_see_8 lX11_see_8 rfl rfl (Nat.le_of_ble_eq_true rfl) ⟨Nat.le_of_ble_eq_true rfl, Nat.le_of_ble_eq_true rfl⟩ ⟨Nat.le_refl _, Nat.le_refl _⟩ ?_
               refine aw_if_ne (tgt := 16) eX11_see_11 (by decide) bt_r (fun hh => have h157 := bt1 hh; ?_) (fun hh => have h157 := bt0 hh; ?_)
               · first
                 | (exfalso; omega; done)
                 | (refine aw_blk oX11_see_16 (pc' := 21) (ls' := [_, _, _, _, _, _]) (st' := [_, _, _]) (cs := []) rfl trivial ?_
                    refine aw_ciS (rest := []) (c_X11_between (by omega) (by omega) (by omega)) kX11_between eX11_see_21 lX11_see_21 rfl rfl (Nat.le_of_ble_eq_true rfl) ⟨Nat.le_of_ble_eq_true rfl, Nat.le_of_ble_eq_true rfl⟩ ⟨Nat.le_refl _, Nat.le_refl _⟩ ?_
                    refine aw_if_eq (tgt := 50) eX11_see_24 (by decide) bt_r (fun hh => have h158 := bt0 hh; ?_) (fun hh => have h158 := bt1 hh; ?_)
                    · first
                      | (exfalso; omega; done)
                      | (refine aw_blk oX11_see_50 (pc' := 52) (ls' := [_, _, _, _, _, _]) (st' := [_]) (cs := []) rfl trivial ?_
                         refine aw_iret eX11_see_52 rfl (Nat.le_refl _) (Nat.le_refl _) ?_
                         exact pe_i hfr (by rw [hμ1]) (by rw [hsp]))
                    · first
                      | (exfalso; omega; done)
                      | (refine aw_blk oX11_see_27 (pc' := 32) (ls' := [_, _, _, _, _, _]) (st' := [_, _, _]) (cs := []) rfl trivial ?_
                         refine aw_ciS (rest := []) (c_X11_between (by omega) (by omega) (by omega)) kX11_between eX11_see_32 lX11_see_32 rfl rfl (Nat.le_of_ble_eq_true rfl) ⟨Nat.le_of_ble_eq_true rfl, Nat.le_of_ble_eq_true rfl⟩ ⟨Nat.le_refl _, Nat.le_refl _⟩ ?_
                         refine aw_if_eq (tgt := 50) eX11_see_35 (by decide) bt_r (fun hh => have h159 := bt0 hh; ?_) (fun hh => have h159 := bt1 hh; ?_)
                         · first
                           | (exfalso; omega; done)
                           | (refine aw_blk oX11_see_50 (pc' := 52) (ls' := [_, _, _, _, _, _]) (st' := [_]) (cs := []) rfl trivial ?_
                              refine aw_iret eX11_see_52 rfl (Nat.le_refl _) (Nat.le_refl _) ?_
                              exact pe_i hfr (by rw [hμ1]) (by rw [hsp]))
                         · first
                           | (exfalso; omega; done)
                           | (refine aw_blk oX11_see_38 (pc' := 44) (ls' := [_, _, _, _, _, _]) (st' := [_, _, _]) (cs := []) rfl trivial ?_
                              refine aw_ciS (rest := []) (c_X11_between (by omega) (by omega) (by omega)) kX11_between eX11_see_44 lX11_see_44 rfl rfl (Nat.le_of_ble_eq_true rfl) ⟨Nat.le_of_ble_eq_true rfl, Nat.le_of_ble_eq_true rfl⟩ ⟨Nat.le_refl _, Nat.le_refl _⟩ ?_
                              refine aw_if_ne (tgt := 53) eX11_see_47 (by decide) bt_r (fun hh => have h160 := bt1 hh; ?_) (fun hh => have h160 := bt0 hh; ?_)
                              · first
                                | (exfalso; omega; done)
                                | (refine aw_blk oX11_see_53 (pc' := 60) (ls' := [_, _, _, _, _, _]) (st' := [_, _, _, _]) (cs := []) rfl trivial ?_
                                   refine aw_ciV (rest := []) (hA) kX7_allow eX11_see_60 lX11_see_60 rfl rfl rfl rfl (Nat.le_of_ble_eq_true rfl) ⟨Nat.le_of_ble_eq_true rfl, Nat.le_of_ble_eq_true rfl⟩ ⟨Nat.le_refl _, Nat.le_refl _⟩ ?_
                                   refine aw_if_ne (tgt := 69) eX11_see_63 (by decide) (by omega) (fun h161 => ?_) (fun h161 => ?_)
                                   · first
                                     | (exfalso; omega; done)
                                     | (refine aw_blk oX11_see_69 (pc' := 79) (ls' := [_, _, _, _, _, _]) (st' := [_, _, _, _, _]) (cs := []) rfl trivial ?_
                                        refine aw_ciV (rest := []) (c_addSeeing (by omega) (by omega) (by omega) (by omega) (by omega)) kX7_addSeeing eX11_see_79 lX11_see_79 rfl rfl rfl rfl (Nat.le_of_ble_eq_true rfl) ⟨Nat.le_of_ble_eq_true rfl, Nat.le_of_ble_eq_true rfl⟩ ⟨Nat.le_refl _, Nat.le_refl _⟩ ?_
                                        refine aw_iret eX11_see_82 rfl (Nat.le_refl _) (Nat.le_refl _) ?_
                                        exact pe_i hfr (by rw [hμ1]) (by rw [hsp]))
                                   · first
                                     | (exfalso; omega; done)
                                     | (refine aw_blk oX11_see_66 (pc' := 68) (ls' := [_, _, _, _, _, _]) (st' := [_]) (cs := []) rfl trivial ?_
                                        refine aw_iret eX11_see_68 rfl (Nat.le_refl _) (Nat.le_refl _) ?_
                                        exact pe_i hfr (by rw [hμ1]) (by rw [hsp])))
                              · first
                                | (exfalso; omega; done)
                                | (refine aw_blk oX11_see_50 (pc' := 52) (ls' := [_, _, _, _, _, _]) (st' := [_]) (cs := []) rfl trivial ?_
                                   refine aw_iret eX11_see_52 rfl (Nat.le_refl _) (Nat.le_refl _) ?_
                                   exact pe_i hfr (by rw [hμ1]) (by rw [hsp])))))
               · first
                 | (exfalso; omega; done)
                 | (refine aw_blk oX11_see_14 (pc' := 15) (ls' := [_, _, _, _, _, _]) (st' := [_]) (cs := []) rfl trivial ?_
                    refine aw_iret eX11_see_15 rfl (Nat.le_refl _) (Nat.le_refl _) ?_
                    exact pe_i hfr (by rw [hμ1]) (by rw [hsp])))
        · have K : ∀ u8 : AV, AX κ mX12_see 60 (PE (some (aI (sm (frs (n64 (ν 45 (s * 6 + f))) a) (b.toNat + 1)))) μ2 (upL ν 45 (s * 6 + f) (ν 45 (s * 6 + f) ||| sp))) 134 [aR 55, aI s, aI f, aI hr, aI a, aI b, aI (sm (frs (n64 (ν 45 (s * 6 + f))) a) (b.toNat + 1)), aI (b + 1), u8] [] (setRow μ1 69 (rowT (μ1 69) (60 * (6 * s + f)) a (b + 1))) (upL ν 45 (s * 6 + f) (ν 45 (s * 6 + f) ||| sp)) := by
            intro u8
            refine aw_blk oX12_see_134 (pc' := 151) (ls' := [_, _, _, _, _, _, _, _, _]) (st' := [_]) (cs := [(_, _), (_, _)]) rfl (⟨⟨by omega, by omega⟩, ⟨by omega, by omega⟩, trivial⟩) ?_
            refine aw_iret eX12_see_151 rfl (Nat.le_refl _) (Nat.le_refl _) ?_
            refine pe_i rfl ?_ rfl
            rw [hμ2, setRow_ne (by decide), e70, show 6 * s + f = s * 6 + f by omega, gt1.1]
          have T := l_see (κ := κ) (μ := μ1) (hr := hr) (a := a) (b := b) (X := n64 (ν 45 (s * 6 + f))) (s := s) (f := f) (by omega) (by omega) (by omega) (by omega) (by omega) (fun x h0 h1 => by rw [e69, show 60 * (6 * s + f) = 60 * (s * 6 + f) by omega]; exact gq.2 x h0 h1) K (b + 1 - a).toNat a.toNat aU (by omega) (by omega)
          rw [sm_zero a.toNat (fun k hk => by unfold frs; rw [if_neg (by omega)]), show ((a.toNat : Nat) : Int) = a by omega] at T
          have e0 : setRow μ1 69 (rowT (μ1 69) (60 * (6 * s + f)) a a) = μ1 := by
            have : rowT (μ1 69) (60 * (6 * s + f)) a a = μ1 69 := by
              funext j; unfold rowT; rw [if_neg (by omega)]
            rw [this]; exact setRow_self
          rw [e0] at T
          refine AMet.of kX12_see.1 (Nat.le_of_ble_eq_true rfl) rfl ?_
          refine aw_blk oX12_see_0 (pc' := 1) (ls' := [_, _, _, _, _, _, _, _, _]) (st' := [_]) (cs := []) rfl trivial ?_
          refine aw_ciS (rest := []) (c_X12_isSeer (by omega)) kX12_isSeer eX12_see_1 lX12_see_1 rfl rfl (Nat.le_of_ble_eq_true rfl) ⟨Nat.le_of_ble_eq_true rfl, Nat.le_of_ble_eq_true rfl⟩ ⟨Nat.le_refl _, Nat.le_refl _⟩ ?_
          refine aw_if_eq (tgt := 14) eX12_see_4 (by decide) bt_r (fun hh => have h162 := bt0 hh; ?_) (fun hh => have h162 := bt1 hh; ?_)
          · first
            | (exfalso; omega; done)
            | (refine aw_blk oX12_see_14 (pc' := 15) (ls' := [_, _, _, _, _, _, _, _, _]) (st' := [_]) (cs := []) rfl trivial ?_
               refine aw_iret eX12_see_15 rfl (Nat.le_refl _) (Nat.le_refl _) ?_
               exact pe_i rfl rfl rfl)
          · first
            | (exfalso; omega; done)
            | (refine aw_blk oX12_see_7 (pc' := 8) (ls' := [_, _, _, _, _, _, _, _, _]) (st' := [_]) (cs := []) rfl trivial ?_
               refine aw_ciS (rest := []) (c_X12_isFilm (by omega)) kX12_isFilm eX12_see_8 lX12_see_8 rfl rfl (Nat.le_of_ble_eq_true rfl) ⟨Nat.le_of_ble_eq_true rfl, Nat.le_of_ble_eq_true rfl⟩ ⟨Nat.le_refl _, Nat.le_refl _⟩ ?_
               refine aw_if_ne (tgt := 16) eX12_see_11 (by decide) bt_r (fun hh => have h163 := bt1 hh; ?_) (fun hh => have h163 := bt0 hh; ?_)
               · first
                 | (exfalso; omega; done)
                 | (refine aw_blk oX12_see_16 (pc' := 21) (ls' := [_, _, _, _, _, _, _, _, _]) (st' := [_, _, _]) (cs := []) rfl trivial ?_
                    refine aw_ciS (rest := []) (c_X12_in (by omega) (by omega) (by omega)) kX12_in eX12_see_21 lX12_see_21 rfl rfl (Nat.le_of_ble_eq_true rfl) ⟨Nat.le_of_ble_eq_true rfl, Nat.le_of_ble_eq_true rfl⟩ ⟨Nat.le_refl _, Nat.le_refl _⟩ ?_
                    refine aw_if_eq (tgt := 56) eX12_see_24 (by decide) bt_r (fun hh => have h164 := bt0 hh; ?_) (fun hh => have h164 := bt1 hh; ?_)
                    · first
                      | (exfalso; omega; done)
                      | (refine aw_blk oX12_see_56 (pc' := 58) (ls' := [_, _, _, _, _, _, _, _, _]) (st' := [_]) (cs := []) rfl trivial ?_
                         refine aw_iret eX12_see_58 rfl (Nat.le_refl _) (Nat.le_refl _) ?_
                         exact pe_i rfl rfl rfl)
                    · first
                      | (exfalso; omega; done)
                      | (refine aw_blk oX12_see_27 (pc' := 32) (ls' := [_, _, _, _, _, _, _, _, _]) (st' := [_, _, _]) (cs := []) rfl trivial ?_
                         refine aw_ciS (rest := []) (c_X12_in (by omega) (by omega) (by omega)) kX12_in eX12_see_32 lX12_see_32 rfl rfl (Nat.le_of_ble_eq_true rfl) ⟨Nat.le_of_ble_eq_true rfl, Nat.le_of_ble_eq_true rfl⟩ ⟨Nat.le_refl _, Nat.le_refl _⟩ ?_
                         refine aw_if_eq (tgt := 56) eX12_see_35 (by decide) bt_r (fun hh => have h165 := bt0 hh; ?_) (fun hh => have h165 := bt1 hh; ?_)
                         · first
                           | (exfalso; omega; done)
                           | (refine aw_blk oX12_see_56 (pc' := 58) (ls' := [_, _, _, _, _, _, _, _, _]) (st' := [_]) (cs := []) rfl trivial ?_
                              refine aw_iret eX12_see_58 rfl (Nat.le_refl _) (Nat.le_refl _) ?_
                              exact pe_i rfl rfl rfl)
                         · first
                           | (exfalso; omega; done)
                           | (refine aw_blk oX12_see_38 (pc' := 43) (ls' := [_, _, _, _, _, _, _, _, _]) (st' := [_, _, _]) (cs := []) rfl trivial ?_
                              refine aw_ciS (rest := []) (c_X12_in (by omega) (by omega) (by omega)) kX12_in eX12_see_43 lX12_see_43 rfl rfl (Nat.le_of_ble_eq_true rfl) ⟨Nat.le_of_ble_eq_true rfl, Nat.le_of_ble_eq_true rfl⟩ ⟨Nat.le_refl _, Nat.le_refl _⟩ ?_
                              refine aw_if_eq (tgt := 56) eX12_see_46 (by decide) bt_r (fun hh => have h166 := bt0 hh; ?_) (fun hh => have h166 := bt1 hh; ?_)
                              · first
                                | (exfalso; omega; done)
                                | (refine aw_blk oX12_see_56 (pc' := 58) (ls' := [_, _, _, _, _, _, _, _, _]) (st' := [_]) (cs := []) rfl trivial ?_
                                   refine aw_iret eX12_see_58 rfl (Nat.le_refl _) (Nat.le_refl _) ?_
                                   exact pe_i rfl rfl rfl)
                              · first
                                | (exfalso; omega; done)
                                | (refine aw_blk oX12_see_49 (pc' := 53) (ls' := [_, _, _, _, _, _, _, _, _]) (st' := [_, _]) (cs := []) rfl trivial ?_
                                   refine aw_icmp_le (tgt := 59) eX12_see_53 (by decide) (by omega) (by omega) (fun h167 => ?_) (fun h167 => ?_)
                                   · first
                                     | (exfalso; omega; done)
                                     | (refine aw_blk oX12_see_59 (pc' := 63) (ls' := [_, _, _, _, _, _, _, _, _]) (st' := [_, _, _, _]) (cs := []) rfl trivial ?_
                                        refine aw_ciV (rest := []) (hM) kX12_mayIt eX12_see_63 lX12_see_63 rfl rfl rfl rfl (Nat.le_of_ble_eq_true rfl) ⟨Nat.le_of_ble_eq_true rfl, Nat.le_of_ble_eq_true rfl⟩ ⟨Nat.le_refl _, Nat.le_refl _⟩ ?_
                                        refine aw_if_ne (tgt := 72) eX12_see_66 (by decide) (by omega) (fun h168 => ?_) (fun h168 => ?_)
                                        · first
                                          | (exfalso; omega; done)
                                          | (refine aw_blk oX12_see_72 (pc' := 79) (ls' := [_, _, _, _, _, _, _, _, _]) (st' := []) (cs := []) rfl trivial ?_
                                             exact T)
                                        · first
                                          | (exfalso; omega; done)
                                          | (refine aw_blk oX12_see_69 (pc' := 71) (ls' := [_, _, _, _, _, _, _, _, _]) (st' := [_]) (cs := []) rfl trivial ?_
                                             refine aw_iret eX12_see_71 rfl (Nat.le_refl _) (Nat.le_refl _) ?_
                                             exact pe_i rfl rfl rfl))
                                   · first
                                     | (exfalso; omega; done)
                                     | (refine aw_blk oX12_see_56 (pc' := 58) (ls' := [_, _, _, _, _, _, _, _, _]) (st' := [_]) (cs := []) rfl trivial ?_
                                        refine aw_iret eX12_see_58 rfl (Nat.le_refl _) (Nat.le_refl _) ?_
                                        exact pe_i rfl rfl rfl)))))
               · first
                 | (exfalso; omega; done)
                 | (refine aw_blk oX12_see_14 (pc' := 15) (ls' := [_, _, _, _, _, _, _, _, _]) (st' := [_]) (cs := []) rfl trivial ?_
                    refine aw_iret eX12_see_15 rfl (Nat.le_refl _) (Nat.le_refl _) ?_
                    exact pe_i rfl rfl rfl))
        · have k46 : μ2 46 = rowU (μ 46) (s * 6 + f) (μ 46 (s * 6 + f) + 1) := by
            rw [hμ2, up_cell (by decide), setRow_ne (by decide), hμ1, up_row]
          have k70 : μ2 70 = rowU (μ 70) (s * 6 + f) (μ 46 (s * 6 + f) + 1) := by
            rw [hμ2, up_row, setRow_ne (by decide), e70, show 6 * s + f = s * 6 + f by omega]
          have k69 : μ2 69 = rowT (μ 69) (60 * (6 * s + f)) a (b + 1) := by
            rw [hμ2, up_cell (by decide), setRow_at, e69]
          have kk : ∀ c, c ∉ [46, 69, 70] → μ2 c = μ c := by
            intro c hc
            simp only [List.mem_cons, List.not_mem_nil, or_false, not_or] at hc
            rw [hμ2, up_cell hc.2.2, setRow_ne hc.2.1, hμ1, up_cell hc.1]
          refine ⟨by rw [kk 38 (by decide), kk 55 (by decide)]; exact cn, fun x h0 h1 => ?_, fun x h0 h1 => ?_, fun x h0 h1 => ?_, fun i h0 h1 => ?_⟩
          · unfold rgt
            rw [kk 67 (by decide), kk 39 (by decide), kk 40 (by decide), kk 41 (by decide), kk 42 (by decide), kk 43 (by decide)]
            exact r x h0 h1
          · rw [kk 68 (by decide), kk 44 (by decide)]; exact l x h0 h1
          · rw [k46, k70]
            have := t x h0 h1
            unfold rowU
            by_cases e : x = s * 6 + f
            · rw [if_pos e, if_pos e]; omega
            · rw [if_neg e, if_neg e]; exact this
          · obtain ⟨A, hA2⟩ : ∃ A : Nat, a = A := ⟨a.toNat, by omega⟩
            obtain ⟨B, hB2⟩ : ∃ B : Nat, b = B := ⟨b.toNat, by omega⟩
            have hspb : ∀ x : Nat, (n64 sp).testBit x = decide (A ≤ x ∧ x ≤ B) := by
              intro x
              by_cases hx : x < 64
              · have := spn_tb (a := A) (b := B) (by omega) (by omega) x hx
                rw [← this, hsp, hA2, hB2, show (63 : Int) - ((B : Int) - A) = ((63 - (B - A) : Nat) : Int) by omega]
              · have h3 : n64 sp < 2 ^ x := Nat.lt_of_lt_of_le (n64_lt sp) (Nat.pow_le_pow_right (by decide) (by omega))
                rw [Nat.testBit_lt_two_pow h3]
                symm
                exact decide_eq_false (by omega)
            have hqi := q i h0 h1
            by_cases e : i = s * 6 + f
            · subst e
              have el : upL ν 45 (s * 6 + f) (ν 45 (s * 6 + f) ||| sp) 45 (s * 6 + f) = ν 45 (s * 6 + f) ||| sp := by unfold upL; simp
              rw [el, n64_or]
              refine ⟨?_, fun x hx0 hx1 => ?_⟩
              · refine Nat.or_lt_two_pow hqi.1 (Nat.lt_pow_two_of_testBit _ (fun x hx => ?_))
                rw [hspb]
                exact decide_eq_false (by omega)
              · rw [k69]
                have old := hqi.2 x hx0 hx1
                unfold rowT
                unfold tb at old ⊢
                rw [Nat.testBit_or, hspb]
                by_cases z : A ≤ x.toNat ∧ x.toNat ≤ B
                · rw [if_pos (by omega), if_pos (by simp [z])]
                · rw [if_neg (by omega), old]
                  simp only [decide_eq_false z, Bool.or_false]
            · have el : upL ν 45 (s * 6 + f) (ν 45 (s * 6 + f) ||| sp) 45 i = ν 45 i := by unfold upL; rw [if_neg (fun z => e z.2)]
              rw [el]
              refine ⟨hqi.1, fun x hx0 hx1 => ?_⟩
              rw [k69, ← hqi.2 x hx0 hx1]
              unfold rowT
              rw [if_neg (by omega)]
        · rw [hμ2, hμ1]
          exact ((SR.rf.put (by decide)).row (by decide)).put (by decide)
      · have hM := c_mayIt (κ := κ) h (s := s) (f := f) (hr := hr) (by omega) (by omega) (by omega)
        rw [if_neg ca] at hA hM
        refine ⟨-5, μ, ν, μ, ?_, ?_, by decide, h, SR.rf⟩
        · refine AMet.of kX11_see.1 (Nat.le_of_ble_eq_true rfl) rfl ?_
          refine aw_blk oX11_see_0 (pc' := 1) (ls' := [_, _, _, _, _, _]) (st' := [_]) (cs := []) rfl trivial ?_
          refine aw_ciS (rest := []) (c_X11_isSeer (by omega)) kX11_isSeer eX11_see_1 lX11_see_1 rfl rfl (Nat.le_of_ble_eq_true rfl) ⟨Nat.le_of_ble_eq_true rfl, Nat.le_of_ble_eq_true rfl⟩ ⟨Nat.le_refl _, Nat.le_refl _⟩ ?_
          refine aw_if_eq (tgt := 14) eX11_see_4 (by decide) bt_r (fun hh => have h169 := bt0 hh; ?_) (fun hh => have h169 := bt1 hh; ?_)
          · first
            | (exfalso; omega; done)
            | (refine aw_blk oX11_see_14 (pc' := 15) (ls' := [_, _, _, _, _, _]) (st' := [_]) (cs := []) rfl trivial ?_
               refine aw_iret eX11_see_15 rfl (Nat.le_refl _) (Nat.le_refl _) ?_
               exact pe_i rfl rfl rfl)
          · first
            | (exfalso; omega; done)
            | (refine aw_blk oX11_see_7 (pc' := 8) (ls' := [_, _, _, _, _, _]) (st' := [_]) (cs := []) rfl trivial ?_
               refine aw_ciS (rest := []) (c_X11_isFilm (by omega)) kX11_isFilm eX11_see_8 lX11_see_8 rfl rfl (Nat.le_of_ble_eq_true rfl) ⟨Nat.le_of_ble_eq_true rfl, Nat.le_of_ble_eq_true rfl⟩ ⟨Nat.le_refl _, Nat.le_refl _⟩ ?_
               refine aw_if_ne (tgt := 16) eX11_see_11 (by decide) bt_r (fun hh => have h170 := bt1 hh; ?_) (fun hh => have h170 := bt0 hh; ?_)
               · first
                 | (exfalso; omega; done)
                 | (refine aw_blk oX11_see_16 (pc' := 21) (ls' := [_, _, _, _, _, _]) (st' := [_, _, _]) (cs := []) rfl trivial ?_
                    refine aw_ciS (rest := []) (c_X11_between (by omega) (by omega) (by omega)) kX11_between eX11_see_21 lX11_see_21 rfl rfl (Nat.le_of_ble_eq_true rfl) ⟨Nat.le_of_ble_eq_true rfl, Nat.le_of_ble_eq_true rfl⟩ ⟨Nat.le_refl _, Nat.le_refl _⟩ ?_
                    refine aw_if_eq (tgt := 50) eX11_see_24 (by decide) bt_r (fun hh => have h171 := bt0 hh; ?_) (fun hh => have h171 := bt1 hh; ?_)
                    · first
                      | (exfalso; omega; done)
                      | (refine aw_blk oX11_see_50 (pc' := 52) (ls' := [_, _, _, _, _, _]) (st' := [_]) (cs := []) rfl trivial ?_
                         refine aw_iret eX11_see_52 rfl (Nat.le_refl _) (Nat.le_refl _) ?_
                         exact pe_i rfl rfl rfl)
                    · first
                      | (exfalso; omega; done)
                      | (refine aw_blk oX11_see_27 (pc' := 32) (ls' := [_, _, _, _, _, _]) (st' := [_, _, _]) (cs := []) rfl trivial ?_
                         refine aw_ciS (rest := []) (c_X11_between (by omega) (by omega) (by omega)) kX11_between eX11_see_32 lX11_see_32 rfl rfl (Nat.le_of_ble_eq_true rfl) ⟨Nat.le_of_ble_eq_true rfl, Nat.le_of_ble_eq_true rfl⟩ ⟨Nat.le_refl _, Nat.le_refl _⟩ ?_
                         refine aw_if_eq (tgt := 50) eX11_see_35 (by decide) bt_r (fun hh => have h172 := bt0 hh; ?_) (fun hh => have h172 := bt1 hh; ?_)
                         · first
                           | (exfalso; omega; done)
                           | (refine aw_blk oX11_see_50 (pc' := 52) (ls' := [_, _, _, _, _, _]) (st' := [_]) (cs := []) rfl trivial ?_
                              refine aw_iret eX11_see_52 rfl (Nat.le_refl _) (Nat.le_refl _) ?_
                              exact pe_i rfl rfl rfl)
                         · first
                           | (exfalso; omega; done)
                           | (refine aw_blk oX11_see_38 (pc' := 44) (ls' := [_, _, _, _, _, _]) (st' := [_, _, _]) (cs := []) rfl trivial ?_
                              refine aw_ciS (rest := []) (c_X11_between (by omega) (by omega) (by omega)) kX11_between eX11_see_44 lX11_see_44 rfl rfl (Nat.le_of_ble_eq_true rfl) ⟨Nat.le_of_ble_eq_true rfl, Nat.le_of_ble_eq_true rfl⟩ ⟨Nat.le_refl _, Nat.le_refl _⟩ ?_
                              refine aw_if_ne (tgt := 53) eX11_see_47 (by decide) bt_r (fun hh => have h173 := bt1 hh; ?_) (fun hh => have h173 := bt0 hh; ?_)
                              · first
                                | (exfalso; omega; done)
                                | (refine aw_blk oX11_see_53 (pc' := 60) (ls' := [_, _, _, _, _, _]) (st' := [_, _, _, _]) (cs := []) rfl trivial ?_
                                   refine aw_ciV (rest := []) (hA) kX7_allow eX11_see_60 lX11_see_60 rfl rfl rfl rfl (Nat.le_of_ble_eq_true rfl) ⟨Nat.le_of_ble_eq_true rfl, Nat.le_of_ble_eq_true rfl⟩ ⟨Nat.le_refl _, Nat.le_refl _⟩ ?_
                                   refine aw_if_ne (tgt := 69) eX11_see_63 (by decide) (by omega) (fun h174 => ?_) (fun h174 => ?_)
                                   · first
                                     | (exfalso; omega; done)
                                     | (refine aw_blk oX11_see_69 (pc' := 79) (ls' := [_, _, _, _, _, _]) (st' := [_, _, _, _, _]) (cs := []) rfl trivial ?_
                                        skip)
                                   · first
                                     | (exfalso; omega; done)
                                     | (refine aw_blk oX11_see_66 (pc' := 68) (ls' := [_, _, _, _, _, _]) (st' := [_]) (cs := []) rfl trivial ?_
                                        refine aw_iret eX11_see_68 rfl (Nat.le_refl _) (Nat.le_refl _) ?_
                                        exact pe_i rfl rfl rfl))
                              · first
                                | (exfalso; omega; done)
                                | (refine aw_blk oX11_see_50 (pc' := 52) (ls' := [_, _, _, _, _, _]) (st' := [_]) (cs := []) rfl trivial ?_
                                   refine aw_iret eX11_see_52 rfl (Nat.le_refl _) (Nat.le_refl _) ?_
                                   exact pe_i rfl rfl rfl))))
               · first
                 | (exfalso; omega; done)
                 | (refine aw_blk oX11_see_14 (pc' := 15) (ls' := [_, _, _, _, _, _]) (st' := [_]) (cs := []) rfl trivial ?_
                    refine aw_iret eX11_see_15 rfl (Nat.le_refl _) (Nat.le_refl _) ?_
                    exact pe_i rfl rfl rfl))
        · refine AMet.of kX12_see.1 (Nat.le_of_ble_eq_true rfl) rfl ?_
          refine aw_blk oX12_see_0 (pc' := 1) (ls' := [_, _, _, _, _, _, _, _, _]) (st' := [_]) (cs := []) rfl trivial ?_
          refine aw_ciS (rest := []) (c_X12_isSeer (by omega)) kX12_isSeer eX12_see_1 lX12_see_1 rfl rfl (Nat.le_of_ble_eq_true rfl) ⟨Nat.le_of_ble_eq_true rfl, Nat.le_of_ble_eq_true rfl⟩ ⟨Nat.le_refl _, Nat.le_refl _⟩ ?_
          refine aw_if_eq (tgt := 14) eX12_see_4 (by decide) bt_r (fun hh => have h175 := bt0 hh; ?_) (fun hh => have h175 := bt1 hh; ?_)
          · first
            | (exfalso; omega; done)
            | (refine aw_blk oX12_see_14 (pc' := 15) (ls' := [_, _, _, _, _, _, _, _, _]) (st' := [_]) (cs := []) rfl trivial ?_
               refine aw_iret eX12_see_15 rfl (Nat.le_refl _) (Nat.le_refl _) ?_
               exact pe_i rfl rfl rfl)
          · first
            | (exfalso; omega; done)
            | (refine aw_blk oX12_see_7 (pc' := 8) (ls' := [_, _, _, _, _, _, _, _, _]) (st' := [_]) (cs := []) rfl trivial ?_
               refine aw_ciS (rest := []) (c_X12_isFilm (by omega)) kX12_isFilm eX12_see_8 lX12_see_8 rfl rfl (Nat.le_of_ble_eq_true rfl) ⟨Nat.le_of_ble_eq_true rfl, Nat.le_of_ble_eq_true rfl⟩ ⟨Nat.le_refl _, Nat.le_refl _⟩ ?_
               refine aw_if_ne (tgt := 16) eX12_see_11 (by decide) bt_r (fun hh => have h176 := bt1 hh; ?_) (fun hh => have h176 := bt0 hh; ?_)
               · first
                 | (exfalso; omega; done)
                 | (refine aw_blk oX12_see_16 (pc' := 21) (ls' := [_, _, _, _, _, _, _, _, _]) (st' := [_, _, _]) (cs := []) rfl trivial ?_
                    refine aw_ciS (rest := []) (c_X12_in (by omega) (by omega) (by omega)) kX12_in eX12_see_21 lX12_see_21 rfl rfl (Nat.le_of_ble_eq_true rfl) ⟨Nat.le_of_ble_eq_true rfl, Nat.le_of_ble_eq_true rfl⟩ ⟨Nat.le_refl _, Nat.le_refl _⟩ ?_
                    refine aw_if_eq (tgt := 56) eX12_see_24 (by decide) bt_r (fun hh => have h177 := bt0 hh; ?_) (fun hh => have h177 := bt1 hh; ?_)
                    · first
                      | (exfalso; omega; done)
                      | (refine aw_blk oX12_see_56 (pc' := 58) (ls' := [_, _, _, _, _, _, _, _, _]) (st' := [_]) (cs := []) rfl trivial ?_
                         refine aw_iret eX12_see_58 rfl (Nat.le_refl _) (Nat.le_refl _) ?_
                         exact pe_i rfl rfl rfl)
                    · first
                      | (exfalso; omega; done)
                      | (refine aw_blk oX12_see_27 (pc' := 32) (ls' := [_, _, _, _, _, _, _, _, _]) (st' := [_, _, _]) (cs := []) rfl trivial ?_
                         refine aw_ciS (rest := []) (c_X12_in (by omega) (by omega) (by omega)) kX12_in eX12_see_32 lX12_see_32 rfl rfl (Nat.le_of_ble_eq_true rfl) ⟨Nat.le_of_ble_eq_true rfl, Nat.le_of_ble_eq_true rfl⟩ ⟨Nat.le_refl _, Nat.le_refl _⟩ ?_
                         refine aw_if_eq (tgt := 56) eX12_see_35 (by decide) bt_r (fun hh => have h178 := bt0 hh; ?_) (fun hh => have h178 := bt1 hh; ?_)
                         · first
                           | (exfalso; omega; done)
                           | (refine aw_blk oX12_see_56 (pc' := 58) (ls' := [_, _, _, _, _, _, _, _, _]) (st' := [_]) (cs := []) rfl trivial ?_
                              refine aw_iret eX12_see_58 rfl (Nat.le_refl _) (Nat.le_refl _) ?_
                              exact pe_i rfl rfl rfl)
                         · first
                           | (exfalso; omega; done)
                           | (refine aw_blk oX12_see_38 (pc' := 43) (ls' := [_, _, _, _, _, _, _, _, _]) (st' := [_, _, _]) (cs := []) rfl trivial ?_
                              refine aw_ciS (rest := []) (c_X12_in (by omega) (by omega) (by omega)) kX12_in eX12_see_43 lX12_see_43 rfl rfl (Nat.le_of_ble_eq_true rfl) ⟨Nat.le_of_ble_eq_true rfl, Nat.le_of_ble_eq_true rfl⟩ ⟨Nat.le_refl _, Nat.le_refl _⟩ ?_
                              refine aw_if_eq (tgt := 56) eX12_see_46 (by decide) bt_r (fun hh => have h179 := bt0 hh; ?_) (fun hh => have h179 := bt1 hh; ?_)
                              · first
                                | (exfalso; omega; done)
                                | (refine aw_blk oX12_see_56 (pc' := 58) (ls' := [_, _, _, _, _, _, _, _, _]) (st' := [_]) (cs := []) rfl trivial ?_
                                   refine aw_iret eX12_see_58 rfl (Nat.le_refl _) (Nat.le_refl _) ?_
                                   exact pe_i rfl rfl rfl)
                              · first
                                | (exfalso; omega; done)
                                | (refine aw_blk oX12_see_49 (pc' := 53) (ls' := [_, _, _, _, _, _, _, _, _]) (st' := [_, _]) (cs := []) rfl trivial ?_
                                   refine aw_icmp_le (tgt := 59) eX12_see_53 (by decide) (by omega) (by omega) (fun h180 => ?_) (fun h180 => ?_)
                                   · first
                                     | (exfalso; omega; done)
                                     | (refine aw_blk oX12_see_59 (pc' := 63) (ls' := [_, _, _, _, _, _, _, _, _]) (st' := [_, _, _, _]) (cs := []) rfl trivial ?_
                                        refine aw_ciV (rest := []) (hM) kX12_mayIt eX12_see_63 lX12_see_63 rfl rfl rfl rfl (Nat.le_of_ble_eq_true rfl) ⟨Nat.le_of_ble_eq_true rfl, Nat.le_of_ble_eq_true rfl⟩ ⟨Nat.le_refl _, Nat.le_refl _⟩ ?_
                                        refine aw_if_ne (tgt := 72) eX12_see_66 (by decide) (by omega) (fun h181 => ?_) (fun h181 => ?_)
                                        · first
                                          | (exfalso; omega; done)
                                          | (refine aw_blk oX12_see_72 (pc' := 79) (ls' := [_, _, _, _, _, _, _, _, _]) (st' := []) (cs := []) rfl trivial ?_
                                             skip)
                                        · first
                                          | (exfalso; omega; done)
                                          | (refine aw_blk oX12_see_69 (pc' := 71) (ls' := [_, _, _, _, _, _, _, _, _]) (st' := [_]) (cs := []) rfl trivial ?_
                                             refine aw_iret eX12_see_71 rfl (Nat.le_refl _) (Nat.le_refl _) ?_
                                             exact pe_i rfl rfl rfl))
                                   · first
                                     | (exfalso; omega; done)
                                     | (refine aw_blk oX12_see_56 (pc' := 58) (ls' := [_, _, _, _, _, _, _, _, _]) (st' := [_]) (cs := []) rfl trivial ?_
                                        refine aw_iret eX12_see_58 rfl (Nat.le_refl _) (Nat.le_refl _) ?_
                                        exact pe_i rfl rfl rfl)))))
               · first
                 | (exfalso; omega; done)
                 | (refine aw_blk oX12_see_14 (pc' := 15) (ls' := [_, _, _, _, _, _, _, _, _]) (st' := [_]) (cs := []) rfl trivial ?_
                    refine aw_iret eX12_see_15 rfl (Nat.le_refl _) (Nat.le_refl _) ?_
                    exact pe_i rfl rfl rfl))
    · refine ⟨-2, μ, ν, μ, ?_, ?_, by decide, h, SR.rf⟩
      · refine AMet.of kX11_see.1 (Nat.le_of_ble_eq_true rfl) rfl ?_
        refine aw_blk oX11_see_0 (pc' := 1) (ls' := [_, _, _, _, _, _]) (st' := [_]) (cs := []) rfl trivial ?_
        refine aw_ciS (rest := []) (c_X11_isSeer (by omega)) kX11_isSeer eX11_see_1 lX11_see_1 rfl rfl (Nat.le_of_ble_eq_true rfl) ⟨Nat.le_of_ble_eq_true rfl, Nat.le_of_ble_eq_true rfl⟩ ⟨Nat.le_refl _, Nat.le_refl _⟩ ?_
        refine aw_if_eq (tgt := 14) eX11_see_4 (by decide) bt_r (fun hh => have h182 := bt0 hh; ?_) (fun hh => have h182 := bt1 hh; ?_)
        · first
          | (exfalso; omega; done)
          | (refine aw_blk oX11_see_14 (pc' := 15) (ls' := [_, _, _, _, _, _]) (st' := [_]) (cs := []) rfl trivial ?_
             refine aw_iret eX11_see_15 rfl (Nat.le_refl _) (Nat.le_refl _) ?_
             exact pe_i rfl rfl rfl)
        · first
          | (exfalso; omega; done)
          | (refine aw_blk oX11_see_7 (pc' := 8) (ls' := [_, _, _, _, _, _]) (st' := [_]) (cs := []) rfl trivial ?_
             refine aw_ciS (rest := []) (c_X11_isFilm (by omega)) kX11_isFilm eX11_see_8 lX11_see_8 rfl rfl (Nat.le_of_ble_eq_true rfl) ⟨Nat.le_of_ble_eq_true rfl, Nat.le_of_ble_eq_true rfl⟩ ⟨Nat.le_refl _, Nat.le_refl _⟩ ?_
             refine aw_if_ne (tgt := 16) eX11_see_11 (by decide) bt_r (fun hh => have h183 := bt1 hh; ?_) (fun hh => have h183 := bt0 hh; ?_)
             · first
               | (exfalso; omega; done)
               | (refine aw_blk oX11_see_16 (pc' := 21) (ls' := [_, _, _, _, _, _]) (st' := [_, _, _]) (cs := []) rfl trivial ?_
                  refine aw_ciS (rest := []) (c_X11_between (by omega) (by omega) (by omega)) kX11_between eX11_see_21 lX11_see_21 rfl rfl (Nat.le_of_ble_eq_true rfl) ⟨Nat.le_of_ble_eq_true rfl, Nat.le_of_ble_eq_true rfl⟩ ⟨Nat.le_refl _, Nat.le_refl _⟩ ?_
                  refine aw_if_eq (tgt := 50) eX11_see_24 (by decide) bt_r (fun hh => have h184 := bt0 hh; ?_) (fun hh => have h184 := bt1 hh; ?_)
                  · first
                    | (exfalso; omega; done)
                    | (refine aw_blk oX11_see_50 (pc' := 52) (ls' := [_, _, _, _, _, _]) (st' := [_]) (cs := []) rfl trivial ?_
                       refine aw_iret eX11_see_52 rfl (Nat.le_refl _) (Nat.le_refl _) ?_
                       exact pe_i rfl rfl rfl)
                  · first
                    | (exfalso; omega; done)
                    | (refine aw_blk oX11_see_27 (pc' := 32) (ls' := [_, _, _, _, _, _]) (st' := [_, _, _]) (cs := []) rfl trivial ?_
                       refine aw_ciS (rest := []) (c_X11_between (by omega) (by omega) (by omega)) kX11_between eX11_see_32 lX11_see_32 rfl rfl (Nat.le_of_ble_eq_true rfl) ⟨Nat.le_of_ble_eq_true rfl, Nat.le_of_ble_eq_true rfl⟩ ⟨Nat.le_refl _, Nat.le_refl _⟩ ?_
                       refine aw_if_eq (tgt := 50) eX11_see_35 (by decide) bt_r (fun hh => have h185 := bt0 hh; ?_) (fun hh => have h185 := bt1 hh; ?_)
                       · first
                         | (exfalso; omega; done)
                         | (refine aw_blk oX11_see_50 (pc' := 52) (ls' := [_, _, _, _, _, _]) (st' := [_]) (cs := []) rfl trivial ?_
                            refine aw_iret eX11_see_52 rfl (Nat.le_refl _) (Nat.le_refl _) ?_
                            exact pe_i rfl rfl rfl)
                       · first
                         | (exfalso; omega; done)
                         | (refine aw_blk oX11_see_38 (pc' := 44) (ls' := [_, _, _, _, _, _]) (st' := [_, _, _]) (cs := []) rfl trivial ?_
                            refine aw_ciS (rest := []) (c_X11_between (by omega) (by omega) (by omega)) kX11_between eX11_see_44 lX11_see_44 rfl rfl (Nat.le_of_ble_eq_true rfl) ⟨Nat.le_of_ble_eq_true rfl, Nat.le_of_ble_eq_true rfl⟩ ⟨Nat.le_refl _, Nat.le_refl _⟩ ?_
                            refine aw_if_ne (tgt := 53) eX11_see_47 (by decide) bt_r (fun hh => have h186 := bt1 hh; ?_) (fun hh => have h186 := bt0 hh; ?_)
                            · first
                              | (exfalso; omega; done)
                              | (refine aw_blk oX11_see_53 (pc' := 60) (ls' := [_, _, _, _, _, _]) (st' := [_, _, _, _]) (cs := []) rfl trivial ?_
                                 refine aw_ciV (rest := []) (hA) kX7_allow eX11_see_60 lX11_see_60 rfl rfl rfl rfl (Nat.le_of_ble_eq_true rfl) ⟨Nat.le_of_ble_eq_true rfl, Nat.le_of_ble_eq_true rfl⟩ ⟨Nat.le_refl _, Nat.le_refl _⟩ ?_
                                 refine aw_if_ne (tgt := 69) eX11_see_63 (by decide) (by omega) (fun h187 => ?_) (fun h187 => ?_)
                                 · first
                                   | (exfalso; omega; done)
                                   | (refine aw_blk oX11_see_69 (pc' := 79) (ls' := [_, _, _, _, _, _]) (st' := [_, _, _, _, _]) (cs := []) rfl trivial ?_
                                      skip)
                                 · first
                                   | (exfalso; omega; done)
                                   | (refine aw_blk oX11_see_66 (pc' := 68) (ls' := [_, _, _, _, _, _]) (st' := [_]) (cs := []) rfl trivial ?_
                                      refine aw_iret eX11_see_68 rfl (Nat.le_refl _) (Nat.le_refl _) ?_
                                      exact pe_i rfl rfl rfl))
                            · first
                              | (exfalso; omega; done)
                              | (refine aw_blk oX11_see_50 (pc' := 52) (ls' := [_, _, _, _, _, _]) (st' := [_]) (cs := []) rfl trivial ?_
                                 refine aw_iret eX11_see_52 rfl (Nat.le_refl _) (Nat.le_refl _) ?_
                                 exact pe_i rfl rfl rfl))))
             · first
               | (exfalso; omega; done)
               | (refine aw_blk oX11_see_14 (pc' := 15) (ls' := [_, _, _, _, _, _]) (st' := [_]) (cs := []) rfl trivial ?_
                  refine aw_iret eX11_see_15 rfl (Nat.le_refl _) (Nat.le_refl _) ?_
                  exact pe_i rfl rfl rfl))
      · refine AMet.of kX12_see.1 (Nat.le_of_ble_eq_true rfl) rfl ?_
        refine aw_blk oX12_see_0 (pc' := 1) (ls' := [_, _, _, _, _, _, _, _, _]) (st' := [_]) (cs := []) rfl trivial ?_
        refine aw_ciS (rest := []) (c_X12_isSeer (by omega)) kX12_isSeer eX12_see_1 lX12_see_1 rfl rfl (Nat.le_of_ble_eq_true rfl) ⟨Nat.le_of_ble_eq_true rfl, Nat.le_of_ble_eq_true rfl⟩ ⟨Nat.le_refl _, Nat.le_refl _⟩ ?_
        refine aw_if_eq (tgt := 14) eX12_see_4 (by decide) bt_r (fun hh => have h188 := bt0 hh; ?_) (fun hh => have h188 := bt1 hh; ?_)
        · first
          | (exfalso; omega; done)
          | (refine aw_blk oX12_see_14 (pc' := 15) (ls' := [_, _, _, _, _, _, _, _, _]) (st' := [_]) (cs := []) rfl trivial ?_
             refine aw_iret eX12_see_15 rfl (Nat.le_refl _) (Nat.le_refl _) ?_
             exact pe_i rfl rfl rfl)
        · first
          | (exfalso; omega; done)
          | (refine aw_blk oX12_see_7 (pc' := 8) (ls' := [_, _, _, _, _, _, _, _, _]) (st' := [_]) (cs := []) rfl trivial ?_
             refine aw_ciS (rest := []) (c_X12_isFilm (by omega)) kX12_isFilm eX12_see_8 lX12_see_8 rfl rfl (Nat.le_of_ble_eq_true rfl) ⟨Nat.le_of_ble_eq_true rfl, Nat.le_of_ble_eq_true rfl⟩ ⟨Nat.le_refl _, Nat.le_refl _⟩ ?_
             refine aw_if_ne (tgt := 16) eX12_see_11 (by decide) bt_r (fun hh => have h189 := bt1 hh; ?_) (fun hh => have h189 := bt0 hh; ?_)
             · first
               | (exfalso; omega; done)
               | (refine aw_blk oX12_see_16 (pc' := 21) (ls' := [_, _, _, _, _, _, _, _, _]) (st' := [_, _, _]) (cs := []) rfl trivial ?_
                  refine aw_ciS (rest := []) (c_X12_in (by omega) (by omega) (by omega)) kX12_in eX12_see_21 lX12_see_21 rfl rfl (Nat.le_of_ble_eq_true rfl) ⟨Nat.le_of_ble_eq_true rfl, Nat.le_of_ble_eq_true rfl⟩ ⟨Nat.le_refl _, Nat.le_refl _⟩ ?_
                  refine aw_if_eq (tgt := 56) eX12_see_24 (by decide) bt_r (fun hh => have h190 := bt0 hh; ?_) (fun hh => have h190 := bt1 hh; ?_)
                  · first
                    | (exfalso; omega; done)
                    | (refine aw_blk oX12_see_56 (pc' := 58) (ls' := [_, _, _, _, _, _, _, _, _]) (st' := [_]) (cs := []) rfl trivial ?_
                       refine aw_iret eX12_see_58 rfl (Nat.le_refl _) (Nat.le_refl _) ?_
                       exact pe_i rfl rfl rfl)
                  · first
                    | (exfalso; omega; done)
                    | (refine aw_blk oX12_see_27 (pc' := 32) (ls' := [_, _, _, _, _, _, _, _, _]) (st' := [_, _, _]) (cs := []) rfl trivial ?_
                       refine aw_ciS (rest := []) (c_X12_in (by omega) (by omega) (by omega)) kX12_in eX12_see_32 lX12_see_32 rfl rfl (Nat.le_of_ble_eq_true rfl) ⟨Nat.le_of_ble_eq_true rfl, Nat.le_of_ble_eq_true rfl⟩ ⟨Nat.le_refl _, Nat.le_refl _⟩ ?_
                       refine aw_if_eq (tgt := 56) eX12_see_35 (by decide) bt_r (fun hh => have h191 := bt0 hh; ?_) (fun hh => have h191 := bt1 hh; ?_)
                       · first
                         | (exfalso; omega; done)
                         | (refine aw_blk oX12_see_56 (pc' := 58) (ls' := [_, _, _, _, _, _, _, _, _]) (st' := [_]) (cs := []) rfl trivial ?_
                            refine aw_iret eX12_see_58 rfl (Nat.le_refl _) (Nat.le_refl _) ?_
                            exact pe_i rfl rfl rfl)
                       · first
                         | (exfalso; omega; done)
                         | (refine aw_blk oX12_see_38 (pc' := 43) (ls' := [_, _, _, _, _, _, _, _, _]) (st' := [_, _, _]) (cs := []) rfl trivial ?_
                            refine aw_ciS (rest := []) (c_X12_in (by omega) (by omega) (by omega)) kX12_in eX12_see_43 lX12_see_43 rfl rfl (Nat.le_of_ble_eq_true rfl) ⟨Nat.le_of_ble_eq_true rfl, Nat.le_of_ble_eq_true rfl⟩ ⟨Nat.le_refl _, Nat.le_refl _⟩ ?_
                            refine aw_if_eq (tgt := 56) eX12_see_46 (by decide) bt_r (fun hh => have h192 := bt0 hh; ?_) (fun hh => have h192 := bt1 hh; ?_)
                            · first
                              | (exfalso; omega; done)
                              | (refine aw_blk oX12_see_56 (pc' := 58) (ls' := [_, _, _, _, _, _, _, _, _]) (st' := [_]) (cs := []) rfl trivial ?_
                                 refine aw_iret eX12_see_58 rfl (Nat.le_refl _) (Nat.le_refl _) ?_
                                 exact pe_i rfl rfl rfl)
                            · first
                              | (exfalso; omega; done)
                              | (refine aw_blk oX12_see_49 (pc' := 53) (ls' := [_, _, _, _, _, _, _, _, _]) (st' := [_, _]) (cs := []) rfl trivial ?_
                                 refine aw_icmp_le (tgt := 59) eX12_see_53 (by decide) (by omega) (by omega) (fun h193 => ?_) (fun h193 => ?_)
                                 · first
                                   | (exfalso; omega; done)
                                   | (refine aw_blk oX12_see_59 (pc' := 63) (ls' := [_, _, _, _, _, _, _, _, _]) (st' := [_, _, _, _]) (cs := []) rfl trivial ?_
                                      refine aw_ciV (rest := []) (hM) kX12_mayIt eX12_see_63 lX12_see_63 rfl rfl rfl rfl (Nat.le_of_ble_eq_true rfl) ⟨Nat.le_of_ble_eq_true rfl, Nat.le_of_ble_eq_true rfl⟩ ⟨Nat.le_refl _, Nat.le_refl _⟩ ?_
                                      refine aw_if_ne (tgt := 72) eX12_see_66 (by decide) (by omega) (fun h194 => ?_) (fun h194 => ?_)
                                      · first
                                        | (exfalso; omega; done)
                                        | (refine aw_blk oX12_see_72 (pc' := 79) (ls' := [_, _, _, _, _, _, _, _, _]) (st' := []) (cs := []) rfl trivial ?_
                                           skip)
                                      · first
                                        | (exfalso; omega; done)
                                        | (refine aw_blk oX12_see_69 (pc' := 71) (ls' := [_, _, _, _, _, _, _, _, _]) (st' := [_]) (cs := []) rfl trivial ?_
                                           refine aw_iret eX12_see_71 rfl (Nat.le_refl _) (Nat.le_refl _) ?_
                                           exact pe_i rfl rfl rfl))
                                 · first
                                   | (exfalso; omega; done)
                                   | (refine aw_blk oX12_see_56 (pc' := 58) (ls' := [_, _, _, _, _, _, _, _, _]) (st' := [_]) (cs := []) rfl trivial ?_
                                      refine aw_iret eX12_see_58 rfl (Nat.le_refl _) (Nat.le_refl _) ?_
                                      exact pe_i rfl rfl rfl)))))
             · first
               | (exfalso; omega; done)
               | (refine aw_blk oX12_see_14 (pc' := 15) (ls' := [_, _, _, _, _, _, _, _, _]) (st' := [_]) (cs := []) rfl trivial ?_
                  refine aw_iret eX12_see_15 rfl (Nat.le_refl _) (Nat.le_refl _) ?_
                  exact pe_i rfl rfl rfl))
  · refine ⟨-1, μ, ν, μ, ?_, ?_, by decide, h, SR.rf⟩
    · refine AMet.of kX11_see.1 (Nat.le_of_ble_eq_true rfl) rfl ?_
      refine aw_blk oX11_see_0 (pc' := 1) (ls' := [_, _, _, _, _, _]) (st' := [_]) (cs := []) rfl trivial ?_
      refine aw_ciS (rest := []) (c_X11_isSeer (by omega)) kX11_isSeer eX11_see_1 lX11_see_1 rfl rfl (Nat.le_of_ble_eq_true rfl) ⟨Nat.le_of_ble_eq_true rfl, Nat.le_of_ble_eq_true rfl⟩ ⟨Nat.le_refl _, Nat.le_refl _⟩ ?_
      refine aw_if_eq (tgt := 14) eX11_see_4 (by decide) bt_r (fun hh => have h195 := bt0 hh; ?_) (fun hh => have h195 := bt1 hh; ?_)
      · first
        | (exfalso; omega; done)
        | (refine aw_blk oX11_see_14 (pc' := 15) (ls' := [_, _, _, _, _, _]) (st' := [_]) (cs := []) rfl trivial ?_
           refine aw_iret eX11_see_15 rfl (Nat.le_refl _) (Nat.le_refl _) ?_
           exact pe_i rfl rfl rfl)
      · first
        | (exfalso; omega; done)
        | (refine aw_blk oX11_see_7 (pc' := 8) (ls' := [_, _, _, _, _, _]) (st' := [_]) (cs := []) rfl trivial ?_
           refine aw_ciS (rest := []) (c_X11_isFilm (by omega)) kX11_isFilm eX11_see_8 lX11_see_8 rfl rfl (Nat.le_of_ble_eq_true rfl) ⟨Nat.le_of_ble_eq_true rfl, Nat.le_of_ble_eq_true rfl⟩ ⟨Nat.le_refl _, Nat.le_refl _⟩ ?_
           refine aw_if_ne (tgt := 16) eX11_see_11 (by decide) bt_r (fun hh => have h196 := bt1 hh; ?_) (fun hh => have h196 := bt0 hh; ?_)
           · first
             | (exfalso; omega; done)
             | (refine aw_blk oX11_see_16 (pc' := 21) (ls' := [_, _, _, _, _, _]) (st' := [_, _, _]) (cs := []) rfl trivial ?_
                refine aw_ciS (rest := []) (c_X11_between (by omega) (by omega) (by omega)) kX11_between eX11_see_21 lX11_see_21 rfl rfl (Nat.le_of_ble_eq_true rfl) ⟨Nat.le_of_ble_eq_true rfl, Nat.le_of_ble_eq_true rfl⟩ ⟨Nat.le_refl _, Nat.le_refl _⟩ ?_
                refine aw_if_eq (tgt := 50) eX11_see_24 (by decide) bt_r (fun hh => have h197 := bt0 hh; ?_) (fun hh => have h197 := bt1 hh; ?_)
                · first
                  | (exfalso; omega; done)
                  | (refine aw_blk oX11_see_50 (pc' := 52) (ls' := [_, _, _, _, _, _]) (st' := [_]) (cs := []) rfl trivial ?_
                     refine aw_iret eX11_see_52 rfl (Nat.le_refl _) (Nat.le_refl _) ?_
                     exact pe_i rfl rfl rfl)
                · first
                  | (exfalso; omega; done)
                  | (refine aw_blk oX11_see_27 (pc' := 32) (ls' := [_, _, _, _, _, _]) (st' := [_, _, _]) (cs := []) rfl trivial ?_
                     refine aw_ciS (rest := []) (c_X11_between (by omega) (by omega) (by omega)) kX11_between eX11_see_32 lX11_see_32 rfl rfl (Nat.le_of_ble_eq_true rfl) ⟨Nat.le_of_ble_eq_true rfl, Nat.le_of_ble_eq_true rfl⟩ ⟨Nat.le_refl _, Nat.le_refl _⟩ ?_
                     refine aw_if_eq (tgt := 50) eX11_see_35 (by decide) bt_r (fun hh => have h198 := bt0 hh; ?_) (fun hh => have h198 := bt1 hh; ?_)
                     · first
                       | (exfalso; omega; done)
                       | (refine aw_blk oX11_see_50 (pc' := 52) (ls' := [_, _, _, _, _, _]) (st' := [_]) (cs := []) rfl trivial ?_
                          refine aw_iret eX11_see_52 rfl (Nat.le_refl _) (Nat.le_refl _) ?_
                          exact pe_i rfl rfl rfl)
                     · first
                       | (exfalso; omega; done)
                       | (refine aw_blk oX11_see_38 (pc' := 44) (ls' := [_, _, _, _, _, _]) (st' := [_, _, _]) (cs := []) rfl trivial ?_
                          refine aw_ciS (rest := []) (c_X11_between (by omega) (by omega) (by omega)) kX11_between eX11_see_44 lX11_see_44 rfl rfl (Nat.le_of_ble_eq_true rfl) ⟨Nat.le_of_ble_eq_true rfl, Nat.le_of_ble_eq_true rfl⟩ ⟨Nat.le_refl _, Nat.le_refl _⟩ ?_
                          refine aw_if_ne (tgt := 53) eX11_see_47 (by decide) bt_r (fun hh => have h199 := bt1 hh; ?_) (fun hh => have h199 := bt0 hh; ?_)
                          · first
                            | (exfalso; omega; done)
                            | (refine aw_blk oX11_see_53 (pc' := 60) (ls' := [_, _, _, _, _, _]) (st' := [_, _, _, _]) (cs := []) rfl trivial ?_
                               refine aw_ciV (rest := []) (hA) kX7_allow eX11_see_60 lX11_see_60 rfl rfl rfl rfl (Nat.le_of_ble_eq_true rfl) ⟨Nat.le_of_ble_eq_true rfl, Nat.le_of_ble_eq_true rfl⟩ ⟨Nat.le_refl _, Nat.le_refl _⟩ ?_
                               refine aw_if_ne (tgt := 69) eX11_see_63 (by decide) (by omega) (fun h200 => ?_) (fun h200 => ?_)
                               · first
                                 | (exfalso; omega; done)
                                 | (refine aw_blk oX11_see_69 (pc' := 79) (ls' := [_, _, _, _, _, _]) (st' := [_, _, _, _, _]) (cs := []) rfl trivial ?_
                                    skip)
                               · first
                                 | (exfalso; omega; done)
                                 | (refine aw_blk oX11_see_66 (pc' := 68) (ls' := [_, _, _, _, _, _]) (st' := [_]) (cs := []) rfl trivial ?_
                                    refine aw_iret eX11_see_68 rfl (Nat.le_refl _) (Nat.le_refl _) ?_
                                    exact pe_i rfl rfl rfl))
                          · first
                            | (exfalso; omega; done)
                            | (refine aw_blk oX11_see_50 (pc' := 52) (ls' := [_, _, _, _, _, _]) (st' := [_]) (cs := []) rfl trivial ?_
                               refine aw_iret eX11_see_52 rfl (Nat.le_refl _) (Nat.le_refl _) ?_
                               exact pe_i rfl rfl rfl))))
           · first
             | (exfalso; omega; done)
             | (refine aw_blk oX11_see_14 (pc' := 15) (ls' := [_, _, _, _, _, _]) (st' := [_]) (cs := []) rfl trivial ?_
                refine aw_iret eX11_see_15 rfl (Nat.le_refl _) (Nat.le_refl _) ?_
                exact pe_i rfl rfl rfl))
    · refine AMet.of kX12_see.1 (Nat.le_of_ble_eq_true rfl) rfl ?_
      refine aw_blk oX12_see_0 (pc' := 1) (ls' := [_, _, _, _, _, _, _, _, _]) (st' := [_]) (cs := []) rfl trivial ?_
      refine aw_ciS (rest := []) (c_X12_isSeer (by omega)) kX12_isSeer eX12_see_1 lX12_see_1 rfl rfl (Nat.le_of_ble_eq_true rfl) ⟨Nat.le_of_ble_eq_true rfl, Nat.le_of_ble_eq_true rfl⟩ ⟨Nat.le_refl _, Nat.le_refl _⟩ ?_
      refine aw_if_eq (tgt := 14) eX12_see_4 (by decide) bt_r (fun hh => have h201 := bt0 hh; ?_) (fun hh => have h201 := bt1 hh; ?_)
      · first
        | (exfalso; omega; done)
        | (refine aw_blk oX12_see_14 (pc' := 15) (ls' := [_, _, _, _, _, _, _, _, _]) (st' := [_]) (cs := []) rfl trivial ?_
           refine aw_iret eX12_see_15 rfl (Nat.le_refl _) (Nat.le_refl _) ?_
           exact pe_i rfl rfl rfl)
      · first
        | (exfalso; omega; done)
        | (refine aw_blk oX12_see_7 (pc' := 8) (ls' := [_, _, _, _, _, _, _, _, _]) (st' := [_]) (cs := []) rfl trivial ?_
           refine aw_ciS (rest := []) (c_X12_isFilm (by omega)) kX12_isFilm eX12_see_8 lX12_see_8 rfl rfl (Nat.le_of_ble_eq_true rfl) ⟨Nat.le_of_ble_eq_true rfl, Nat.le_of_ble_eq_true rfl⟩ ⟨Nat.le_refl _, Nat.le_refl _⟩ ?_
           refine aw_if_ne (tgt := 16) eX12_see_11 (by decide) bt_r (fun hh => have h202 := bt1 hh; ?_) (fun hh => have h202 := bt0 hh; ?_)
           · first
             | (exfalso; omega; done)
             | (refine aw_blk oX12_see_16 (pc' := 21) (ls' := [_, _, _, _, _, _, _, _, _]) (st' := [_, _, _]) (cs := []) rfl trivial ?_
                refine aw_ciS (rest := []) (c_X12_in (by omega) (by omega) (by omega)) kX12_in eX12_see_21 lX12_see_21 rfl rfl (Nat.le_of_ble_eq_true rfl) ⟨Nat.le_of_ble_eq_true rfl, Nat.le_of_ble_eq_true rfl⟩ ⟨Nat.le_refl _, Nat.le_refl _⟩ ?_
                refine aw_if_eq (tgt := 56) eX12_see_24 (by decide) bt_r (fun hh => have h203 := bt0 hh; ?_) (fun hh => have h203 := bt1 hh; ?_)
                · first
                  | (exfalso; omega; done)
                  | (refine aw_blk oX12_see_56 (pc' := 58) (ls' := [_, _, _, _, _, _, _, _, _]) (st' := [_]) (cs := []) rfl trivial ?_
                     refine aw_iret eX12_see_58 rfl (Nat.le_refl _) (Nat.le_refl _) ?_
                     exact pe_i rfl rfl rfl)
                · first
                  | (exfalso; omega; done)
                  | (refine aw_blk oX12_see_27 (pc' := 32) (ls' := [_, _, _, _, _, _, _, _, _]) (st' := [_, _, _]) (cs := []) rfl trivial ?_
                     refine aw_ciS (rest := []) (c_X12_in (by omega) (by omega) (by omega)) kX12_in eX12_see_32 lX12_see_32 rfl rfl (Nat.le_of_ble_eq_true rfl) ⟨Nat.le_of_ble_eq_true rfl, Nat.le_of_ble_eq_true rfl⟩ ⟨Nat.le_refl _, Nat.le_refl _⟩ ?_
                     refine aw_if_eq (tgt := 56) eX12_see_35 (by decide) bt_r (fun hh => have h204 := bt0 hh; ?_) (fun hh => have h204 := bt1 hh; ?_)
                     · first
                       | (exfalso; omega; done)
                       | (refine aw_blk oX12_see_56 (pc' := 58) (ls' := [_, _, _, _, _, _, _, _, _]) (st' := [_]) (cs := []) rfl trivial ?_
                          refine aw_iret eX12_see_58 rfl (Nat.le_refl _) (Nat.le_refl _) ?_
                          exact pe_i rfl rfl rfl)
                     · first
                       | (exfalso; omega; done)
                       | (refine aw_blk oX12_see_38 (pc' := 43) (ls' := [_, _, _, _, _, _, _, _, _]) (st' := [_, _, _]) (cs := []) rfl trivial ?_
                          refine aw_ciS (rest := []) (c_X12_in (by omega) (by omega) (by omega)) kX12_in eX12_see_43 lX12_see_43 rfl rfl (Nat.le_of_ble_eq_true rfl) ⟨Nat.le_of_ble_eq_true rfl, Nat.le_of_ble_eq_true rfl⟩ ⟨Nat.le_refl _, Nat.le_refl _⟩ ?_
                          refine aw_if_eq (tgt := 56) eX12_see_46 (by decide) bt_r (fun hh => have h205 := bt0 hh; ?_) (fun hh => have h205 := bt1 hh; ?_)
                          · first
                            | (exfalso; omega; done)
                            | (refine aw_blk oX12_see_56 (pc' := 58) (ls' := [_, _, _, _, _, _, _, _, _]) (st' := [_]) (cs := []) rfl trivial ?_
                               refine aw_iret eX12_see_58 rfl (Nat.le_refl _) (Nat.le_refl _) ?_
                               exact pe_i rfl rfl rfl)
                          · first
                            | (exfalso; omega; done)
                            | (refine aw_blk oX12_see_49 (pc' := 53) (ls' := [_, _, _, _, _, _, _, _, _]) (st' := [_, _]) (cs := []) rfl trivial ?_
                               refine aw_icmp_le (tgt := 59) eX12_see_53 (by decide) (by omega) (by omega) (fun h206 => ?_) (fun h206 => ?_)
                               · first
                                 | (exfalso; omega; done)
                                 | (refine aw_blk oX12_see_59 (pc' := 63) (ls' := [_, _, _, _, _, _, _, _, _]) (st' := [_, _, _, _]) (cs := []) rfl trivial ?_
                                    refine aw_ciV (rest := []) (hM) kX12_mayIt eX12_see_63 lX12_see_63 rfl rfl rfl rfl (Nat.le_of_ble_eq_true rfl) ⟨Nat.le_of_ble_eq_true rfl, Nat.le_of_ble_eq_true rfl⟩ ⟨Nat.le_refl _, Nat.le_refl _⟩ ?_
                                    refine aw_if_ne (tgt := 72) eX12_see_66 (by decide) (by omega) (fun h207 => ?_) (fun h207 => ?_)
                                    · first
                                      | (exfalso; omega; done)
                                      | (refine aw_blk oX12_see_72 (pc' := 79) (ls' := [_, _, _, _, _, _, _, _, _]) (st' := []) (cs := []) rfl trivial ?_
                                         skip)
                                    · first
                                      | (exfalso; omega; done)
                                      | (refine aw_blk oX12_see_69 (pc' := 71) (ls' := [_, _, _, _, _, _, _, _, _]) (st' := [_]) (cs := []) rfl trivial ?_
                                         refine aw_iret eX12_see_71 rfl (Nat.le_refl _) (Nat.le_refl _) ?_
                                         exact pe_i rfl rfl rfl))
                               · first
                                 | (exfalso; omega; done)
                                 | (refine aw_blk oX12_see_56 (pc' := 58) (ls' := [_, _, _, _, _, _, _, _, _]) (st' := [_]) (cs := []) rfl trivial ?_
                                    refine aw_iret eX12_see_58 rfl (Nat.le_refl _) (Nat.le_refl _) ?_
                                    exact pe_i rfl rfl rfl)))))
           · first
             | (exfalso; omega; done)
             | (refine aw_blk oX12_see_14 (pc' := 15) (ls' := [_, _, _, _, _, _, _, _, _]) (st' := [_]) (cs := []) rfl trivial ?_
                refine aw_iret eX12_see_15 rfl (Nat.le_refl _) (Nat.le_refl _) ?_
                exact pe_i rfl rfl rfl))
def mx0 (x : Int) : Int := if 0 < x then x else 0
theorem l_owedFor {κ : KX} {μ : MM} {ν : ML} {f rate free : Int} (hf : 0 ≤ f ∧ f < 6) (hfr : 0 ≤ free ∧ free ≤ 60) (n : Nat) : ∀ k : Nat, k + n = 8 → AX κ mX7_owedFor 2 (PE (some (aI (sm (fun s => mx0 (lbc (ν 45 (s * 6 + f)) - free)) 8 * rate))) μ ν) 6 [aR 38, aI f, aI rate, aI free, aI (sm (fun s => mx0 (lbc (ν 45 (s * 6 + f)) - free)) k), aI k] [] μ ν := by
  induction n with
  | zero =>
    intro k hk
    have e : k = 8 := by omega
    subst e
    refine aw_blk oX7_owedFor_6 (pc' := 10) (ls' := [_, _, _, _, _, _]) (st' := [_, _]) (cs := []) rfl trivial ?_
    refine aw_icmp_ge (tgt := 37) eX7_owedFor_10 (by decide) (by omega) (by omega) (fun h1 => ?_) (fun h1 => ?_)
    · refine aw_blk oX7_owedFor_37 (pc' := 41) (ls' := [_, _, _, _, _, _]) (st' := [_]) (cs := []) rfl trivial ?_
      refine aw_iret eX7_owedFor_41 rfl (Nat.le_refl _) (Nat.le_refl _) ?_
      exact pe_i rfl rfl rfl
    · exfalso; omega
  | succ n ih =>
    intro k hk
    have T := ih (k + 1) (by omega)
    rw [sm_succ (n := k)] at T
    have gb := lbc_bd (ν 45 ((k : Int) * 6 + f))
    refine aw_blk oX7_owedFor_6 (pc' := 10) (ls' := [_, _, _, _, _, _]) (st' := [_, _]) (cs := []) rfl trivial ?_
    refine aw_icmp_ge (tgt := 37) eX7_owedFor_10 (by decide) (by omega) (by omega) (fun h1 => ?_) (fun h1 => ?_)
    · exfalso; omega
    · refine aw_blk oX7_owedFor_13 (pc' := 20) (ls' := [_, _, _, _, _, _]) (st' := [_, _, _, _, _]) (cs := []) rfl trivial ?_
      refine aw_ciV (rest := [_, _]) (c_secondsSeen (by omega) (by omega)) kX7_secondsSeen eX7_owedFor_20 lX7_owedFor_20 rfl rfl rfl rfl (Nat.le_of_ble_eq_true rfl) ⟨Nat.le_of_ble_eq_true rfl, Nat.le_of_ble_eq_true rfl⟩ ⟨Nat.le_refl _, Nat.le_refl _⟩ ?_
      refine aw_blk oX7_owedFor_23 (pc' := 25) (ls' := [_, _, _, _, _, _]) (st' := [_, _, _]) (cs := []) rfl trivial ?_
      refine aw_mmax eX7_owedFor_25 lX7_owedFor_25 (by omega) (by omega) (Nat.le_of_ble_eq_true rfl) ⟨Nat.le_of_ble_eq_true rfl, Nat.le_of_ble_eq_true rfl⟩ ⟨Nat.le_refl _, Nat.le_refl _⟩ ?_
      refine aw_blk oX7_owedFor_28 (pc' := 6) (ls' := [_, _, _, _, _, _]) (st' := []) (cs := []) rfl trivial ?_
      exact T
theorem c_owedFor {κ : KX} {μ : MM} {ν : ML} {f rate free : Int} (hf : 0 ≤ f ∧ f < 6) (hfr : 0 ≤ free ∧ free ≤ 60) : AE κ 2 mX7_owedFor [aR 38, aI f, aI rate, aI free] μ ν (some (aI (sm (fun s => mx0 (lbc (ν 45 (s * 6 + f)) - free)) 8 * rate))) μ ν := by
  refine AMet.of kX7_owedFor.1 (Nat.le_of_ble_eq_true rfl) rfl ?_
  refine aw_blk oX7_owedFor_0 (pc' := 6) (ls' := [_, _, _, _, _, _]) (st' := []) (cs := []) rfl trivial ?_
  exact l_owedFor hf hfr 8 0 rfl
theorem l_owed {κ : KX} {μ : MM} {ν : ML} {f : Int} (h : RR μ ν) (hf : 0 ≤ f ∧ f < 6) (hr : 0 ≤ μ 58 3 ∧ μ 58 3 ≤ 100) (hfr : 0 ≤ μ 58 4 ∧ μ 58 4 ≤ 60) (n : Nat) : ∀ (k : Nat) (u4 : AV), k + n = 8 → AX κ mX12_owed 60 (PE (some (aI (sm (fun s => mx0 (lbc (ν 45 (s * 6 + f)) - μ 58 4) * μ 58 3) 8))) μ ν) 13 [aR 55, aI f, aI (sm (fun s => mx0 (lbc (ν 45 (s * 6 + f)) - μ 58 4) * μ 58 3) k), aI k, u4] [] μ ν := by
  induction n with
  | zero =>
    intro k u4 hk
    have e : k = 8 := by omega
    subst e
    refine aw_blk oX12_owed_13 (pc' := 16) (ls' := [_, _, _, _, _]) (st' := [_, _]) (cs := []) rfl trivial ?_
    refine aw_icmp_ge (tgt := 61) eX12_owed_16 (by decide) (by omega) (by omega) (fun h1 => ?_) (fun h1 => ?_)
    · refine aw_blk oX12_owed_61 (pc' := 62) (ls' := [_, _, _, _, _]) (st' := [_]) (cs := []) rfl trivial ?_
      refine aw_iret eX12_owed_62 rfl (Nat.le_refl _) (Nat.le_refl _) ?_
      exact pe_i rfl rfl rfl
    · exfalso; omega
  | succ n ih =>
    intro k u4 hk
    have T := fun u => ih (k + 1) u (by omega)
    rw [sm_succ (n := k)] at T
    have gb := lbc_bd (ν 45 ((k : Int) * 6 + f))
    refine aw_blk oX12_owed_13 (pc' := 16) (ls' := [_, _, _, _, _]) (st' := [_, _]) (cs := []) rfl trivial ?_
    refine aw_icmp_ge (tgt := 61) eX12_owed_16 (by decide) (by omega) (by omega) (fun h1 => ?_) (fun h1 => ?_)
    · exfalso; omega
    · refine aw_blk oX12_owed_19 (pc' := 22) (ls' := [_, _, _, _, _]) (st' := [_, _, _]) (cs := []) rfl trivial ?_
      refine aw_ciV (rest := []) (c_seenOf h (by omega) (by omega)) kX12_seenOf eX12_owed_22 lX12_owed_22 rfl rfl rfl rfl (Nat.le_of_ble_eq_true rfl) ⟨Nat.le_of_ble_eq_true rfl, Nat.le_of_ble_eq_true rfl⟩ ⟨Nat.le_refl _, Nat.le_refl _⟩ ?_
      refine aw_blk oX12_owed_25 (pc' := 37) (ls' := [_, _, _, _, _]) (st' := [_, _]) (cs := [(_, _)]) rfl (⟨⟨by omega, by omega⟩, trivial⟩) ?_
      refine aw_if_le (tgt := 52) eX12_owed_37 (by decide) (by omega) (fun h2 => ?_) (fun h2 => ?_)
      · rw [show mx0 (lbc (ν 45 ((k : Int) * 6 + f)) - μ 58 4) * μ 58 3 = 0 by rw [show mx0 (lbc (ν 45 ((k : Int) * 6 + f)) - μ 58 4) = 0 from if_neg (by omega), Int.zero_mul]] at T
        refine aw_blk oX12_owed_52 (pc' := 53) (ls' := [_, _, _, _, _]) (st' := [_, _]) (cs := []) rfl trivial ?_
        refine aw_blk oX12_owed_53 (pc' := 13) (ls' := [_, _, _, _, _]) (st' := []) (cs := []) rfl trivial ?_
        exact T _
      · rw [show mx0 (lbc (ν 45 ((k : Int) * 6 + f)) - μ 58 4) = lbc (ν 45 ((k : Int) * 6 + f)) - μ 58 4 from if_pos (by omega)] at T
        refine aw_blk oX12_owed_40 (pc' := 53) (ls' := [_, _, _, _, _]) (st' := [_, _]) (cs := [(_, _)]) rfl (⟨⟨by omega, by omega⟩, trivial⟩) ?_
        refine aw_blk oX12_owed_53 (pc' := 13) (ls' := [_, _, _, _, _]) (st' := []) (cs := []) rfl trivial ?_
        exact T _
theorem rate_bd {μ : MM} (h : RS μ) : μ 58 3 = μ 1 3 ∧ 0 ≤ μ 1 3 ∧ μ 1 3 ≤ 100 := h 3 (by decide) (by decide)
theorem free_bd {μ : MM} (h : RS μ) : μ 58 4 = μ 1 4 ∧ 0 ≤ μ 1 4 ∧ μ 1 4 ≤ 60 := h 4 (by decide) (by decide)
theorem law_owed {κ : KX} {μ : MM} {ν : ML} {f : Int} (h : RR μ ν) (hs : RS μ) (hf : R32 f) : LawN RR csR κ mX11_owed mX12_owed [aI f] μ ν := by
  have g3 := rate_bd hs
  have g4 := free_bd hs
  by_cases c1 : 0 ≤ f ∧ f ≤ 5
  · have T := l_owed (κ := κ) h (f := f) (by omega) (by omega) (by omega) 8 0 aU rfl
    rw [← sm_mul, g3.1, g4.1] at T
    have hb := sm_bd (g := fun s => mx0 (lbc (ν 45 (s * 6 + f)) - μ 1 4)) (B := 64) 8 (fun k hk => by
      have := lbc_bd (ν 45 ((k : Int) * 6 + f))
      unfold mx0; split <;> omega)
    refine ⟨sm (fun s => mx0 (lbc (ν 45 (s * 6 + f)) - μ 1 4)) 8 * μ 1 3, μ, ν, μ, ?_, ?_, ?_, h, SR.rf⟩
    · skip
      refine AMet.of kX11_owed.1 (Nat.le_of_ble_eq_true rfl) rfl ?_
      refine aw_blk oX11_owed_0 (pc' := 1) (ls' := [_, _]) (st' := [_]) (cs := []) rfl trivial ?_
      refine aw_ciS (rest := []) (c_X11_isFilm (by omega)) kX11_isFilm eX11_owed_1 lX11_owed_1 rfl rfl (Nat.le_of_ble_eq_true rfl) ⟨Nat.le_of_ble_eq_true rfl, Nat.le_of_ble_eq_true rfl⟩ ⟨Nat.le_refl _, Nat.le_refl _⟩ ?_
      refine aw_if_ne (tgt := 9) eX11_owed_4 (by decide) bt_r (fun hh => have h208 := bt1 hh; ?_) (fun hh => have h208 := bt0 hh; ?_)
      · first
        | (exfalso; omega; done)
        | (refine aw_blk oX11_owed_9 (pc' := 26) (ls' := [_, _]) (st' := [_, _, _, _]) (cs := [(_, _), (_, _)]) rfl (⟨⟨by omega, by omega⟩, ⟨by omega, by omega⟩, trivial⟩) ?_
           refine aw_ciV (rest := []) (c_owedFor (by omega) (by omega)) kX7_owedFor eX11_owed_26 lX11_owed_26 rfl rfl rfl rfl (Nat.le_of_ble_eq_true rfl) ⟨Nat.le_of_ble_eq_true rfl, Nat.le_of_ble_eq_true rfl⟩ ⟨Nat.le_refl _, Nat.le_refl _⟩ ?_
           refine aw_iret eX11_owed_29 rfl (Nat.le_refl _) (Nat.le_refl _) ?_
           exact pe_i rfl rfl rfl)
      · first
        | (exfalso; omega; done)
        | (refine aw_blk oX11_owed_7 (pc' := 8) (ls' := [_, _]) (st' := [_]) (cs := []) rfl trivial ?_
           refine aw_iret eX11_owed_8 rfl (Nat.le_refl _) (Nat.le_refl _) ?_
           exact pe_i rfl rfl rfl)
    · skip
      refine AMet.of kX12_owed.1 (Nat.le_of_ble_eq_true rfl) rfl ?_
      refine aw_blk oX12_owed_0 (pc' := 1) (ls' := [_, _, _, _, _]) (st' := [_]) (cs := []) rfl trivial ?_
      refine aw_ciS (rest := []) (c_X12_isFilm (by omega)) kX12_isFilm eX12_owed_1 lX12_owed_1 rfl rfl (Nat.le_of_ble_eq_true rfl) ⟨Nat.le_of_ble_eq_true rfl, Nat.le_of_ble_eq_true rfl⟩ ⟨Nat.le_refl _, Nat.le_refl _⟩ ?_
      refine aw_if_ne (tgt := 9) eX12_owed_4 (by decide) bt_r (fun hh => have h209 := bt1 hh; ?_) (fun hh => have h209 := bt0 hh; ?_)
      · first
        | (exfalso; omega; done)
        | (refine aw_blk oX12_owed_9 (pc' := 13) (ls' := [_, _, _, _, _]) (st' := []) (cs := []) rfl trivial ?_
           exact T)
      · first
        | (exfalso; omega; done)
        | (refine aw_blk oX12_owed_7 (pc' := 8) (ls' := [_, _, _, _, _]) (st' := [_]) (cs := []) rfl trivial ?_
           refine aw_iret eX12_owed_8 rfl (Nat.le_refl _) (Nat.le_refl _) ?_
           exact pe_i rfl rfl rfl)
    · generalize sm (fun s => mx0 (lbc (ν 45 (s * 6 + f)) - μ 1 4)) 8 = Q at hb
      have h1 : 0 ≤ Q * μ 1 3 := Int.mul_nonneg hb.1 g3.2.1
      have h2 : Q * μ 1 3 ≤ 512 * μ 1 3 := Int.mul_le_mul_of_nonneg_right (by omega) g3.2.1
      omega
  · refine ⟨-1, μ, ν, μ, ?_, ?_, by decide, h, SR.rf⟩
    · refine AMet.of kX11_owed.1 (Nat.le_of_ble_eq_true rfl) rfl ?_
      refine aw_blk oX11_owed_0 (pc' := 1) (ls' := [_, _]) (st' := [_]) (cs := []) rfl trivial ?_
      refine aw_ciS (rest := []) (c_X11_isFilm (by omega)) kX11_isFilm eX11_owed_1 lX11_owed_1 rfl rfl (Nat.le_of_ble_eq_true rfl) ⟨Nat.le_of_ble_eq_true rfl, Nat.le_of_ble_eq_true rfl⟩ ⟨Nat.le_refl _, Nat.le_refl _⟩ ?_
      refine aw_if_ne (tgt := 9) eX11_owed_4 (by decide) bt_r (fun hh => have h210 := bt1 hh; ?_) (fun hh => have h210 := bt0 hh; ?_)
      · first
        | (exfalso; omega; done)
        | (refine aw_blk oX11_owed_9 (pc' := 26) (ls' := [_, _]) (st' := [_, _, _, _]) (cs := [(_, _), (_, _)]) rfl (⟨⟨by omega, by omega⟩, ⟨by omega, by omega⟩, trivial⟩) ?_
           refine aw_ciV (rest := []) (c_owedFor (by omega) (by omega)) kX7_owedFor eX11_owed_26 lX11_owed_26 rfl rfl rfl rfl (Nat.le_of_ble_eq_true rfl) ⟨Nat.le_of_ble_eq_true rfl, Nat.le_of_ble_eq_true rfl⟩ ⟨Nat.le_refl _, Nat.le_refl _⟩ ?_
           refine aw_iret eX11_owed_29 rfl (Nat.le_refl _) (Nat.le_refl _) ?_
           exact pe_i rfl rfl rfl)
      · first
        | (exfalso; omega; done)
        | (refine aw_blk oX11_owed_7 (pc' := 8) (ls' := [_, _]) (st' := [_]) (cs := []) rfl trivial ?_
           refine aw_iret eX11_owed_8 rfl (Nat.le_refl _) (Nat.le_refl _) ?_
           exact pe_i rfl rfl rfl)
    · refine AMet.of kX12_owed.1 (Nat.le_of_ble_eq_true rfl) rfl ?_
      refine aw_blk oX12_owed_0 (pc' := 1) (ls' := [_, _, _, _, _]) (st' := [_]) (cs := []) rfl trivial ?_
      refine aw_ciS (rest := []) (c_X12_isFilm (by omega)) kX12_isFilm eX12_owed_1 lX12_owed_1 rfl rfl (Nat.le_of_ble_eq_true rfl) ⟨Nat.le_of_ble_eq_true rfl, Nat.le_of_ble_eq_true rfl⟩ ⟨Nat.le_refl _, Nat.le_refl _⟩ ?_
      refine aw_if_ne (tgt := 9) eX12_owed_4 (by decide) bt_r (fun hh => have h211 := bt1 hh; ?_) (fun hh => have h211 := bt0 hh; ?_)
      · first
        | (exfalso; omega; done)
        | (refine aw_blk oX12_owed_9 (pc' := 13) (ls' := [_, _, _, _, _]) (st' := []) (cs := []) rfl trivial ?_
           skip)
      · first
        | (exfalso; omega; done)
        | (refine aw_blk oX12_owed_7 (pc' := 8) (ls' := [_, _, _, _, _]) (st' := [_]) (cs := []) rfl trivial ?_
           refine aw_iret eX12_owed_8 rfl (Nat.le_refl _) (Nat.le_refl _) ?_
           exact pe_i rfl rfl rfl)

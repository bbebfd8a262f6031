/-! ===== show ===== -/
def told (w : Int) : Prop := (0 ≤ w ∧ w ≤ 3) ∨ (10 ≤ w ∧ w ≤ 17)
theorem c_tells1 {κ : KX} {μ : MM} {ν : ML} {w : Int} (hw : R32 w) (h : told w) : AE κ 0 mX9_tells [aI w] μ ν (some (aI 1)) μ ν := by
  unfold told at h
  refine AMet.of kX9_tells.1 (Nat.le_of_ble_eq_true rfl) rfl ?_
  refine aw_blk oX9_tells_0 (pc' := 1) (ls' := [_]) (st' := [_]) (cs := []) rfl trivial ?_
  refine aw_if_lt (tgt := 9) eX9_tells_1 (by decide) (by omega) (fun h1 => ?_) (fun h1 => ?_)
  · first
    | (exfalso; omega; done)
    | (refine aw_blk oX9_tells_9 (pc' := 12) (ls' := [_]) (st' := [_, _]) (cs := []) rfl trivial ?_
       refine aw_icmp_lt (tgt := 25) eX9_tells_12 (by decide) (by omega) (by omega) (fun h2 => ?_) (fun h2 => ?_)
       · first
         | (exfalso; omega; done)
         | (refine aw_blk oX9_tells_25 (pc' := 26) (ls' := [_]) (st' := [_]) (cs := []) rfl trivial ?_
            refine aw_zret eX9_tells_26 rfl (by omega) (Nat.le_refl _) (Nat.le_refl _) ?_
            exact pe_i rfl rfl rfl)
       · first
         | (exfalso; omega; done)
         | (refine aw_blk oX9_tells_15 (pc' := 18) (ls' := [_]) (st' := [_, _]) (cs := []) rfl trivial ?_
            refine aw_icmp_ge (tgt := 25) eX9_tells_18 (by decide) (by omega) (by omega) (fun h3 => ?_) (fun h3 => ?_)
            · first
              | (exfalso; omega; done)
              | (refine aw_blk oX9_tells_25 (pc' := 26) (ls' := [_]) (st' := [_]) (cs := []) rfl trivial ?_
                 refine aw_zret eX9_tells_26 rfl (by omega) (Nat.le_refl _) (Nat.le_refl _) ?_
                 exact pe_i rfl rfl rfl)
            · first
              | (exfalso; omega; done)
              | (refine aw_blk oX9_tells_21 (pc' := 26) (ls' := [_]) (st' := [_]) (cs := []) rfl trivial ?_
                 refine aw_zret eX9_tells_26 rfl (by omega) (Nat.le_refl _) (Nat.le_refl _) ?_
                 exact pe_i rfl rfl rfl)))
  · first
    | (exfalso; omega; done)
    | (refine aw_blk oX9_tells_4 (pc' := 6) (ls' := [_]) (st' := [_, _]) (cs := []) rfl trivial ?_
       refine aw_icmp_le (tgt := 21) eX9_tells_6 (by decide) (by omega) (by omega) (fun h4 => ?_) (fun h4 => ?_)
       · first
         | (exfalso; omega; done)
         | (refine aw_blk oX9_tells_21 (pc' := 26) (ls' := [_]) (st' := [_]) (cs := []) rfl trivial ?_
            refine aw_zret eX9_tells_26 rfl (by omega) (Nat.le_refl _) (Nat.le_refl _) ?_
            exact pe_i rfl rfl rfl)
       · first
         | (exfalso; omega; done)
         | (refine aw_blk oX9_tells_9 (pc' := 12) (ls' := [_]) (st' := [_, _]) (cs := []) rfl trivial ?_
            refine aw_icmp_lt (tgt := 25) eX9_tells_12 (by decide) (by omega) (by omega) (fun h5 => ?_) (fun h5 => ?_)
            · first
              | (exfalso; omega; done)
              | (refine aw_blk oX9_tells_25 (pc' := 26) (ls' := [_]) (st' := [_]) (cs := []) rfl trivial ?_
                 refine aw_zret eX9_tells_26 rfl (by omega) (Nat.le_refl _) (Nat.le_refl _) ?_
                 exact pe_i rfl rfl rfl)
            · first
              | (exfalso; omega; done)
              | (refine aw_blk oX9_tells_15 (pc' := 18) (ls' := [_]) (st' := [_, _]) (cs := []) rfl trivial ?_
                 refine aw_icmp_ge (tgt := 25) eX9_tells_18 (by decide) (by omega) (by omega) (fun h6 => ?_) (fun h6 => ?_)
                 · first
                   | (exfalso; omega; done)
                   | (refine aw_blk oX9_tells_25 (pc' := 26) (ls' := [_]) (st' := [_]) (cs := []) rfl trivial ?_
                      refine aw_zret eX9_tells_26 rfl (by omega) (Nat.le_refl _) (Nat.le_refl _) ?_
                      exact pe_i rfl rfl rfl)
                 · first
                   | (exfalso; omega; done)
                   | (refine aw_blk oX9_tells_21 (pc' := 26) (ls' := [_]) (st' := [_]) (cs := []) rfl trivial ?_
                      refine aw_zret eX9_tells_26 rfl (by omega) (Nat.le_refl _) (Nat.le_refl _) ?_
                      exact pe_i rfl rfl rfl))))
theorem c_tells0 {κ : KX} {μ : MM} {ν : ML} {w : Int} (hw : R32 w) (h : ¬ told w) : AE κ 0 mX9_tells [aI w] μ ν (some (aI 0)) μ ν := by
  unfold told at h
  refine AMet.of kX9_tells.1 (Nat.le_of_ble_eq_true rfl) rfl ?_
  refine aw_blk oX9_tells_0 (pc' := 1) (ls' := [_]) (st' := [_]) (cs := []) rfl trivial ?_
  refine aw_if_lt (tgt := 9) eX9_tells_1 (by decide) (by omega) (fun h7 => ?_) (fun h7 => ?_)
  · first
    | (exfalso; omega; done)
    | (refine aw_blk oX9_tells_9 (pc' := 12) (ls' := [_]) (st' := [_, _]) (cs := []) rfl trivial ?_
       refine aw_icmp_lt (tgt := 25) eX9_tells_12 (by decide) (by omega) (by omega) (fun h8 => ?_) (fun h8 => ?_)
       · first
         | (exfalso; omega; done)
         | (refine aw_blk oX9_tells_25 (pc' := 26) (ls' := [_]) (st' := [_]) (cs := []) rfl trivial ?_
            refine aw_zret eX9_tells_26 rfl (by omega) (Nat.le_refl _) (Nat.le_refl _) ?_
            exact pe_i rfl rfl rfl)
       · first
         | (exfalso; omega; done)
         | (refine aw_blk oX9_tells_15 (pc' := 18) (ls' := [_]) (st' := [_, _]) (cs := []) rfl trivial ?_
            refine aw_icmp_ge (tgt := 25) eX9_tells_18 (by decide) (by omega) (by omega) (fun h9 => ?_) (fun h9 => ?_)
            · first
              | (exfalso; omega; done)
              | (refine aw_blk oX9_tells_25 (pc' := 26) (ls' := [_]) (st' := [_]) (cs := []) rfl trivial ?_
                 refine aw_zret eX9_tells_26 rfl (by omega) (Nat.le_refl _) (Nat.le_refl _) ?_
                 exact pe_i rfl rfl rfl)
            · first
              | (exfalso; omega; done)
              | (refine aw_blk oX9_tells_21 (pc' := 26) (ls' := [_]) (st' := [_]) (cs := []) rfl trivial ?_
                 refine aw_zret eX9_tells_26 rfl (by omega) (Nat.le_refl _) (Nat.le_refl _) ?_
                 exact pe_i rfl rfl rfl)))
  · first
    | (exfalso; omega; done)
    | (refine aw_blk oX9_tells_4 (pc' := 6) (ls' := [_]) (st' := [_, _]) (cs := []) rfl trivial ?_
       refine aw_icmp_le (tgt := 21) eX9_tells_6 (by decide) (by omega) (by omega) (fun h10 => ?_) (fun h10 => ?_)
       · first
         | (exfalso; omega; done)
         | (refine aw_blk oX9_tells_21 (pc' := 26) (ls' := [_]) (st' := [_]) (cs := []) rfl trivial ?_
            refine aw_zret eX9_tells_26 rfl (by omega) (Nat.le_refl _) (Nat.le_refl _) ?_
            exact pe_i rfl rfl rfl)
       · first
         | (exfalso; omega; done)
         | (refine aw_blk oX9_tells_9 (pc' := 12) (ls' := [_]) (st' := [_, _]) (cs := []) rfl trivial ?_
            refine aw_icmp_lt (tgt := 25) eX9_tells_12 (by decide) (by omega) (by omega) (fun h11 => ?_) (fun h11 => ?_)
            · first
              | (exfalso; omega; done)
              | (refine aw_blk oX9_tells_25 (pc' := 26) (ls' := [_]) (st' := [_]) (cs := []) rfl trivial ?_
                 refine aw_zret eX9_tells_26 rfl (by omega) (Nat.le_refl _) (Nat.le_refl _) ?_
                 exact pe_i rfl rfl rfl)
            · first
              | (exfalso; omega; done)
              | (refine aw_blk oX9_tells_15 (pc' := 18) (ls' := [_]) (st' := [_, _]) (cs := []) rfl trivial ?_
                 refine aw_icmp_ge (tgt := 25) eX9_tells_18 (by decide) (by omega) (by omega) (fun h12 => ?_) (fun h12 => ?_)
                 · first
                   | (exfalso; omega; done)
                   | (refine aw_blk oX9_tells_25 (pc' := 26) (ls' := [_]) (st' := [_]) (cs := []) rfl trivial ?_
                      refine aw_zret eX9_tells_26 rfl (by omega) (Nat.le_refl _) (Nat.le_refl _) ?_
                      exact pe_i rfl rfl rfl)
                 · first
                   | (exfalso; omega; done)
                   | (refine aw_blk oX9_tells_21 (pc' := 26) (ls' := [_]) (st' := [_]) (cs := []) rfl trivial ?_
                      refine aw_zret eX9_tells_26 rfl (by omega) (Nat.le_refl _) (Nat.le_refl _) ?_
                      exact pe_i rfl rfl rfl))))
theorem c_isTold1 {κ : KX} {μ : MM} {ν : ML} {w : Int} (hw : R32 w) (h : told w) : AE κ 1 mX12_isTold [aI w] μ ν (some (aI 1)) μ ν := by
  unfold told at h
  refine AMet.of kX12_isTold.1 (Nat.le_of_ble_eq_true rfl) rfl ?_
  refine aw_blk oX12_isTold_0 (pc' := 3) (ls' := [_]) (st' := [_, _, _]) (cs := []) rfl trivial ?_
  refine aw_ciS (rest := []) (c_X12_in (by omega) (by omega) (by omega)) kX12_in eX12_isTold_3 lX12_isTold_3 rfl rfl (Nat.le_of_ble_eq_true rfl) ⟨Nat.le_of_ble_eq_true rfl, Nat.le_of_ble_eq_true rfl⟩ ⟨Nat.le_refl _, Nat.le_refl _⟩ ?_
  refine aw_if_ne (tgt := 20) eX12_isTold_6 (by decide) bt_r (fun hh => have h13 := bt1 hh; ?_) (fun hh => have h13 := bt0 hh; ?_)
  · first
    | (exfalso; omega; done)
    | (refine aw_blk oX12_isTold_20 (pc' := 25) (ls' := [_]) (st' := [_]) (cs := []) rfl trivial ?_
       refine aw_zret eX12_isTold_25 rfl (by omega) (Nat.le_refl _) (Nat.le_refl _) ?_
       exact pe_i rfl rfl rfl)
  · first
    | (exfalso; omega; done)
    | (refine aw_blk oX12_isTold_9 (pc' := 14) (ls' := [_]) (st' := [_, _, _]) (cs := []) rfl trivial ?_
       refine aw_ciS (rest := []) (c_X12_in (by omega) (by omega) (by omega)) kX12_in eX12_isTold_14 lX12_isTold_14 rfl rfl (Nat.le_of_ble_eq_true rfl) ⟨Nat.le_of_ble_eq_true rfl, Nat.le_of_ble_eq_true rfl⟩ ⟨Nat.le_refl _, Nat.le_refl _⟩ ?_
       refine aw_if_eq (tgt := 24) eX12_isTold_17 (by decide) bt_r (fun hh => have h14 := bt0 hh; ?_) (fun hh => have h14 := bt1 hh; ?_)
       · first
         | (exfalso; omega; done)
         | (refine aw_blk oX12_isTold_24 (pc' := 25) (ls' := [_]) (st' := [_]) (cs := []) rfl trivial ?_
            refine aw_zret eX12_isTold_25 rfl (by omega) (Nat.le_refl _) (Nat.le_refl _) ?_
            exact pe_i rfl rfl rfl)
       · first
         | (exfalso; omega; done)
         | (refine aw_blk oX12_isTold_20 (pc' := 25) (ls' := [_]) (st' := [_]) (cs := []) rfl trivial ?_
            refine aw_zret eX12_isTold_25 rfl (by omega) (Nat.le_refl _) (Nat.le_refl _) ?_
            exact pe_i rfl rfl rfl))
theorem c_isTold0 {κ : KX} {μ : MM} {ν : ML} {w : Int} (hw : R32 w) (h : ¬ told w) : AE κ 1 mX12_isTold [aI w] μ ν (some (aI 0)) μ ν := by
  unfold told at h
  refine AMet.of kX12_isTold.1 (Nat.le_of_ble_eq_true rfl) rfl ?_
  refine aw_blk oX12_isTold_0 (pc' := 3) (ls' := [_]) (st' := [_, _, _]) (cs := []) rfl trivial ?_
  refine aw_ciS (rest := []) (c_X12_in (by omega) (by omega) (by omega)) kX12_in eX12_isTold_3 lX12_isTold_3 rfl rfl (Nat.le_of_ble_eq_true rfl) ⟨Nat.le_of_ble_eq_true rfl, Nat.le_of_ble_eq_true rfl⟩ ⟨Nat.le_refl _, Nat.le_refl _⟩ ?_
  refine aw_if_ne (tgt := 20) eX12_isTold_6 (by decide) bt_r (fun hh => have h15 := bt1 hh; ?_) (fun hh => have h15 := bt0 hh; ?_)
  · first
    | (exfalso; omega; done)
    | (refine aw_blk oX12_isTold_20 (pc' := 25) (ls' := [_]) (st' := [_]) (cs := []) rfl trivial ?_
       refine aw_zret eX12_isTold_25 rfl (by omega) (Nat.le_refl _) (Nat.le_refl _) ?_
       exact pe_i rfl rfl rfl)
  · first
    | (exfalso; omega; done)
    | (refine aw_blk oX12_isTold_9 (pc' := 14) (ls' := [_]) (st' := [_, _, _]) (cs := []) rfl trivial ?_
       refine aw_ciS (rest := []) (c_X12_in (by omega) (by omega) (by omega)) kX12_in eX12_isTold_14 lX12_isTold_14 rfl rfl (Nat.le_of_ble_eq_true rfl) ⟨Nat.le_of_ble_eq_true rfl, Nat.le_of_ble_eq_true rfl⟩ ⟨Nat.le_refl _, Nat.le_refl _⟩ ?_
       refine aw_if_eq (tgt := 24) eX12_isTold_17 (by decide) bt_r (fun hh => have h16 := bt0 hh; ?_) (fun hh => have h16 := bt1 hh; ?_)
       · first
         | (exfalso; omega; done)
         | (refine aw_blk oX12_isTold_24 (pc' := 25) (ls' := [_]) (st' := [_]) (cs := []) rfl trivial ?_
            refine aw_zret eX12_isTold_25 rfl (by omega) (Nat.le_refl _) (Nat.le_refl _) ?_
            exact pe_i rfl rfl rfl)
       · first
         | (exfalso; omega; done)
         | (refine aw_blk oX12_isTold_20 (pc' := 25) (ls' := [_]) (st' := [_]) (cs := []) rfl trivial ?_
            refine aw_zret eX12_isTold_25 rfl (by omega) (Nat.le_refl _) (Nat.le_refl _) ?_
            exact pe_i rfl rfl rfl))
/-- what is told of a show -/
def tel (W : WS) (w : Int) : Int := if w = 0 then W.seen else if w = 1 then W.still else if w = 2 then W.sum else if w = 3 then W.last else W.row (w - 10)
def eA (μ : MM) (W : WS) : Prop := μ 23 1 = W.seen ∧ μ 23 2 = W.still ∧ μ 23 3 = W.sum ∧ μ 23 4 = W.last ∧ ∀ i : Int, 0 ≤ i → i < 8 → μ 24 i = W.row i
theorem eC.a {μ : MM} {W : WS} (h : eC μ W) : eA μ W := ⟨h.1, h.2.1, h.2.2.1, h.2.2.2.1, h.2.2.2.2.2.2⟩
theorem tel_R {D : FD} {W : WS} {w : Int} (hD : D.ok) (h : WI D W) (hb : WB D 60 W) (hw : told w) : R32 (tel W w) := by
  obtain ⟨⟨a1, a2, a3⟩, b, c, d, e⟩ := h
  obtain ⟨b1, b2, b3, b4⟩ := hb
  have o1 := hD.1
  unfold tel
  unfold told at hw
  have hr : 10 ≤ w ∧ w ≤ 17 → R32 (W.row (w - 10)) := fun q => by
    by_cases k : w - 10 < W.whole
    · have := c (w - 10) (by omega) k; omega
    · by_cases k2 : W.whole < w - 10
      · have := d (w - 10) k2 (by omega); omega
      · rw [show w - 10 = W.whole by omega]
        rcases e with ⟨-, e⟩ | ⟨-, -, e⟩
        · have := e (by omega); omega
        · omega
  split
  · omega
  · split
    · omega
    · split
      · omega
      · split
        · omega
        · exact hr (by omega)
theorem c_answer {κ : KX} {μ : MM} {ν : ML} {W : WS} {w : Int} (h : eA μ W) (hw : told w) : AE κ 1 mX9_answer [aR 23, aI w] μ ν (some (aI (tel W w))) μ ν := by
  obtain ⟨c1, c2, c3, c4, c7⟩ := h
  have hT := c_tells1 (κ := κ) (μ := μ) (ν := ν) (w := w) (by unfold told at hw; omega) hw
  unfold told at hw
  by_cases h0 : w = 0
  · subst h0
    refine AMet.of kX9_answer.1 (Nat.le_of_ble_eq_true rfl) rfl ?_
    refine aw_blk oX9_answer_0 (pc' := 1) (ls' := [_, _]) (st' := [_]) (cs := []) rfl trivial ?_
    refine aw_tswIn (tgt := 32) eX9_answer_1 (by decide) (by decide) (by decide) rfl (by decide) ?_
    refine aw_blk oX9_answer_32 (pc' := 36) (ls' := [_, _]) (st' := [_]) (cs := []) rfl trivial ?_
    refine aw_iret eX9_answer_36 rfl (Nat.le_refl _) (Nat.le_refl _) ?_
    exact pe_i c1 rfl rfl
  · by_cases h1 : w = 1
    · subst h1
      refine AMet.of kX9_answer.1 (Nat.le_of_ble_eq_true rfl) rfl ?_
      refine aw_blk oX9_answer_0 (pc' := 1) (ls' := [_, _]) (st' := [_]) (cs := []) rfl trivial ?_
      refine aw_tswIn (tgt := 37) eX9_answer_1 (by decide) (by decide) (by decide) rfl (by decide) ?_
      refine aw_blk oX9_answer_37 (pc' := 41) (ls' := [_, _]) (st' := [_]) (cs := []) rfl trivial ?_
      refine aw_iret eX9_answer_41 rfl (Nat.le_refl _) (Nat.le_refl _) ?_
      exact pe_i c2 rfl rfl
    · by_cases h2 : w = 2
      · subst h2
        refine AMet.of kX9_answer.1 (Nat.le_of_ble_eq_true rfl) rfl ?_
        refine aw_blk oX9_answer_0 (pc' := 1) (ls' := [_, _]) (st' := [_]) (cs := []) rfl trivial ?_
        refine aw_tswIn (tgt := 42) eX9_answer_1 (by decide) (by decide) (by decide) rfl (by decide) ?_
        refine aw_blk oX9_answer_42 (pc' := 46) (ls' := [_, _]) (st' := [_]) (cs := []) rfl trivial ?_
        refine aw_iret eX9_answer_46 rfl (Nat.le_refl _) (Nat.le_refl _) ?_
        exact pe_i c3 rfl rfl
      · by_cases h3 : w = 3
        · subst h3
          refine AMet.of kX9_answer.1 (Nat.le_of_ble_eq_true rfl) rfl ?_
          refine aw_blk oX9_answer_0 (pc' := 1) (ls' := [_, _]) (st' := [_]) (cs := []) rfl trivial ?_
          refine aw_tswIn (tgt := 47) eX9_answer_1 (by decide) (by decide) (by decide) rfl (by decide) ?_
          refine aw_blk oX9_answer_47 (pc' := 51) (ls' := [_, _]) (st' := [_]) (cs := []) rfl trivial ?_
          refine aw_iret eX9_answer_51 rfl (Nat.le_refl _) (Nat.le_refl _) ?_
          exact pe_i c4 rfl rfl
        · have e : tel W w = W.row (w - 10) := by
            unfold tel
            rw [if_neg h0, if_neg h1, if_neg h2, if_neg h3]
          rw [e]
          have g := c7 (w - 10) (by omega) (by omega)
          refine AMet.of kX9_answer.1 (Nat.le_of_ble_eq_true rfl) rfl ?_
          refine aw_blk oX9_answer_0 (pc' := 1) (ls' := [_, _]) (st' := [_]) (cs := []) rfl trivial ?_
          refine aw_tswOut (tgt := 52) eX9_answer_1 (by omega) (by omega) (by decide) ?_
          refine aw_blk oX9_answer_52 (pc' := 53) (ls' := [_, _]) (st' := [_]) (cs := []) rfl trivial ?_
          refine aw_ciS (rest := []) (hT) kX9_tells eX9_answer_53 lX9_answer_53 rfl rfl (Nat.le_of_ble_eq_true rfl) ⟨Nat.le_of_ble_eq_true rfl, Nat.le_of_ble_eq_true rfl⟩ ⟨Nat.le_refl _, Nat.le_refl _⟩ ?_
          refine aw_if_eq (tgt := 71) eX9_answer_56 (by decide) (by omega) (fun h17 => ?_) (fun h17 => ?_)
          · first
            | (exfalso; omega; done)
            | (refine aw_blk oX9_answer_71 (pc' := 73) (ls' := [_, _]) (st' := [_]) (cs := []) rfl trivial ?_
               refine aw_iret eX9_answer_73 rfl (Nat.le_refl _) (Nat.le_refl _) ?_
               exact pe_i g rfl rfl)
          · first
            | (exfalso; omega; done)
            | (refine aw_blk oX9_answer_59 (pc' := 73) (ls' := [_, _]) (st' := [_]) (cs := [(_, _)]) rfl (⟨⟨by omega, by omega⟩, trivial⟩) ?_
               refine aw_iret eX9_answer_73 rfl (Nat.le_refl _) (Nat.le_refl _) ?_
               exact pe_i g rfl rfl)
theorem c_tell {κ : KX} {μ : MM} {ν : ML} {D : FD} {W : WS} {w : Int} (h : eM μ W) (hD : D.ok) (hW : WI D W) (e4 : μ 55 4 = D.cnt) (hw : told w) : AE κ 0 mX12_tell [aR 55, aI w] μ ν (some (aI (tel W w))) μ ν := by
  obtain ⟨c1, c2, c3, c4, c7⟩ := h
  obtain ⟨⟨a1, a2, a3⟩, b, c, d, e⟩ := hW
  have o1 := hD.1
  unfold told at hw
  have hr : 10 ≤ w → D.cnt ≤ w - 10 → W.row (w - 10) = -6 := fun q q2 => by
    by_cases k2 : W.whole < w - 10
    · exact d (w - 10) k2 (by omega)
    · rw [show w - 10 = W.whole by omega]
      rcases e with ⟨-, e⟩ | ⟨-, e, -⟩
      · exact e (by omega)
      · omega
  have g : 10 ≤ w → μ 81 (w - 10) = W.row (w - 10) := fun q => c7 (w - 10) (by omega) (by omega)
  refine AMet.of kX12_tell.1 (Nat.le_of_ble_eq_true rfl) rfl ?_
  refine aw_blk oX12_tell_0 (pc' := 1) (ls' := [_, _]) (st' := [_]) (cs := []) rfl trivial ?_
  refine aw_if_ne (tgt := 11) eX12_tell_1 (by decide) (by omega) (fun h18 => ?_) (fun h18 => ?_)
  · first
    | (exfalso; omega; done)
    | (refine aw_blk oX12_tell_11 (pc' := 13) (ls' := [_, _]) (st' := [_, _]) (cs := []) rfl trivial ?_
       refine aw_icmp_ne (tgt := 23) eX12_tell_13 (by decide) (by omega) (by omega) (fun h19 => ?_) (fun h19 => ?_)
       · first
         | (exfalso; omega; done)
         | (refine aw_blk oX12_tell_23 (pc' := 25) (ls' := [_, _]) (st' := [_, _]) (cs := []) rfl trivial ?_
            refine aw_icmp_ne (tgt := 35) eX12_tell_25 (by decide) (by omega) (by omega) (fun h20 => ?_) (fun h20 => ?_)
            · first
              | (exfalso; omega; done)
              | (refine aw_blk oX12_tell_35 (pc' := 37) (ls' := [_, _]) (st' := [_, _]) (cs := []) rfl trivial ?_
                 refine aw_icmp_ne (tgt := 47) eX12_tell_37 (by decide) (by omega) (by omega) (fun h21 => ?_) (fun h21 => ?_)
                 · first
                   | (exfalso; omega; done)
                   | (refine aw_blk oX12_tell_47 (pc' := 55) (ls' := [_, _]) (st' := [_, _]) (cs := []) rfl trivial ?_
                      refine aw_icmp_ge (tgt := 70) eX12_tell_55 (by decide) (by omega) (by omega) (fun h22 => ?_) (fun h22 => ?_)
                      · first
                        | (exfalso; omega; done)
                        | (refine aw_blk oX12_tell_70 (pc' := 72) (ls' := [_, _]) (st' := [_]) (cs := []) rfl trivial ?_
                           refine aw_iret eX12_tell_72 rfl (Nat.le_refl _) (Nat.le_refl _) ?_
                           exact pe_i (by unfold tel; (repeat' split) <;> first | omega | exact g (by omega) | exact (hr (by omega) (by omega)).symm) rfl rfl)
                      · first
                        | (exfalso; omega; done)
                        | (refine aw_blk oX12_tell_58 (pc' := 72) (ls' := [_, _]) (st' := [_]) (cs := [(_, _)]) rfl (⟨⟨by omega, by omega⟩, trivial⟩) ?_
                           refine aw_iret eX12_tell_72 rfl (Nat.le_refl _) (Nat.le_refl _) ?_
                           exact pe_i (by unfold tel; (repeat' split) <;> first | omega | exact g (by omega) | exact (hr (by omega) (by omega)).symm) rfl rfl))
                 · first
                   | (exfalso; omega; done)
                   | (refine aw_blk oX12_tell_40 (pc' := 72) (ls' := [_, _]) (st' := [_]) (cs := []) rfl trivial ?_
                      refine aw_iret eX12_tell_72 rfl (Nat.le_refl _) (Nat.le_refl _) ?_
                      exact pe_i (by unfold tel; (repeat' split) <;> first | omega | exact g (by omega) | exact (hr (by omega) (by omega)).symm) rfl rfl))
            · first
              | (exfalso; omega; done)
              | (refine aw_blk oX12_tell_28 (pc' := 72) (ls' := [_, _]) (st' := [_]) (cs := []) rfl trivial ?_
                 refine aw_iret eX12_tell_72 rfl (Nat.le_refl _) (Nat.le_refl _) ?_
                 exact pe_i (by unfold tel; (repeat' split) <;> first | omega | exact g (by omega) | exact (hr (by omega) (by omega)).symm) rfl rfl))
       · first
         | (exfalso; omega; done)
         | (refine aw_blk oX12_tell_16 (pc' := 72) (ls' := [_, _]) (st' := [_]) (cs := []) rfl trivial ?_
            refine aw_iret eX12_tell_72 rfl (Nat.le_refl _) (Nat.le_refl _) ?_
            exact pe_i (by unfold tel; (repeat' split) <;> first | omega | exact g (by omega) | exact (hr (by omega) (by omega)).symm) rfl rfl))
  · first
    | (exfalso; omega; done)
    | (refine aw_blk oX12_tell_4 (pc' := 72) (ls' := [_, _]) (st' := [_]) (cs := []) rfl trivial ?_
       refine aw_iret eX12_tell_72 rfl (Nat.le_refl _) (Nat.le_refl _) ?_
       exact pe_i (by unfold tel; (repeat' split) <;> first | omega | exact g (by omega) | exact (hr (by omega) (by omega)).symm) rfl rfl)
/-- the show that is kept is the show that is asked -/
def RW (μ : MM) : Prop := μ 0 11 = 0 ∨ (μ 0 11 = 1 ∧ eA μ (shw (fdS μ) 60 0 W0))
theorem fdS_eq {μ μ' : MM} (e15 : μ' 15 = μ 15) (e16 : μ' 16 = μ 16) (e14 : μ' 14 = μ 14) (e1 : μ' 1 2 = μ 1 2) (e17 : μ' 17 6 = μ 17 6 ∧ μ' 17 7 = μ 17 7) (e19 : μ' 19 = μ 19) (e20 : μ' 20 = μ 20) (e21 : μ' 21 = μ 21) (e22 : μ' 22 = μ 22) : fdS μ' = fdS μ := by
  have hpk : ∀ w l z k : Int, pk μ' w l z k (μ' 17 6).toNat 0 = pk μ w l z k (μ 17 6).toNat 0 := fun w l z k => by
    rw [e17.1]
    exact pk_congr e17.2 e19 e20 e21 e22 _ _
  unfold fdS
  rw [e15, e16, e14, e1]
  simp only [hpk]
theorem RW.fr {μ μ' : MM} (h : RW μ) (e0 : μ' 0 11 = μ 0 11) (e23 : μ' 23 = μ 23) (e24 : μ' 24 = μ 24) (e15 : μ' 15 = μ 15) (e16 : μ' 16 = μ 16) (e14 : μ' 14 = μ 14) (e1 : μ' 1 2 = μ 1 2) (e17 : μ' 17 6 = μ 17 6 ∧ μ' 17 7 = μ 17 7) (e19 : μ' 19 = μ 19) (e20 : μ' 20 = μ 20) (e21 : μ' 21 = μ 21) (e22 : μ' 22 = μ 22) : RW μ' := by
  rcases h with h | ⟨h, g⟩
  · exact Or.inl (by omega)
  · refine Or.inr ⟨by omega, ?_⟩
    rw [fdS_eq e15 e16 e14 e1 e17 e19 e20 e21 e22]
    unfold eA at g ⊢
    rw [e23, e24]
    exact g
theorem FS.fr {μ μ' : MM} (h : FS μ) {cs : List Nat} (hS : SR cs μ μ') (hc : cs.all (fun c => decide (c ∈ [0, 23, 24, 81])) = true) : FS μ' := by
  have g : ∀ c, c ∉ [0, 23, 24, 81] → μ' c = μ c := fun c hn => hS c (fun q => hn (of_decide_eq_true (List.all_eq_true.mp hc c q)))
  obtain ⟨⟨f1, f2, f3, f4⟩, ra, f5⟩ := h
  refine ⟨⟨?_, ?_, ?_, ?_⟩, ?_, ?_⟩
  · rw [g 55 (by decide), g 14 (by decide)]; exact f1
  · rw [g 55 (by decide), g 14 (by decide)]; exact f2
  · unfold PR
    rw [g 16 (by decide), g 59 (by decide)]; exact f3
  · unfold PR
    rw [g 15 (by decide), g 60 (by decide)]; exact f4
  · exact ra.fr ⟨by rw [g 17 (by decide)], by rw [g 17 (by decide)]⟩ (g 19 (by decide)) (g 20 (by decide)) (g 21 (by decide)) (g 22 (by decide)) (g 62 (by decide)) (by rw [g 55 (by decide)])
  · rw [g 1 (by decide), g 58 (by decide)]; exact f5
theorem FS.md {μ : MM} (h : FS μ) : MD μ (fdS μ) := ⟨h.ok, fun t h0 h1 => (h.1.2.2.2 t h0 h1).1, fun i h0 h1 => (h.1.2.2.1 i h0 h1).1, h.1.1.1, h.2.2.2.2⟩
/-- show: what changes -/
def LawS (κ : KX) (cx cm : MX) (As : List AV) (μ : MM) (ν : ML) : Prop := LawOK (fun μ2 ν2 => ν2 = ν ∧ SR [0, 23, 24, 55, 81] μ μ2 ∧ SF [31, 32, 33, 34] μ μ2 ∧ (∀ j : Int, j ≠ 11 → μ2 0 j = μ 0 j) ∧ RW μ2) κ cx cm As μ ν
theorem law_show {κ : KX} {μ : MM} {ν : ML} {w : Int} (h : FS μ) (hR : RW μ) (hw : R32 w) : LawS κ mX11_show mX12_show [aI w] μ ν := by
  have hD := h.ok
  by_cases c1 : told w
  · have hT := fun μ => c_tells1 (κ := κ) (μ := μ) (ν := ν) hw c1
    have hI := fun μ => c_isTold1 (κ := κ) (μ := μ) (ν := ν) hw c1
    obtain ⟨i1, i2⟩ := shw_inv hD 60 0 W0 (by omega) (by omega) (WI.w0 hD) WB.w0
    refine ⟨fun r μ1 ν1 => r = some (aI (tel (shw (fdS μ) 60 0 W0) w)) ∧ ν1 = ν ∧ SR [0, 23, 24] μ μ1 ∧ (∀ j : Int, j ≠ 11 → μ1 0 j = μ 0 j) ∧ μ1 0 11 = 1 ∧ eA μ1 (shw (fdS μ) 60 0 W0), ?_, ?_⟩
    · skip
      have E43 : ∀ μ1 : MM, SR [0, 23, 24] μ μ1 → (∀ j : Int, j ≠ 11 → μ1 0 j = μ 0 j) → μ1 0 11 = 1 → eA μ1 (shw (fdS μ) 60 0 W0) → AX κ mX11_show 60 (QS (fun r μ1 ν1 => r = some (aI (tel (shw (fdS μ) 60 0 W0) w)) ∧ ν1 = ν ∧ SR [0, 23, 24] μ μ1 ∧ (∀ j : Int, j ≠ 11 → μ1 0 j = μ 0 j) ∧ μ1 0 11 = 1 ∧ eA μ1 (shw (fdS μ) 60 0 W0))) 43 [aR 0, aI w] [] μ1 ν := fun μ1 q1 q2 q3 q4 => by
        refine aw_blk oX11_show_43 (pc' := 48) (ls' := [_, _]) (st' := [_, _]) (cs := []) rfl trivial ?_
        refine aw_ciV (rest := []) (c_answer q4 c1) kX9_answer eX11_show_48 lX11_show_48 rfl rfl rfl rfl (Nat.le_of_ble_eq_true rfl) ⟨Nat.le_of_ble_eq_true rfl, Nat.le_of_ble_eq_true rfl⟩ ⟨Nat.le_refl _, Nat.le_refl _⟩ ?_
        refine aw_iret eX11_show_51 rfl (Nat.le_refl _) (Nat.le_refl _) ?_
        exact ⟨rfl, rfl, rfl, q1, q2, q3, q4⟩
      refine AMet.of kX11_show.1 (Nat.le_of_ble_eq_true rfl) rfl ?_
      refine aw_blk oX11_show_0 (pc' := 1) (ls' := [_, _]) (st' := [_]) (cs := []) rfl trivial ?_
      refine aw_ciS (rest := []) (hT μ) kX9_tells eX11_show_1 lX11_show_1 rfl rfl (Nat.le_of_ble_eq_true rfl) ⟨Nat.le_of_ble_eq_true rfl, Nat.le_of_ble_eq_true rfl⟩ ⟨Nat.le_refl _, Nat.le_refl _⟩ ?_
      refine aw_if_ne (tgt := 10) eX11_show_4 (by decide) (by omega) (fun h1 => ?_) (fun h1 => ?_)
      · refine aw_blk oX11_show_10 (pc' := 14) (ls' := [_, _]) (st' := [_]) (cs := []) rfl trivial ?_
        rcases hR with q | ⟨q, qe⟩
        · refine aw_if_ne (tgt := 43) eX11_show_14 (by decide) (by omega) (fun h2 => ?_) (fun h2 => ?_)
          · exfalso; omega
          · have f5 := h.2.2
            refine aw_blk oX11_show_17 (pc' := 35) (ls' := [_, _]) (st' := [_, _, _, _]) (cs := [(_, _)]) rfl (⟨⟨by omega, by omega⟩, trivial⟩) ?_
            refine aw_crV (rest := []) (c_run h) kX9_run eX11_show_35 lX11_show_35 rfl rfl rfl rfl (Nat.le_of_ble_eq_true rfl) ⟨Nat.le_of_ble_eq_true rfl, Nat.le_of_ble_eq_true rfl⟩ ⟨Nat.le_refl _, Nat.le_refl _⟩ ?_
            intro r μ1 ν1 hP
            obtain ⟨rfl, rfl, hS1, hE1⟩ := hP
            refine aw_blk oX11_show_38 (pc' := 43) (ls' := [_, _]) (st' := []) (cs := [(_, _)]) rfl (⟨⟨by omega, by omega⟩, trivial⟩) ?_
            refine E43 _ ((hS1.mono (fun c hc => List.mem_cons_of_mem _ hc)).put (by decide)) (fun j hj => ?_) rfl hE1.a
            rw [up_ne (Or.inr hj), hS1 0 (by decide)]
        · refine aw_if_ne (tgt := 43) eX11_show_14 (by decide) (by omega) (fun h2 => ?_) (fun h2 => ?_)
          · exact E43 μ SR.rf (fun _ _ => rfl) q qe
          · exfalso; omega
      · exfalso; omega
    · intro r μ1 ν1 hP
      obtain ⟨rfl, rfl, hS1, hj, h11, hE⟩ := hP
      have hF1 : FS μ1 := h.fr hS1 (by decide)
      have ed : fdS μ1 = fdS μ := fdS_eq (hS1 15 (by decide)) (hS1 16 (by decide)) (hS1 14 (by decide)) (by rw [hS1 1 (by decide)]) ⟨by rw [hS1 17 (by decide)], by rw [hS1 17 (by decide)]⟩ (hS1 19 (by decide)) (hS1 20 (by decide)) (hS1 21 (by decide)) (hS1 22 (by decide))
      refine ⟨_, rfl, tel_R hD i1 i2 c1, ?_⟩
      have hC := c_runM (κ := κ) (ν := ν1) hF1.md (cho_show hF1)
      rw [ed] at hC
      refine AMet.of kX12_show.1 (Nat.le_of_ble_eq_true rfl) rfl ?_
      refine aw_blk oX12_show_0 (pc' := 1) (ls' := [_, _]) (st' := [_]) (cs := []) rfl trivial ?_
      refine aw_ciS (rest := []) (hI μ1) kX12_isTold eX12_show_1 lX12_show_1 rfl rfl (Nat.le_of_ble_eq_true rfl) ⟨Nat.le_of_ble_eq_true rfl, Nat.le_of_ble_eq_true rfl⟩ ⟨Nat.le_refl _, Nat.le_refl _⟩ ?_
      refine aw_if_ne (tgt := 10) eX12_show_4 (by decide) (by omega) (fun h1 => ?_) (fun h1 => ?_)
      · refine aw_blk oX12_show_10 (pc' := 12) (ls' := [_, _]) (st' := [_, _]) (cs := []) rfl trivial ?_
        refine aw_crV (rest := []) hC kX12_run eX12_show_12 lX12_show_12 rfl rfl rfl rfl (Nat.le_of_ble_eq_true rfl) ⟨Nat.le_of_ble_eq_true rfl, Nat.le_of_ble_eq_true rfl⟩ ⟨Nat.le_refl _, Nat.le_refl _⟩ ?_
        intro r μ2 ν2 hP
        obtain ⟨rfl, rfl, hS2, hE2⟩ := hP
        refine aw_blk oX12_show_15 (pc' := 17) (ls' := [_, _]) (st' := [_, _]) (cs := []) rfl trivial ?_
        refine aw_ciV (rest := []) (c_tell hE2 hD i1 (by rw [hS2.2 4 (by decide)]; exact (hS1 55 (by decide)) ▸ h.1.1.1) c1) kX12_tell eX12_show_17 lX12_show_17 rfl rfl rfl rfl (Nat.le_of_ble_eq_true rfl) ⟨Nat.le_of_ble_eq_true rfl, Nat.le_of_ble_eq_true rfl⟩ ⟨Nat.le_refl _, Nat.le_refl _⟩ ?_
        refine aw_iret eX12_show_20 rfl (Nat.le_refl _) (Nat.le_refl _) ?_
        refine ⟨rfl, rfl, rfl, ?_, ?_, ?_, ?_⟩
        · exact (hS1.trans hS2.1).sub (by decide)
        · intro j hj2
          rw [hS2.2 j hj2, hS1 55 (by decide)]
        · intro j hj2
          rw [hS2.1 0 (by decide)]; exact hj j hj2
        · refine RW.fr (μ := μ1) (Or.inr ⟨h11, by rw [ed]; exact hE⟩) ?_ (hS2.1 23 (by decide)) (hS2.1 24 (by decide)) (hS2.1 15 (by decide)) (hS2.1 16 (by decide)) (hS2.1 14 (by decide)) (by rw [hS2.1 1 (by decide)]) ⟨by rw [hS2.1 17 (by decide)], by rw [hS2.1 17 (by decide)]⟩ (hS2.1 19 (by decide)) (hS2.1 20 (by decide)) (hS2.1 21 (by decide)) (hS2.1 22 (by decide))
          rw [hS2.1 0 (by decide)]
      · exfalso; omega
  · have hT := fun μ => c_tells0 (κ := κ) (μ := μ) (ν := ν) hw c1
    have hI := fun μ => c_isTold0 (κ := κ) (μ := μ) (ν := ν) hw c1
    refine ⟨fun r μ1 ν1 => r = some (aI (-2)) ∧ ν1 = ν ∧ μ1 = μ, ?_, ?_⟩
    · skip
      refine AMet.of kX11_show.1 (Nat.le_of_ble_eq_true rfl) rfl ?_
      refine aw_blk oX11_show_0 (pc' := 1) (ls' := [_, _]) (st' := [_]) (cs := []) rfl trivial ?_
      refine aw_ciS (rest := []) (hT μ) kX9_tells eX11_show_1 lX11_show_1 rfl rfl (Nat.le_of_ble_eq_true rfl) ⟨Nat.le_of_ble_eq_true rfl, Nat.le_of_ble_eq_true rfl⟩ ⟨Nat.le_refl _, Nat.le_refl _⟩ ?_
      refine aw_if_ne (tgt := 10) eX11_show_4 (by decide) (by omega) (fun h1 => ?_) (fun h1 => ?_)
      · exfalso; omega
      · refine aw_blk oX11_show_7 (pc' := 9) (ls' := [_, _]) (st' := [_]) (cs := []) rfl trivial ?_
        refine aw_iret eX11_show_9 rfl (Nat.le_refl _) (Nat.le_refl _) ?_
        exact ⟨rfl, rfl, rfl, rfl⟩
    · intro r μ1 ν1 hP
      obtain ⟨rfl, rfl, rfl⟩ := hP
      refine ⟨-2, rfl, by decide, ?_⟩
      refine AMet.of kX12_show.1 (Nat.le_of_ble_eq_true rfl) rfl ?_
      refine aw_blk oX12_show_0 (pc' := 1) (ls' := [_, _]) (st' := [_]) (cs := []) rfl trivial ?_
      refine aw_ciS (rest := []) (hI μ1) kX12_isTold eX12_show_1 lX12_show_1 rfl rfl (Nat.le_of_ble_eq_true rfl) ⟨Nat.le_of_ble_eq_true rfl, Nat.le_of_ble_eq_true rfl⟩ ⟨Nat.le_refl _, Nat.le_refl _⟩ ?_
      refine aw_if_ne (tgt := 10) eX12_show_4 (by decide) (by omega) (fun h1 => ?_) (fun h1 => ?_)
      · exfalso; omega
      · refine aw_blk oX12_show_7 (pc' := 9) (ls' := [_, _]) (st' := [_]) (cs := []) rfl trivial ?_
        refine aw_iret eX12_show_9 rfl (Nat.le_refl _) (Nat.le_refl _) ?_
        exact ⟨rfl, rfl, rfl, SR.rf, fun _ _ => rfl, fun _ _ => rfl, hR⟩

/-! ===== TOWNS ===== -/
def RT (μ : MM) : Prop := PR 34 63 4 0 100 μ ∧ PR 35 64 4 0 100 μ ∧ PR 36 65 6 1 50 μ ∧ PR 37 66 24 0 1000 μ
abbrev csT : List Nat := [34, 35, 36, 37, 63, 64, 65, 66]
def wgt (w : Int → Int) (f : Int) : Int := sm (fun k => bitk f k * w k) 6
def cst (a : Int → Int) (far t f : Int) : Int := sm (fun k => if bitk f k = 0 then a (t * 6 + k) else 0) 6 * far
theorem l_weightOf {κ : KX} {μ : MM} {ν : ML} {f : Int} (hf : R32 f) (n : Nat) : ∀ k : Nat, k + n = 6 → AX κ mX10_weightOf 0 (PE (some (aI (wgt (μ 36) f))) μ ν) 4 [aR 33, aI f, aI (sm (fun k => bitk f k * μ 36 k) k), aI k] [] μ ν := by
  induction n with
  | zero =>
    intro k hk
    refine aw_blk oX10_weightOf_4 (pc' := 7) (ls' := [_, _, _, _]) (st' := [_, _]) (cs := []) rfl trivial ?_
    refine aw_icmp_ge (tgt := 31) eX10_weightOf_7 (by decide) (by omega) (by omega) (fun h1 => ?_) (fun h1 => ?_)
    · first
      | (exfalso; omega; done)
      | (refine aw_blk oX10_weightOf_31 (pc' := 32) (ls' := [_, _, _, _]) (st' := [_]) (cs := []) rfl trivial ?_
         refine aw_iret eX10_weightOf_32 rfl (Nat.le_refl _) (Nat.le_refl _) ?_
         (have e : k = 6 := by omega)
         subst e
         exact pe_i rfl rfl rfl)
    · first
      | (exfalso; omega; done)
      | (refine aw_blk oX10_weightOf_10 (pc' := 4) (ls' := [_, _, _, _]) (st' := []) (cs := [(_, _)]) rfl (⟨⟨by omega, by omega⟩, trivial⟩) ?_
         skip)
  | succ n ih =>
    intro k hk
    refine aw_blk oX10_weightOf_4 (pc' := 7) (ls' := [_, _, _, _]) (st' := [_, _]) (cs := []) rfl trivial ?_
    refine aw_icmp_ge (tgt := 31) eX10_weightOf_7 (by decide) (by omega) (by omega) (fun h2 => ?_) (fun h2 => ?_)
    · first
      | (exfalso; omega; done)
      | (refine aw_blk oX10_weightOf_31 (pc' := 32) (ls' := [_, _, _, _]) (st' := [_]) (cs := []) rfl trivial ?_
         refine aw_iret eX10_weightOf_32 rfl (Nat.le_refl _) (Nat.le_refl _) ?_
         skip)
    · first
      | (exfalso; omega; done)
      | (refine aw_blk oX10_weightOf_10 (pc' := 4) (ls' := [_, _, _, _]) (st' := []) (cs := [(_, _)]) rfl (⟨⟨by omega, by omega⟩, trivial⟩) ?_
         exact ih (k + 1) (by omega))
theorem c_weightOf {κ : KX} {μ : MM} {ν : ML} {f : Int} (hf : R32 f) : AE κ 0 mX10_weightOf [aR 33, aI f] μ ν (some (aI (wgt (μ 36) f))) μ ν := by
  refine AMet.of kX10_weightOf.1 (Nat.le_of_ble_eq_true rfl) rfl ?_
  refine aw_blk oX10_weightOf_0 (pc' := 4) (ls' := [_, _, _, _]) (st' := []) (cs := []) rfl trivial ?_
  exact l_weightOf hf 6 0 rfl
theorem l_costOf {κ : KX} {μ : MM} {ν : ML} {t f : Int} (ht : 0 ≤ t ∧ t < 4) (n : Nat) : ∀ k : Nat, k + n = 6 → AX κ mX10_costOf 0 (PE (some (aI (cst (μ 37) (μ 35 t) t f))) μ ν) 5 [aR 33, aI t, aI f, aI (sm (fun k => if bitk f k = 0 then μ 37 (t * 6 + k) else 0) k), aI k] [] μ ν := by
  induction n with
  | zero =>
    intro k hk
    refine aw_blk oX10_costOf_5 (pc' := 9) (ls' := [_, _, _, _, _]) (st' := [_, _]) (cs := []) rfl trivial ?_
    refine aw_icmp_ge (tgt := 42) eX10_costOf_9 (by decide) (by first | omega | exact bitk_R _ _) (by first | omega | exact bitk_R _ _) (fun h3 => ?_) (fun h3 => ?_)
    · first
      | (exfalso; omega; done)
      | (refine aw_blk oX10_costOf_42 (pc' := 50) (ls' := [_, _, _, _, _]) (st' := [_]) (cs := [(_, _)]) rfl (⟨⟨by first | omega | exact bitk_R _ _, by first | omega | exact bitk_R _ _⟩, trivial⟩) ?_
         refine aw_iret eX10_costOf_50 rfl (Nat.le_refl _) (Nat.le_refl _) ?_
         (have e : k = 6 := by omega)
         subst e
         exact pe_i rfl rfl rfl)
    · first
      | (exfalso; omega; done)
      | (refine aw_blk oX10_costOf_12 (pc' := 18) (ls' := [_, _, _, _, _]) (st' := [_]) (cs := []) rfl trivial ?_
         refine aw_if_ne (tgt := 36) eX10_costOf_18 (by decide) (by first | omega | exact bitk_R _ _) (fun h4 => ?_) (fun h4 => ?_)
         · first
           | (exfalso; omega; done)
           | (refine aw_blk oX10_costOf_36 (pc' := 5) (ls' := [_, _, _, _, _]) (st' := []) (cs := []) rfl trivial ?_
              skip)
         · first
           | (exfalso; omega; done)
           | (refine aw_blk oX10_costOf_21 (pc' := 36) (ls' := [_, _, _, _, _]) (st' := []) (cs := [(_, _)]) rfl (⟨⟨by first | omega | exact bitk_R _ _, by first | omega | exact bitk_R _ _⟩, trivial⟩) ?_
              refine aw_blk oX10_costOf_36 (pc' := 5) (ls' := [_, _, _, _, _]) (st' := []) (cs := []) rfl trivial ?_
              skip))
  | succ n ih =>
    intro k hk
    refine aw_blk oX10_costOf_5 (pc' := 9) (ls' := [_, _, _, _, _]) (st' := [_, _]) (cs := []) rfl trivial ?_
    refine aw_icmp_ge (tgt := 42) eX10_costOf_9 (by decide) (by omega) (by omega) (fun h => ?_) (fun h => ?_)
    · exfalso; omega
    · refine aw_blk oX10_costOf_12 (pc' := 18) (ls' := [_, _, _, _, _]) (st' := [_]) (cs := []) rfl trivial ?_
      refine aw_if_ne (tgt := 36) eX10_costOf_18 (by decide) (by exact bitk_R f k) (fun h2 => ?_) (fun h2 => ?_)
      · refine aw_blk oX10_costOf_36 (pc' := 5) (ls' := [_, _, _, _, _]) (st' := []) (cs := []) rfl trivial ?_
        have := ih (k + 1) (by omega)
        simp only [sm] at this
        rw [if_neg (show ¬ bitk f k = 0 from h2), Int.add_zero] at this
        exact this
      · refine aw_blk oX10_costOf_21 (pc' := 36) (ls' := [_, _, _, _, _]) (st' := []) (cs := [(_, _)]) rfl (⟨⟨by omega, by omega⟩, trivial⟩) ?_
        refine aw_blk oX10_costOf_36 (pc' := 5) (ls' := [_, _, _, _, _]) (st' := []) (cs := []) rfl trivial ?_
        have := ih (k + 1) (by omega)
        simp only [sm] at this
        rw [if_pos (show bitk f k = 0 from h2)] at this
        exact this
theorem c_costOf {κ : KX} {μ : MM} {ν : ML} {t f : Int} (ht : 0 ≤ t ∧ t < 4) : AE κ 0 mX10_costOf [aR 33, aI t, aI f] μ ν (some (aI (cst (μ 37) (μ 35 t) t f))) μ ν := by
  refine AMet.of kX10_costOf.1 (Nat.le_of_ble_eq_true rfl) rfl ?_
  refine aw_blk oX10_costOf_0 (pc' := 5) (ls' := [_, _, _, _, _]) (st' := []) (cs := []) rfl trivial ?_
  exact l_costOf ht 6 0 rfl
theorem c_changeRoom {κ : KX} {μ : MM} {ν : ML} {t v : Int} (ht : 0 ≤ t ∧ t < 4) : AE κ 0 mX10_changeRoom [aR 33, aI t, aI v] μ ν (some (aI (μ 34 t))) (up μ 34 t v) ν := by
  refine AMet.of kX10_changeRoom.1 (Nat.le_of_ble_eq_true rfl) rfl ?_
  refine aw_blk oX10_changeRoom_0 (pc' := 15) (ls' := [_, _, _, _]) (st' := [_]) (cs := [(_, _), (_, _)]) rfl (⟨⟨by omega, by omega⟩, ⟨by omega, by omega⟩, trivial⟩) ?_
  refine aw_iret eX10_changeRoom_15 rfl (Nat.le_refl _) (Nat.le_refl _) ?_
  exact pe_i rfl rfl rfl
theorem c_changeFar {κ : KX} {μ : MM} {ν : ML} {t v : Int} (ht : 0 ≤ t ∧ t < 4) : AE κ 0 mX10_changeFar [aR 33, aI t, aI v] μ ν (some (aI (μ 35 t))) (up μ 35 t v) ν := by
  refine AMet.of kX10_changeFar.1 (Nat.le_of_ble_eq_true rfl) rfl ?_
  refine aw_blk oX10_changeFar_0 (pc' := 15) (ls' := [_, _, _, _]) (st' := [_]) (cs := [(_, _), (_, _)]) rfl (⟨⟨by omega, by omega⟩, ⟨by omega, by omega⟩, trivial⟩) ?_
  refine aw_iret eX10_changeFar_15 rfl (Nat.le_refl _) (Nat.le_refl _) ?_
  exact pe_i rfl rfl rfl
theorem c_changeWeight {κ : KX} {μ : MM} {ν : ML} {t v : Int} (ht : 0 ≤ t ∧ t < 6) : AE κ 0 mX10_changeWeight [aR 33, aI t, aI v] μ ν (some (aI (μ 36 t))) (up μ 36 t v) ν := by
  refine AMet.of kX10_changeWeight.1 (Nat.le_of_ble_eq_true rfl) rfl ?_
  refine aw_blk oX10_changeWeight_0 (pc' := 15) (ls' := [_, _, _, _]) (st' := [_]) (cs := [(_, _), (_, _)]) rfl (⟨⟨by omega, by omega⟩, ⟨by omega, by omega⟩, trivial⟩) ?_
  refine aw_iret eX10_changeWeight_15 rfl (Nat.le_refl _) (Nat.le_refl _) ?_
  exact pe_i rfl rfl rfl
theorem c_changeAsks {κ : KX} {μ : MM} {ν : ML} {t f v : Int} (ht : 0 ≤ t ∧ t < 4) (hf : 0 ≤ f ∧ f < 6) : AE κ 0 mX10_changeAsks [aR 33, aI t, aI f, aI v] μ ν (some (aI (μ 37 (t * 6 + f)))) (up μ 37 (t * 6 + f) v) ν := by
  refine AMet.of kX10_changeAsks.1 (Nat.le_of_ble_eq_true rfl) rfl ?_
  refine aw_blk oX10_changeAsks_0 (pc' := 27) (ls' := [_, _, _, _, _]) (st' := [_]) (cs := [(_, _), (_, _)]) rfl (⟨⟨by omega, by omega⟩, ⟨by omega, by omega⟩, trivial⟩) ?_
  refine aw_iret eX10_changeAsks_27 rfl (Nat.le_refl _) (Nat.le_refl _) ?_
  exact pe_i rfl rfl rfl
theorem law_town {κ : KX} {μ : MM} {ν : ML} {t w v : Int} (h : RT μ) (ht : R32 t) (hw : R32 w) (hv : R32 v) : LawM RT csT κ mX11_town mX12_town [aI t, aI w, aI v] μ ν := by
  obtain ⟨h1, h2, h3, h4⟩ := id h
  by_cases c1 : 0 ≤ t ∧ t ≤ 3
  · by_cases c2 : (0 ≤ w ∧ w ≤ 1) ∧ (0 ≤ v ∧ v ≤ 100)
    · have g1 := h1 t (by omega) (by omega)
      have g2 := h2 t (by omega) (by omega)
      by_cases c3 : w = 0
      · refine ⟨μ 34 t, up μ 34 t v, up (up μ 34 t v) 63 t v, ?_, ?_, by omega, ?_, SR.two.sub (by decide)⟩
        · refine AMet.of kX11_town.1 (Nat.le_of_ble_eq_true rfl) rfl ?_
          refine aw_blk oX11_town_0 (pc' := 3) (ls' := [_, _, _, _]) (st' := [_, _, _]) (cs := []) rfl trivial ?_
          refine aw_ciS (rest := []) (c_X11_between (by omega) (by omega) (by omega)) kX11_between eX11_town_3 lX11_town_3 rfl rfl (Nat.le_of_ble_eq_true rfl) ⟨Nat.le_of_ble_eq_true rfl, Nat.le_of_ble_eq_true rfl⟩ ⟨Nat.le_refl _, Nat.le_refl _⟩ ?_
          refine aw_if_ne (tgt := 11) eX11_town_6 (by decide) bt_r (fun hh => have h5 := bt1 hh; ?_) (fun hh => have h5 := bt0 hh; ?_)
          · first
            | (exfalso; omega; done)
            | (refine aw_blk oX11_town_11 (pc' := 14) (ls' := [_, _, _, _]) (st' := [_, _, _]) (cs := []) rfl trivial ?_
               refine aw_ciS (rest := []) (c_X11_between (by omega) (by omega) (by omega)) kX11_between eX11_town_14 lX11_town_14 rfl rfl (Nat.le_of_ble_eq_true rfl) ⟨Nat.le_of_ble_eq_true rfl, Nat.le_of_ble_eq_true rfl⟩ ⟨Nat.le_refl _, Nat.le_refl _⟩ ?_
               refine aw_if_eq (tgt := 30) eX11_town_17 (by decide) bt_r (fun hh => have h6 := bt0 hh; ?_) (fun hh => have h6 := bt1 hh; ?_)
               · first
                 | (exfalso; omega; done)
                 | (refine aw_blk oX11_town_30 (pc' := 32) (ls' := [_, _, _, _]) (st' := [_]) (cs := []) rfl trivial ?_
                    refine aw_iret eX11_town_32 rfl (Nat.le_refl _) (Nat.le_refl _) ?_
                    exact pe_i rfl rfl rfl)
               · first
                 | (exfalso; omega; done)
                 | (refine aw_blk oX11_town_20 (pc' := 24) (ls' := [_, _, _, _]) (st' := [_, _, _]) (cs := []) rfl trivial ?_
                    refine aw_ciS (rest := []) (c_X11_between (by omega) (by omega) (by omega)) kX11_between eX11_town_24 lX11_town_24 rfl rfl (Nat.le_of_ble_eq_true rfl) ⟨Nat.le_of_ble_eq_true rfl, Nat.le_of_ble_eq_true rfl⟩ ⟨Nat.le_refl _, Nat.le_refl _⟩ ?_
                    refine aw_if_ne (tgt := 33) eX11_town_27 (by decide) bt_r (fun hh => have h7 := bt1 hh; ?_) (fun hh => have h7 := bt0 hh; ?_)
                    · first
                      | (exfalso; omega; done)
                      | (refine aw_blk oX11_town_33 (pc' := 34) (ls' := [_, _, _, _]) (st' := [_]) (cs := []) rfl trivial ?_
                         refine aw_if_ne (tgt := 49) eX11_town_34 (by decide) (by omega) (fun h8 => ?_) (fun h8 => ?_)
                         · first
                           | (exfalso; omega; done)
                           | (refine aw_blk oX11_town_49 (pc' := 55) (ls' := [_, _, _, _]) (st' := [_, _, _]) (cs := []) rfl trivial ?_
                              refine aw_ciV (rest := []) (c_changeFar (by omega)) kX10_changeFar eX11_town_55 lX11_town_55 rfl rfl rfl rfl (Nat.le_of_ble_eq_true rfl) ⟨Nat.le_of_ble_eq_true rfl, Nat.le_of_ble_eq_true rfl⟩ ⟨Nat.le_refl _, Nat.le_refl _⟩ ?_
                              refine aw_iret eX11_town_58 rfl (Nat.le_refl _) (Nat.le_refl _) ?_
                              exact pe_i rfl rfl rfl)
                         · first
                           | (exfalso; omega; done)
                           | (refine aw_blk oX11_town_37 (pc' := 43) (ls' := [_, _, _, _]) (st' := [_, _, _]) (cs := []) rfl trivial ?_
                              refine aw_ciV (rest := []) (c_changeRoom (by omega)) kX10_changeRoom eX11_town_43 lX11_town_43 rfl rfl rfl rfl (Nat.le_of_ble_eq_true rfl) ⟨Nat.le_of_ble_eq_true rfl, Nat.le_of_ble_eq_true rfl⟩ ⟨Nat.le_refl _, Nat.le_refl _⟩ ?_
                              refine aw_blk oX11_town_46 (pc' := 58) (ls' := [_, _, _, _]) (st' := [_]) (cs := []) rfl trivial ?_
                              refine aw_iret eX11_town_58 rfl (Nat.le_refl _) (Nat.le_refl _) ?_
                              exact pe_i rfl rfl rfl))
                    · first
                      | (exfalso; omega; done)
                      | (refine aw_blk oX11_town_30 (pc' := 32) (ls' := [_, _, _, _]) (st' := [_]) (cs := []) rfl trivial ?_
                         refine aw_iret eX11_town_32 rfl (Nat.le_refl _) (Nat.le_refl _) ?_
                         exact pe_i rfl rfl rfl)))
          · first
            | (exfalso; omega; done)
            | (refine aw_blk oX11_town_9 (pc' := 10) (ls' := [_, _, _, _]) (st' := [_]) (cs := []) rfl trivial ?_
               refine aw_iret eX11_town_10 rfl (Nat.le_refl _) (Nat.le_refl _) ?_
               exact pe_i rfl rfl rfl)
        · refine AMet.of kX12_town.1 (Nat.le_of_ble_eq_true rfl) rfl ?_
          refine aw_blk oX12_town_0 (pc' := 1) (ls' := [_, _, _, _, _]) (st' := [_]) (cs := []) rfl trivial ?_
          refine aw_ciS (rest := []) (c_X12_isTown (by omega)) kX12_isTown eX12_town_1 lX12_town_1 rfl rfl (Nat.le_of_ble_eq_true rfl) ⟨Nat.le_of_ble_eq_true rfl, Nat.le_of_ble_eq_true rfl⟩ ⟨Nat.le_refl _, Nat.le_refl _⟩ ?_
          refine aw_if_ne (tgt := 9) eX12_town_4 (by decide) bt_r (fun hh => have h9 := bt1 hh; ?_) (fun hh => have h9 := bt0 hh; ?_)
          · first
            | (exfalso; omega; done)
            | (refine aw_blk oX12_town_9 (pc' := 12) (ls' := [_, _, _, _, _]) (st' := [_, _, _]) (cs := []) rfl trivial ?_
               refine aw_ciS (rest := []) (c_X12_in (by omega) (by omega) (by omega)) kX12_in eX12_town_12 lX12_town_12 rfl rfl (Nat.le_of_ble_eq_true rfl) ⟨Nat.le_of_ble_eq_true rfl, Nat.le_of_ble_eq_true rfl⟩ ⟨Nat.le_refl _, Nat.le_refl _⟩ ?_
               refine aw_if_eq (tgt := 28) eX12_town_15 (by decide) bt_r (fun hh => have h10 := bt0 hh; ?_) (fun hh => have h10 := bt1 hh; ?_)
               · first
                 | (exfalso; omega; done)
                 | (refine aw_blk oX12_town_28 (pc' := 30) (ls' := [_, _, _, _, _]) (st' := [_]) (cs := []) rfl trivial ?_
                    refine aw_iret eX12_town_30 rfl (Nat.le_refl _) (Nat.le_refl _) ?_
                    exact pe_i (by rw [up_c (by decide)]; exact g1.1) rfl rfl)
               · first
                 | (exfalso; omega; done)
                 | (refine aw_blk oX12_town_18 (pc' := 22) (ls' := [_, _, _, _, _]) (st' := [_, _, _]) (cs := []) rfl trivial ?_
                    refine aw_ciS (rest := []) (c_X12_in (by omega) (by omega) (by omega)) kX12_in eX12_town_22 lX12_town_22 rfl rfl (Nat.le_of_ble_eq_true rfl) ⟨Nat.le_of_ble_eq_true rfl, Nat.le_of_ble_eq_true rfl⟩ ⟨Nat.le_refl _, Nat.le_refl _⟩ ?_
                    refine aw_if_ne (tgt := 31) eX12_town_25 (by decide) bt_r (fun hh => have h11 := bt1 hh; ?_) (fun hh => have h11 := bt0 hh; ?_)
                    · first
                      | (exfalso; omega; done)
                      | (refine aw_blk oX12_town_31 (pc' := 32) (ls' := [_, _, _, _, _]) (st' := [_]) (cs := []) rfl trivial ?_
                         refine aw_if_ne (tgt := 44) eX12_town_32 (by decide) (by omega) (fun h12 => ?_) (fun h12 => ?_)
                         · first
                           | (exfalso; omega; done)
                           | (refine aw_blk oX12_town_44 (pc' := 50) (ls' := [_, _, _, _, _]) (st' := [_]) (cs := [(_, _)]) rfl (⟨⟨by omega, by omega⟩, trivial⟩) ?_
                              refine aw_blk oX12_town_50 (pc' := 53) (ls' := [_, _, _, _, _]) (st' := [_]) (cs := []) rfl trivial ?_
                              refine aw_if_ne (tgt := 66) eX12_town_53 (by decide) (by omega) (fun h13 => ?_) (fun h13 => ?_)
                              · first
                                | (exfalso; omega; done)
                                | (refine aw_blk oX12_town_66 (pc' := 73) (ls' := [_, _, _, _, _]) (st' := []) (cs := [(_, _)]) rfl (⟨⟨by omega, by omega⟩, trivial⟩) ?_
                                   refine aw_blk oX12_town_73 (pc' := 75) (ls' := [_, _, _, _, _]) (st' := [_]) (cs := []) rfl trivial ?_
                                   refine aw_iret eX12_town_75 rfl (Nat.le_refl _) (Nat.le_refl _) ?_
                                   exact pe_i (by rw [up_c (by decide)]; exact g1.1) rfl rfl)
                              · first
                                | (exfalso; omega; done)
                                | (refine aw_blk oX12_town_56 (pc' := 73) (ls' := [_, _, _, _, _]) (st' := []) (cs := [(_, _)]) rfl (⟨⟨by omega, by omega⟩, trivial⟩) ?_
                                   refine aw_blk oX12_town_73 (pc' := 75) (ls' := [_, _, _, _, _]) (st' := [_]) (cs := []) rfl trivial ?_
                                   refine aw_iret eX12_town_75 rfl (Nat.le_refl _) (Nat.le_refl _) ?_
                                   exact pe_i (by rw [up_c (by decide)]; exact g1.1) rfl rfl))
                         · first
                           | (exfalso; omega; done)
                           | (refine aw_blk oX12_town_35 (pc' := 50) (ls' := [_, _, _, _, _]) (st' := [_]) (cs := [(_, _)]) rfl (⟨⟨by omega, by omega⟩, trivial⟩) ?_
                              refine aw_blk oX12_town_50 (pc' := 53) (ls' := [_, _, _, _, _]) (st' := [_]) (cs := []) rfl trivial ?_
                              refine aw_if_ne (tgt := 66) eX12_town_53 (by decide) (by omega) (fun h14 => ?_) (fun h14 => ?_)
                              · first
                                | (exfalso; omega; done)
                                | (refine aw_blk oX12_town_66 (pc' := 73) (ls' := [_, _, _, _, _]) (st' := []) (cs := [(_, _)]) rfl (⟨⟨by omega, by omega⟩, trivial⟩) ?_
                                   refine aw_blk oX12_town_73 (pc' := 75) (ls' := [_, _, _, _, _]) (st' := [_]) (cs := []) rfl trivial ?_
                                   refine aw_iret eX12_town_75 rfl (Nat.le_refl _) (Nat.le_refl _) ?_
                                   exact pe_i (by rw [up_c (by decide)]; exact g1.1) rfl rfl)
                              · first
                                | (exfalso; omega; done)
                                | (refine aw_blk oX12_town_56 (pc' := 73) (ls' := [_, _, _, _, _]) (st' := []) (cs := [(_, _)]) rfl (⟨⟨by omega, by omega⟩, trivial⟩) ?_
                                   refine aw_blk oX12_town_73 (pc' := 75) (ls' := [_, _, _, _, _]) (st' := [_]) (cs := []) rfl trivial ?_
                                   refine aw_iret eX12_town_75 rfl (Nat.le_refl _) (Nat.le_refl _) ?_
                                   exact pe_i (by rw [up_c (by decide)]; exact g1.1) rfl rfl)))
                    · first
                      | (exfalso; omega; done)
                      | (refine aw_blk oX12_town_28 (pc' := 30) (ls' := [_, _, _, _, _]) (st' := [_]) (cs := []) rfl trivial ?_
                         refine aw_iret eX12_town_30 rfl (Nat.le_refl _) (Nat.le_refl _) ?_
                         exact pe_i (by rw [up_c (by decide)]; exact g1.1) rfl rfl)))
          · first
            | (exfalso; omega; done)
            | (refine aw_blk oX12_town_7 (pc' := 8) (ls' := [_, _, _, _, _]) (st' := [_]) (cs := []) rfl trivial ?_
               refine aw_iret eX12_town_8 rfl (Nat.le_refl _) (Nat.le_refl _) ?_
               exact pe_i (by rw [up_c (by decide)]; exact g1.1) rfl rfl)
        exact ⟨h1.up2 (by decide) c2.2.1 c2.2.2, h2.fr SR.two (by decide) (by decide), h3.fr SR.two (by decide) (by decide), h4.fr SR.two (by decide) (by decide)⟩
      · refine ⟨μ 35 t, up μ 35 t v, up (up μ 35 t v) 64 t v, ?_, ?_, by omega, ?_, SR.two.sub (by decide)⟩
        · refine AMet.of kX11_town.1 (Nat.le_of_ble_eq_true rfl) rfl ?_
          refine aw_blk oX11_town_0 (pc' := 3) (ls' := [_, _, _, _]) (st' := [_, _, _]) (cs := []) rfl trivial ?_
          refine aw_ciS (rest := []) (c_X11_between (by omega) (by omega) (by omega)) kX11_between eX11_town_3 lX11_town_3 rfl rfl (Nat.le_of_ble_eq_true rfl) ⟨Nat.le_of_ble_eq_true rfl, Nat.le_of_ble_eq_true rfl⟩ ⟨Nat.le_refl _, Nat.le_refl _⟩ ?_
          refine aw_if_ne (tgt := 11) eX11_town_6 (by decide) bt_r (fun hh => have h15 := bt1 hh; ?_) (fun hh => have h15 := bt0 hh; ?_)
          · first
            | (exfalso; omega; done)
            | (refine aw_blk oX11_town_11 (pc' := 14) (ls' := [_, _, _, _]) (st' := [_, _, _]) (cs := []) rfl trivial ?_
               refine aw_ciS (rest := []) (c_X11_between (by omega) (by omega) (by omega)) kX11_between eX11_town_14 lX11_town_14 rfl rfl (Nat.le_of_ble_eq_true rfl) ⟨Nat.le_of_ble_eq_true rfl, Nat.le_of_ble_eq_true rfl⟩ ⟨Nat.le_refl _, Nat.le_refl _⟩ ?_
               refine aw_if_eq (tgt := 30) eX11_town_17 (by decide) bt_r (fun hh => have h16 := bt0 hh; ?_) (fun hh => have h16 := bt1 hh; ?_)
               · first
                 | (exfalso; omega; done)
                 | (refine aw_blk oX11_town_30 (pc' := 32) (ls' := [_, _, _, _]) (st' := [_]) (cs := []) rfl trivial ?_
                    refine aw_iret eX11_town_32 rfl (Nat.le_refl _) (Nat.le_refl _) ?_
                    exact pe_i rfl rfl rfl)
               · first
                 | (exfalso; omega; done)
                 | (refine aw_blk oX11_town_20 (pc' := 24) (ls' := [_, _, _, _]) (st' := [_, _, _]) (cs := []) rfl trivial ?_
                    refine aw_ciS (rest := []) (c_X11_between (by omega) (by omega) (by omega)) kX11_between eX11_town_24 lX11_town_24 rfl rfl (Nat.le_of_ble_eq_true rfl) ⟨Nat.le_of_ble_eq_true rfl, Nat.le_of_ble_eq_true rfl⟩ ⟨Nat.le_refl _, Nat.le_refl _⟩ ?_
                    refine aw_if_ne (tgt := 33) eX11_town_27 (by decide) bt_r (fun hh => have h17 := bt1 hh; ?_) (fun hh => have h17 := bt0 hh; ?_)
                    · first
                      | (exfalso; omega; done)
                      | (refine aw_blk oX11_town_33 (pc' := 34) (ls' := [_, _, _, _]) (st' := [_]) (cs := []) rfl trivial ?_
                         refine aw_if_ne (tgt := 49) eX11_town_34 (by decide) (by omega) (fun h18 => ?_) (fun h18 => ?_)
                         · first
                           | (exfalso; omega; done)
                           | (refine aw_blk oX11_town_49 (pc' := 55) (ls' := [_, _, _, _]) (st' := [_, _, _]) (cs := []) rfl trivial ?_
                              refine aw_ciV (rest := []) (c_changeFar (by omega)) kX10_changeFar eX11_town_55 lX11_town_55 rfl rfl rfl rfl (Nat.le_of_ble_eq_true rfl) ⟨Nat.le_of_ble_eq_true rfl, Nat.le_of_ble_eq_true rfl⟩ ⟨Nat.le_refl _, Nat.le_refl _⟩ ?_
                              refine aw_iret eX11_town_58 rfl (Nat.le_refl _) (Nat.le_refl _) ?_
                              exact pe_i rfl rfl rfl)
                         · first
                           | (exfalso; omega; done)
                           | (refine aw_blk oX11_town_37 (pc' := 43) (ls' := [_, _, _, _]) (st' := [_, _, _]) (cs := []) rfl trivial ?_
                              refine aw_ciV (rest := []) (c_changeRoom (by omega)) kX10_changeRoom eX11_town_43 lX11_town_43 rfl rfl rfl rfl (Nat.le_of_ble_eq_true rfl) ⟨Nat.le_of_ble_eq_true rfl, Nat.le_of_ble_eq_true rfl⟩ ⟨Nat.le_refl _, Nat.le_refl _⟩ ?_
                              refine aw_blk oX11_town_46 (pc' := 58) (ls' := [_, _, _, _]) (st' := [_]) (cs := []) rfl trivial ?_
                              refine aw_iret eX11_town_58 rfl (Nat.le_refl _) (Nat.le_refl _) ?_
                              exact pe_i rfl rfl rfl))
                    · first
                      | (exfalso; omega; done)
                      | (refine aw_blk oX11_town_30 (pc' := 32) (ls' := [_, _, _, _]) (st' := [_]) (cs := []) rfl trivial ?_
                         refine aw_iret eX11_town_32 rfl (Nat.le_refl _) (Nat.le_refl _) ?_
                         exact pe_i rfl rfl rfl)))
          · first
            | (exfalso; omega; done)
            | (refine aw_blk oX11_town_9 (pc' := 10) (ls' := [_, _, _, _]) (st' := [_]) (cs := []) rfl trivial ?_
               refine aw_iret eX11_town_10 rfl (Nat.le_refl _) (Nat.le_refl _) ?_
               exact pe_i rfl rfl rfl)
        · refine AMet.of kX12_town.1 (Nat.le_of_ble_eq_true rfl) rfl ?_
          refine aw_blk oX12_town_0 (pc' := 1) (ls' := [_, _, _, _, _]) (st' := [_]) (cs := []) rfl trivial ?_
          refine aw_ciS (rest := []) (c_X12_isTown (by omega)) kX12_isTown eX12_town_1 lX12_town_1 rfl rfl (Nat.le_of_ble_eq_true rfl) ⟨Nat.le_of_ble_eq_true rfl, Nat.le_of_ble_eq_true rfl⟩ ⟨Nat.le_refl _, Nat.le_refl _⟩ ?_
          refine aw_if_ne (tgt := 9) eX12_town_4 (by decide) bt_r (fun hh => have h19 := bt1 hh; ?_) (fun hh => have h19 := bt0 hh; ?_)
          · first
            | (exfalso; omega; done)
            | (refine aw_blk oX12_town_9 (pc' := 12) (ls' := [_, _, _, _, _]) (st' := [_, _, _]) (cs := []) rfl trivial ?_
               refine aw_ciS (rest := []) (c_X12_in (by omega) (by omega) (by omega)) kX12_in eX12_town_12 lX12_town_12 rfl rfl (Nat.le_of_ble_eq_true rfl) ⟨Nat.le_of_ble_eq_true rfl, Nat.le_of_ble_eq_true rfl⟩ ⟨Nat.le_refl _, Nat.le_refl _⟩ ?_
               refine aw_if_eq (tgt := 28) eX12_town_15 (by decide) bt_r (fun hh => have h20 := bt0 hh; ?_) (fun hh => have h20 := bt1 hh; ?_)
               · first
                 | (exfalso; omega; done)
                 | (refine aw_blk oX12_town_28 (pc' := 30) (ls' := [_, _, _, _, _]) (st' := [_]) (cs := []) rfl trivial ?_
                    refine aw_iret eX12_town_30 rfl (Nat.le_refl _) (Nat.le_refl _) ?_
                    exact pe_i (by rw [up_c (by decide)]; exact g2.1) rfl rfl)
               · first
                 | (exfalso; omega; done)
                 | (refine aw_blk oX12_town_18 (pc' := 22) (ls' := [_, _, _, _, _]) (st' := [_, _, _]) (cs := []) rfl trivial ?_
                    refine aw_ciS (rest := []) (c_X12_in (by omega) (by omega) (by omega)) kX12_in eX12_town_22 lX12_town_22 rfl rfl (Nat.le_of_ble_eq_true rfl) ⟨Nat.le_of_ble_eq_true rfl, Nat.le_of_ble_eq_true rfl⟩ ⟨Nat.le_refl _, Nat.le_refl _⟩ ?_
                    refine aw_if_ne (tgt := 31) eX12_town_25 (by decide) bt_r (fun hh => have h21 := bt1 hh; ?_) (fun hh => have h21 := bt0 hh; ?_)
                    · first
                      | (exfalso; omega; done)
                      | (refine aw_blk oX12_town_31 (pc' := 32) (ls' := [_, _, _, _, _]) (st' := [_]) (cs := []) rfl trivial ?_
                         refine aw_if_ne (tgt := 44) eX12_town_32 (by decide) (by omega) (fun h22 => ?_) (fun h22 => ?_)
                         · first
                           | (exfalso; omega; done)
                           | (refine aw_blk oX12_town_44 (pc' := 50) (ls' := [_, _, _, _, _]) (st' := [_]) (cs := [(_, _)]) rfl (⟨⟨by omega, by omega⟩, trivial⟩) ?_
                              refine aw_blk oX12_town_50 (pc' := 53) (ls' := [_, _, _, _, _]) (st' := [_]) (cs := []) rfl trivial ?_
                              refine aw_if_ne (tgt := 66) eX12_town_53 (by decide) (by omega) (fun h23 => ?_) (fun h23 => ?_)
                              · first
                                | (exfalso; omega; done)
                                | (refine aw_blk oX12_town_66 (pc' := 73) (ls' := [_, _, _, _, _]) (st' := []) (cs := [(_, _)]) rfl (⟨⟨by omega, by omega⟩, trivial⟩) ?_
                                   refine aw_blk oX12_town_73 (pc' := 75) (ls' := [_, _, _, _, _]) (st' := [_]) (cs := []) rfl trivial ?_
                                   refine aw_iret eX12_town_75 rfl (Nat.le_refl _) (Nat.le_refl _) ?_
                                   exact pe_i (by rw [up_c (by decide)]; exact g2.1) rfl rfl)
                              · first
                                | (exfalso; omega; done)
                                | (refine aw_blk oX12_town_56 (pc' := 73) (ls' := [_, _, _, _, _]) (st' := []) (cs := [(_, _)]) rfl (⟨⟨by omega, by omega⟩, trivial⟩) ?_
                                   refine aw_blk oX12_town_73 (pc' := 75) (ls' := [_, _, _, _, _]) (st' := [_]) (cs := []) rfl trivial ?_
                                   refine aw_iret eX12_town_75 rfl (Nat.le_refl _) (Nat.le_refl _) ?_
                                   exact pe_i (by rw [up_c (by decide)]; exact g2.1) rfl rfl))
                         · first
                           | (exfalso; omega; done)
                           | (refine aw_blk oX12_town_35 (pc' := 50) (ls' := [_, _, _, _, _]) (st' := [_]) (cs := [(_, _)]) rfl (⟨⟨by omega, by omega⟩, trivial⟩) ?_
                              refine aw_blk oX12_town_50 (pc' := 53) (ls' := [_, _, _, _, _]) (st' := [_]) (cs := []) rfl trivial ?_
                              refine aw_if_ne (tgt := 66) eX12_town_53 (by decide) (by omega) (fun h24 => ?_) (fun h24 => ?_)
                              · first
                                | (exfalso; omega; done)
                                | (refine aw_blk oX12_town_66 (pc' := 73) (ls' := [_, _, _, _, _]) (st' := []) (cs := [(_, _)]) rfl (⟨⟨by omega, by omega⟩, trivial⟩) ?_
                                   refine aw_blk oX12_town_73 (pc' := 75) (ls' := [_, _, _, _, _]) (st' := [_]) (cs := []) rfl trivial ?_
                                   refine aw_iret eX12_town_75 rfl (Nat.le_refl _) (Nat.le_refl _) ?_
                                   exact pe_i (by rw [up_c (by decide)]; exact g2.1) rfl rfl)
                              · first
                                | (exfalso; omega; done)
                                | (refine aw_blk oX12_town_56 (pc' := 73) (ls' := [_, _, _, _, _]) (st' := []) (cs := [(_, _)]) rfl (⟨⟨by omega, by omega⟩, trivial⟩) ?_
                                   refine aw_blk oX12_town_73 (pc' := 75) (ls' := [_, _, _, _, _]) (st' := [_]) (cs := []) rfl trivial ?_
                                   refine aw_iret eX12_town_75 rfl (Nat.le_refl _) (Nat.le_refl _) ?_
                                   exact pe_i (by rw [up_c (by decide)]; exact g2.1) rfl rfl)))
                    · first
                      | (exfalso; omega; done)
                      | (refine aw_blk oX12_town_28 (pc' := 30) (ls' := [_, _, _, _, _]) (st' := [_]) (cs := []) rfl trivial ?_
                         refine aw_iret eX12_town_30 rfl (Nat.le_refl _) (Nat.le_refl _) ?_
                         exact pe_i (by rw [up_c (by decide)]; exact g2.1) rfl rfl)))
          · first
            | (exfalso; omega; done)
            | (refine aw_blk oX12_town_7 (pc' := 8) (ls' := [_, _, _, _, _]) (st' := [_]) (cs := []) rfl trivial ?_
               refine aw_iret eX12_town_8 rfl (Nat.le_refl _) (Nat.le_refl _) ?_
               exact pe_i (by rw [up_c (by decide)]; exact g2.1) rfl rfl)
        exact ⟨h1.fr SR.two (by decide) (by decide), h2.up2 (by decide) c2.2.1 c2.2.2, h3.fr SR.two (by decide) (by decide), h4.fr SR.two (by decide) (by decide)⟩
    · refine ⟨-2, μ, μ, ?_, ?_, by decide, h, SR.rf⟩
      · refine AMet.of kX11_town.1 (Nat.le_of_ble_eq_true rfl) rfl ?_
        refine aw_blk oX11_town_0 (pc' := 3) (ls' := [_, _, _, _]) (st' := [_, _, _]) (cs := []) rfl trivial ?_
        refine aw_ciS (rest := []) (c_X11_between (by omega) (by omega) (by omega)) kX11_between eX11_town_3 lX11_town_3 rfl rfl (Nat.le_of_ble_eq_true rfl) ⟨Nat.le_of_ble_eq_true rfl, Nat.le_of_ble_eq_true rfl⟩ ⟨Nat.le_refl _, Nat.le_refl _⟩ ?_
        refine aw_if_ne (tgt := 11) eX11_town_6 (by decide) bt_r (fun hh => have h25 := bt1 hh; ?_) (fun hh => have h25 := bt0 hh; ?_)
        · first
          | (exfalso; omega; done)
          | (refine aw_blk oX11_town_11 (pc' := 14) (ls' := [_, _, _, _]) (st' := [_, _, _]) (cs := []) rfl trivial ?_
             refine aw_ciS (rest := []) (c_X11_between (by omega) (by omega) (by omega)) kX11_between eX11_town_14 lX11_town_14 rfl rfl (Nat.le_of_ble_eq_true rfl) ⟨Nat.le_of_ble_eq_true rfl, Nat.le_of_ble_eq_true rfl⟩ ⟨Nat.le_refl _, Nat.le_refl _⟩ ?_
             refine aw_if_eq (tgt := 30) eX11_town_17 (by decide) bt_r (fun hh => have h26 := bt0 hh; ?_) (fun hh => have h26 := bt1 hh; ?_)
             · first
               | (exfalso; omega; done)
               | (refine aw_blk oX11_town_30 (pc' := 32) (ls' := [_, _, _, _]) (st' := [_]) (cs := []) rfl trivial ?_
                  refine aw_iret eX11_town_32 rfl (Nat.le_refl _) (Nat.le_refl _) ?_
                  exact pe_i rfl rfl rfl)
             · first
               | (exfalso; omega; done)
               | (refine aw_blk oX11_town_20 (pc' := 24) (ls' := [_, _, _, _]) (st' := [_, _, _]) (cs := []) rfl trivial ?_
                  refine aw_ciS (rest := []) (c_X11_between (by omega) (by omega) (by omega)) kX11_between eX11_town_24 lX11_town_24 rfl rfl (Nat.le_of_ble_eq_true rfl) ⟨Nat.le_of_ble_eq_true rfl, Nat.le_of_ble_eq_true rfl⟩ ⟨Nat.le_refl _, Nat.le_refl _⟩ ?_
                  refine aw_if_ne (tgt := 33) eX11_town_27 (by decide) bt_r (fun hh => have h27 := bt1 hh; ?_) (fun hh => have h27 := bt0 hh; ?_)
                  · first
                    | (exfalso; omega; done)
                    | (refine aw_blk oX11_town_33 (pc' := 34) (ls' := [_, _, _, _]) (st' := [_]) (cs := []) rfl trivial ?_
                       refine aw_if_ne (tgt := 49) eX11_town_34 (by decide) (by omega) (fun h28 => ?_) (fun h28 => ?_)
                       · first
                         | (exfalso; omega; done)
                         | (refine aw_blk oX11_town_49 (pc' := 55) (ls' := [_, _, _, _]) (st' := [_, _, _]) (cs := []) rfl trivial ?_
                            refine aw_ciV (rest := []) (c_changeFar (by omega)) kX10_changeFar eX11_town_55 lX11_town_55 rfl rfl rfl rfl (Nat.le_of_ble_eq_true rfl) ⟨Nat.le_of_ble_eq_true rfl, Nat.le_of_ble_eq_true rfl⟩ ⟨Nat.le_refl _, Nat.le_refl _⟩ ?_
                            refine aw_iret eX11_town_58 rfl (Nat.le_refl _) (Nat.le_refl _) ?_
                            exact pe_i rfl rfl rfl)
                       · first
                         | (exfalso; omega; done)
                         | (refine aw_blk oX11_town_37 (pc' := 43) (ls' := [_, _, _, _]) (st' := [_, _, _]) (cs := []) rfl trivial ?_
                            refine aw_ciV (rest := []) (c_changeRoom (by omega)) kX10_changeRoom eX11_town_43 lX11_town_43 rfl rfl rfl rfl (Nat.le_of_ble_eq_true rfl) ⟨Nat.le_of_ble_eq_true rfl, Nat.le_of_ble_eq_true rfl⟩ ⟨Nat.le_refl _, Nat.le_refl _⟩ ?_
                            refine aw_blk oX11_town_46 (pc' := 58) (ls' := [_, _, _, _]) (st' := [_]) (cs := []) rfl trivial ?_
                            refine aw_iret eX11_town_58 rfl (Nat.le_refl _) (Nat.le_refl _) ?_
                            exact pe_i rfl rfl rfl))
                  · first
                    | (exfalso; omega; done)
                    | (refine aw_blk oX11_town_30 (pc' := 32) (ls' := [_, _, _, _]) (st' := [_]) (cs := []) rfl trivial ?_
                       refine aw_iret eX11_town_32 rfl (Nat.le_refl _) (Nat.le_refl _) ?_
                       exact pe_i rfl rfl rfl)))
        · first
          | (exfalso; omega; done)
          | (refine aw_blk oX11_town_9 (pc' := 10) (ls' := [_, _, _, _]) (st' := [_]) (cs := []) rfl trivial ?_
             refine aw_iret eX11_town_10 rfl (Nat.le_refl _) (Nat.le_refl _) ?_
             exact pe_i rfl rfl rfl)
      · refine AMet.of kX12_town.1 (Nat.le_of_ble_eq_true rfl) rfl ?_
        refine aw_blk oX12_town_0 (pc' := 1) (ls' := [_, _, _, _, _]) (st' := [_]) (cs := []) rfl trivial ?_
        refine aw_ciS (rest := []) (c_X12_isTown (by omega)) kX12_isTown eX12_town_1 lX12_town_1 rfl rfl (Nat.le_of_ble_eq_true rfl) ⟨Nat.le_of_ble_eq_true rfl, Nat.le_of_ble_eq_true rfl⟩ ⟨Nat.le_refl _, Nat.le_refl _⟩ ?_
        refine aw_if_ne (tgt := 9) eX12_town_4 (by decide) bt_r (fun hh => have h29 := bt1 hh; ?_) (fun hh => have h29 := bt0 hh; ?_)
        · first
          | (exfalso; omega; done)
          | (refine aw_blk oX12_town_9 (pc' := 12) (ls' := [_, _, _, _, _]) (st' := [_, _, _]) (cs := []) rfl trivial ?_
             refine aw_ciS (rest := []) (c_X12_in (by omega) (by omega) (by omega)) kX12_in eX12_town_12 lX12_town_12 rfl rfl (Nat.le_of_ble_eq_true rfl) ⟨Nat.le_of_ble_eq_true rfl, Nat.le_of_ble_eq_true rfl⟩ ⟨Nat.le_refl _, Nat.le_refl _⟩ ?_
             refine aw_if_eq (tgt := 28) eX12_town_15 (by decide) bt_r (fun hh => have h30 := bt0 hh; ?_) (fun hh => have h30 := bt1 hh; ?_)
             · first
               | (exfalso; omega; done)
               | (refine aw_blk oX12_town_28 (pc' := 30) (ls' := [_, _, _, _, _]) (st' := [_]) (cs := []) rfl trivial ?_
                  refine aw_iret eX12_town_30 rfl (Nat.le_refl _) (Nat.le_refl _) ?_
                  exact pe_i rfl rfl rfl)
             · first
               | (exfalso; omega; done)
               | (refine aw_blk oX12_town_18 (pc' := 22) (ls' := [_, _, _, _, _]) (st' := [_, _, _]) (cs := []) rfl trivial ?_
                  refine aw_ciS (rest := []) (c_X12_in (by omega) (by omega) (by omega)) kX12_in eX12_town_22 lX12_town_22 rfl rfl (Nat.le_of_ble_eq_true rfl) ⟨Nat.le_of_ble_eq_true rfl, Nat.le_of_ble_eq_true rfl⟩ ⟨Nat.le_refl _, Nat.le_refl _⟩ ?_
                  refine aw_if_ne (tgt := 31) eX12_town_25 (by decide) bt_r (fun hh => have h31 := bt1 hh; ?_) (fun hh => have h31 := bt0 hh; ?_)
                  · first
                    | (exfalso; omega; done)
                    | (refine aw_blk oX12_town_31 (pc' := 32) (ls' := [_, _, _, _, _]) (st' := [_]) (cs := []) rfl trivial ?_
                       refine aw_if_ne (tgt := 44) eX12_town_32 (by decide) (by omega) (fun h32 => ?_) (fun h32 => ?_)
                       · first
                         | (exfalso; omega; done)
                         | (refine aw_blk oX12_town_44 (pc' := 50) (ls' := [_, _, _, _, _]) (st' := [_]) (cs := [(_, _)]) rfl (⟨⟨by omega, by omega⟩, trivial⟩) ?_
                            refine aw_blk oX12_town_50 (pc' := 53) (ls' := [_, _, _, _, _]) (st' := [_]) (cs := []) rfl trivial ?_
                            refine aw_if_ne (tgt := 66) eX12_town_53 (by decide) (by omega) (fun h33 => ?_) (fun h33 => ?_)
                            · first
                              | (exfalso; omega; done)
                              | (refine aw_blk oX12_town_66 (pc' := 73) (ls' := [_, _, _, _, _]) (st' := []) (cs := [(_, _)]) rfl (⟨⟨by omega, by omega⟩, trivial⟩) ?_
                                 refine aw_blk oX12_town_73 (pc' := 75) (ls' := [_, _, _, _, _]) (st' := [_]) (cs := []) rfl trivial ?_
                                 refine aw_iret eX12_town_75 rfl (Nat.le_refl _) (Nat.le_refl _) ?_
                                 exact pe_i rfl rfl rfl)
                            · first
                              | (exfalso; omega; done)
                              | (refine aw_blk oX12_town_56 (pc' := 73) (ls' := [_, _, _, _, _]) (st' := []) (cs := [(_, _)]) rfl (⟨⟨by omega, by omega⟩, trivial⟩) ?_
                                 refine aw_blk oX12_town_73 (pc' := 75) (ls' := [_, _, _, _, _]) (st' := [_]) (cs := []) rfl trivial ?_
                                 refine aw_iret eX12_town_75 rfl (Nat.le_refl _) (Nat.le_refl _) ?_
                                 exact pe_i rfl rfl rfl))
                       · first
                         | (exfalso; omega; done)
                         | (refine aw_blk oX12_town_35 (pc' := 50) (ls' := [_, _, _, _, _]) (st' := [_]) (cs := [(_, _)]) rfl (⟨⟨by omega, by omega⟩, trivial⟩) ?_
                            refine aw_blk oX12_town_50 (pc' := 53) (ls' := [_, _, _, _, _]) (st' := [_]) (cs := []) rfl trivial ?_
                            refine aw_if_ne (tgt := 66) eX12_town_53 (by decide) (by omega) (fun h34 => ?_) (fun h34 => ?_)
                            · first
                              | (exfalso; omega; done)
                              | (refine aw_blk oX12_town_66 (pc' := 73) (ls' := [_, _, _, _, _]) (st' := []) (cs := [(_, _)]) rfl (⟨⟨by omega, by omega⟩, trivial⟩) ?_
                                 refine aw_blk oX12_town_73 (pc' := 75) (ls' := [_, _, _, _, _]) (st' := [_]) (cs := []) rfl trivial ?_
                                 refine aw_iret eX12_town_75 rfl (Nat.le_refl _) (Nat.le_refl _) ?_
                                 exact pe_i rfl rfl rfl)
                            · first
                              | (exfalso; omega; done)
                              | (refine aw_blk oX12_town_56 (pc' := 73) (ls' := [_, _, _, _, _]) (st' := []) (cs := [(_, _)]) rfl (⟨⟨by omega, by omega⟩, trivial⟩) ?_
                                 refine aw_blk oX12_town_73 (pc' := 75) (ls' := [_, _, _, _, _]) (st' := [_]) (cs := []) rfl trivial ?_
                                 refine aw_iret eX12_town_75 rfl (Nat.le_refl _) (Nat.le_refl _) ?_
                                 exact pe_i rfl rfl rfl)))
                  · first
                    | (exfalso; omega; done)
                    | (refine aw_blk oX12_town_28 (pc' := 30) (ls' := [_, _, _, _, _]) (st' := [_]) (cs := []) rfl trivial ?_
                       refine aw_iret eX12_town_30 rfl (Nat.le_refl _) (Nat.le_refl _) ?_
                       exact pe_i rfl rfl rfl)))
        · first
          | (exfalso; omega; done)
          | (refine aw_blk oX12_town_7 (pc' := 8) (ls' := [_, _, _, _, _]) (st' := [_]) (cs := []) rfl trivial ?_
             refine aw_iret eX12_town_8 rfl (Nat.le_refl _) (Nat.le_refl _) ?_
             exact pe_i rfl rfl rfl)
  · refine ⟨-1, μ, μ, ?_, ?_, by decide, h, SR.rf⟩
    · refine AMet.of kX11_town.1 (Nat.le_of_ble_eq_true rfl) rfl ?_
      refine aw_blk oX11_town_0 (pc' := 3) (ls' := [_, _, _, _]) (st' := [_, _, _]) (cs := []) rfl trivial ?_
      refine aw_ciS (rest := []) (c_X11_between (by omega) (by omega) (by omega)) kX11_between eX11_town_3 lX11_town_3 rfl rfl (Nat.le_of_ble_eq_true rfl) ⟨Nat.le_of_ble_eq_true rfl, Nat.le_of_ble_eq_true rfl⟩ ⟨Nat.le_refl _, Nat.le_refl _⟩ ?_
      refine aw_if_ne (tgt := 11) eX11_town_6 (by decide) bt_r (fun hh => have h35 := bt1 hh; ?_) (fun hh => have h35 := bt0 hh; ?_)
      · first
        | (exfalso; omega; done)
        | (refine aw_blk oX11_town_11 (pc' := 14) (ls' := [_, _, _, _]) (st' := [_, _, _]) (cs := []) rfl trivial ?_
           refine aw_ciS (rest := []) (c_X11_between (by omega) (by omega) (by omega)) kX11_between eX11_town_14 lX11_town_14 rfl rfl (Nat.le_of_ble_eq_true rfl) ⟨Nat.le_of_ble_eq_true rfl, Nat.le_of_ble_eq_true rfl⟩ ⟨Nat.le_refl _, Nat.le_refl _⟩ ?_
           refine aw_if_eq (tgt := 30) eX11_town_17 (by decide) bt_r (fun hh => have h36 := bt0 hh; ?_) (fun hh => have h36 := bt1 hh; ?_)
           · first
             | (exfalso; omega; done)
             | (refine aw_blk oX11_town_30 (pc' := 32) (ls' := [_, _, _, _]) (st' := [_]) (cs := []) rfl trivial ?_
                refine aw_iret eX11_town_32 rfl (Nat.le_refl _) (Nat.le_refl _) ?_
                exact pe_i rfl rfl rfl)
           · first
             | (exfalso; omega; done)
             | (refine aw_blk oX11_town_20 (pc' := 24) (ls' := [_, _, _, _]) (st' := [_, _, _]) (cs := []) rfl trivial ?_
                refine aw_ciS (rest := []) (c_X11_between (by omega) (by omega) (by omega)) kX11_between eX11_town_24 lX11_town_24 rfl rfl (Nat.le_of_ble_eq_true rfl) ⟨Nat.le_of_ble_eq_true rfl, Nat.le_of_ble_eq_true rfl⟩ ⟨Nat.le_refl _, Nat.le_refl _⟩ ?_
                refine aw_if_ne (tgt := 33) eX11_town_27 (by decide) bt_r (fun hh => have h37 := bt1 hh; ?_) (fun hh => have h37 := bt0 hh; ?_)
                · first
                  | (exfalso; omega; done)
                  | (refine aw_blk oX11_town_33 (pc' := 34) (ls' := [_, _, _, _]) (st' := [_]) (cs := []) rfl trivial ?_
                     refine aw_if_ne (tgt := 49) eX11_town_34 (by decide) (by omega) (fun h38 => ?_) (fun h38 => ?_)
                     · first
                       | (exfalso; omega; done)
                       | (refine aw_blk oX11_town_49 (pc' := 55) (ls' := [_, _, _, _]) (st' := [_, _, _]) (cs := []) rfl trivial ?_
                          refine aw_ciV (rest := []) (c_changeFar (by omega)) kX10_changeFar eX11_town_55 lX11_town_55 rfl rfl rfl rfl (Nat.le_of_ble_eq_true rfl) ⟨Nat.le_of_ble_eq_true rfl, Nat.le_of_ble_eq_true rfl⟩ ⟨Nat.le_refl _, Nat.le_refl _⟩ ?_
                          refine aw_iret eX11_town_58 rfl (Nat.le_refl _) (Nat.le_refl _) ?_
                          exact pe_i rfl rfl rfl)
                     · first
                       | (exfalso; omega; done)
                       | (refine aw_blk oX11_town_37 (pc' := 43) (ls' := [_, _, _, _]) (st' := [_, _, _]) (cs := []) rfl trivial ?_
                          refine aw_ciV (rest := []) (c_changeRoom (by omega)) kX10_changeRoom eX11_town_43 lX11_town_43 rfl rfl rfl rfl (Nat.le_of_ble_eq_true rfl) ⟨Nat.le_of_ble_eq_true rfl, Nat.le_of_ble_eq_true rfl⟩ ⟨Nat.le_refl _, Nat.le_refl _⟩ ?_
                          refine aw_blk oX11_town_46 (pc' := 58) (ls' := [_, _, _, _]) (st' := [_]) (cs := []) rfl trivial ?_
                          refine aw_iret eX11_town_58 rfl (Nat.le_refl _) (Nat.le_refl _) ?_
                          exact pe_i rfl rfl rfl))
                · first
                  | (exfalso; omega; done)
                  | (refine aw_blk oX11_town_30 (pc' := 32) (ls' := [_, _, _, _]) (st' := [_]) (cs := []) rfl trivial ?_
                     refine aw_iret eX11_town_32 rfl (Nat.le_refl _) (Nat.le_refl _) ?_
                     exact pe_i rfl rfl rfl)))
      · first
        | (exfalso; omega; done)
        | (refine aw_blk oX11_town_9 (pc' := 10) (ls' := [_, _, _, _]) (st' := [_]) (cs := []) rfl trivial ?_
           refine aw_iret eX11_town_10 rfl (Nat.le_refl _) (Nat.le_refl _) ?_
           exact pe_i rfl rfl rfl)
    · refine AMet.of kX12_town.1 (Nat.le_of_ble_eq_true rfl) rfl ?_
      refine aw_blk oX12_town_0 (pc' := 1) (ls' := [_, _, _, _, _]) (st' := [_]) (cs := []) rfl trivial ?_
      refine aw_ciS (rest := []) (c_X12_isTown (by omega)) kX12_isTown eX12_town_1 lX12_town_1 rfl rfl (Nat.le_of_ble_eq_true rfl) ⟨Nat.le_of_ble_eq_true rfl, Nat.le_of_ble_eq_true rfl⟩ ⟨Nat.le_refl _, Nat.le_refl _⟩ ?_
      refine aw_if_ne (tgt := 9) eX12_town_4 (by decide) bt_r (fun hh => have h39 := bt1 hh; ?_) (fun hh => have h39 := bt0 hh; ?_)
      · first
        | (exfalso; omega; done)
        | (refine aw_blk oX12_town_9 (pc' := 12) (ls' := [_, _, _, _, _]) (st' := [_, _, _]) (cs := []) rfl trivial ?_
           refine aw_ciS (rest := []) (c_X12_in (by omega) (by omega) (by omega)) kX12_in eX12_town_12 lX12_town_12 rfl rfl (Nat.le_of_ble_eq_true rfl) ⟨Nat.le_of_ble_eq_true rfl, Nat.le_of_ble_eq_true rfl⟩ ⟨Nat.le_refl _, Nat.le_refl _⟩ ?_
           refine aw_if_eq (tgt := 28) eX12_town_15 (by decide) bt_r (fun hh => have h40 := bt0 hh; ?_) (fun hh => have h40 := bt1 hh; ?_)
           · first
             | (exfalso; omega; done)
             | (refine aw_blk oX12_town_28 (pc' := 30) (ls' := [_, _, _, _, _]) (st' := [_]) (cs := []) rfl trivial ?_
                refine aw_iret eX12_town_30 rfl (Nat.le_refl _) (Nat.le_refl _) ?_
                exact pe_i rfl rfl rfl)
           · first
             | (exfalso; omega; done)
             | (refine aw_blk oX12_town_18 (pc' := 22) (ls' := [_, _, _, _, _]) (st' := [_, _, _]) (cs := []) rfl trivial ?_
                refine aw_ciS (rest := []) (c_X12_in (by omega) (by omega) (by omega)) kX12_in eX12_town_22 lX12_town_22 rfl rfl (Nat.le_of_ble_eq_true rfl) ⟨Nat.le_of_ble_eq_true rfl, Nat.le_of_ble_eq_true rfl⟩ ⟨Nat.le_refl _, Nat.le_refl _⟩ ?_
                refine aw_if_ne (tgt := 31) eX12_town_25 (by decide) bt_r (fun hh => have h41 := bt1 hh; ?_) (fun hh => have h41 := bt0 hh; ?_)
                · first
                  | (exfalso; omega; done)
                  | (refine aw_blk oX12_town_31 (pc' := 32) (ls' := [_, _, _, _, _]) (st' := [_]) (cs := []) rfl trivial ?_
                     refine aw_if_ne (tgt := 44) eX12_town_32 (by decide) (by omega) (fun h42 => ?_) (fun h42 => ?_)
                     · first
                       | (exfalso; omega; done)
                       | (refine aw_blk oX12_town_44 (pc' := 50) (ls' := [_, _, _, _, _]) (st' := [_]) (cs := [(_, _)]) rfl (⟨⟨by omega, by omega⟩, trivial⟩) ?_
                          refine aw_blk oX12_town_50 (pc' := 53) (ls' := [_, _, _, _, _]) (st' := [_]) (cs := []) rfl trivial ?_
                          refine aw_if_ne (tgt := 66) eX12_town_53 (by decide) (by omega) (fun h43 => ?_) (fun h43 => ?_)
                          · first
                            | (exfalso; omega; done)
                            | (refine aw_blk oX12_town_66 (pc' := 73) (ls' := [_, _, _, _, _]) (st' := []) (cs := [(_, _)]) rfl (⟨⟨by omega, by omega⟩, trivial⟩) ?_
                               refine aw_blk oX12_town_73 (pc' := 75) (ls' := [_, _, _, _, _]) (st' := [_]) (cs := []) rfl trivial ?_
                               refine aw_iret eX12_town_75 rfl (Nat.le_refl _) (Nat.le_refl _) ?_
                               exact pe_i rfl rfl rfl)
                          · first
                            | (exfalso; omega; done)
                            | (refine aw_blk oX12_town_56 (pc' := 73) (ls' := [_, _, _, _, _]) (st' := []) (cs := [(_, _)]) rfl (⟨⟨by omega, by omega⟩, trivial⟩) ?_
                               refine aw_blk oX12_town_73 (pc' := 75) (ls' := [_, _, _, _, _]) (st' := [_]) (cs := []) rfl trivial ?_
                               refine aw_iret eX12_town_75 rfl (Nat.le_refl _) (Nat.le_refl _) ?_
                               exact pe_i rfl rfl rfl))
                     · first
                       | (exfalso; omega; done)
                       | (refine aw_blk oX12_town_35 (pc' := 50) (ls' := [_, _, _, _, _]) (st' := [_]) (cs := [(_, _)]) rfl (⟨⟨by omega, by omega⟩, trivial⟩) ?_
                          refine aw_blk oX12_town_50 (pc' := 53) (ls' := [_, _, _, _, _]) (st' := [_]) (cs := []) rfl trivial ?_
                          refine aw_if_ne (tgt := 66) eX12_town_53 (by decide) (by omega) (fun h44 => ?_) (fun h44 => ?_)
                          · first
                            | (exfalso; omega; done)
                            | (refine aw_blk oX12_town_66 (pc' := 73) (ls' := [_, _, _, _, _]) (st' := []) (cs := [(_, _)]) rfl (⟨⟨by omega, by omega⟩, trivial⟩) ?_
                               refine aw_blk oX12_town_73 (pc' := 75) (ls' := [_, _, _, _, _]) (st' := [_]) (cs := []) rfl trivial ?_
                               refine aw_iret eX12_town_75 rfl (Nat.le_refl _) (Nat.le_refl _) ?_
                               exact pe_i rfl rfl rfl)
                          · first
                            | (exfalso; omega; done)
                            | (refine aw_blk oX12_town_56 (pc' := 73) (ls' := [_, _, _, _, _]) (st' := []) (cs := [(_, _)]) rfl (⟨⟨by omega, by omega⟩, trivial⟩) ?_
                               refine aw_blk oX12_town_73 (pc' := 75) (ls' := [_, _, _, _, _]) (st' := [_]) (cs := []) rfl trivial ?_
                               refine aw_iret eX12_town_75 rfl (Nat.le_refl _) (Nat.le_refl _) ?_
                               exact pe_i rfl rfl rfl)))
                · first
                  | (exfalso; omega; done)
                  | (refine aw_blk oX12_town_28 (pc' := 30) (ls' := [_, _, _, _, _]) (st' := [_]) (cs := []) rfl trivial ?_
                     refine aw_iret eX12_town_30 rfl (Nat.le_refl _) (Nat.le_refl _) ?_
                     exact pe_i rfl rfl rfl)))
      · first
        | (exfalso; omega; done)
        | (refine aw_blk oX12_town_7 (pc' := 8) (ls' := [_, _, _, _, _]) (st' := [_]) (cs := []) rfl trivial ?_
           refine aw_iret eX12_town_8 rfl (Nat.le_refl _) (Nat.le_refl _) ?_
           exact pe_i rfl rfl rfl)
theorem law_weight {κ : KX} {μ : MM} {ν : ML} {t v : Int} (h : RT μ) (ht : R32 t) (hv : R32 v) : LawM RT csT κ mX11_weight mX12_weight [aI t, aI v] μ ν := by
  obtain ⟨h1, h2, h3, h4⟩ := id h
  by_cases c1 : 0 ≤ t ∧ t ≤ 5
  · by_cases c2 : 1 ≤ v ∧ v ≤ 50
    · have g1 := h3 t (by omega) (by omega)
      refine ⟨μ 36 t, up μ 36 t v, up (up μ 36 t v) 65 t v, ?_, ?_, by omega, ?_, SR.two.sub (by decide)⟩
      · refine AMet.of kX11_weight.1 (Nat.le_of_ble_eq_true rfl) rfl ?_
        refine aw_blk oX11_weight_0 (pc' := 1) (ls' := [_, _, _]) (st' := [_]) (cs := []) rfl trivial ?_
        refine aw_ciS (rest := []) (c_X11_isFilm (by omega)) kX11_isFilm eX11_weight_1 lX11_weight_1 rfl rfl (Nat.le_of_ble_eq_true rfl) ⟨Nat.le_of_ble_eq_true rfl, Nat.le_of_ble_eq_true rfl⟩ ⟨Nat.le_refl _, Nat.le_refl _⟩ ?_
        refine aw_if_ne (tgt := 9) eX11_weight_4 (by decide) bt_r (fun hh => have h45 := bt1 hh; ?_) (fun hh => have h45 := bt0 hh; ?_)
        · first
          | (exfalso; omega; done)
          | (refine aw_blk oX11_weight_9 (pc' := 13) (ls' := [_, _, _]) (st' := [_, _, _]) (cs := []) rfl trivial ?_
             refine aw_ciS (rest := []) (c_X11_between (by omega) (by omega) (by omega)) kX11_between eX11_weight_13 lX11_weight_13 rfl rfl (Nat.le_of_ble_eq_true rfl) ⟨Nat.le_of_ble_eq_true rfl, Nat.le_of_ble_eq_true rfl⟩ ⟨Nat.le_refl _, Nat.le_refl _⟩ ?_
             refine aw_if_ne (tgt := 22) eX11_weight_16 (by decide) bt_r (fun hh => have h46 := bt1 hh; ?_) (fun hh => have h46 := bt0 hh; ?_)
             · first
               | (exfalso; omega; done)
               | (refine aw_blk oX11_weight_22 (pc' := 28) (ls' := [_, _, _]) (st' := [_, _, _]) (cs := []) rfl trivial ?_
                  refine aw_ciV (rest := []) (c_changeWeight (by omega)) kX10_changeWeight eX11_weight_28 lX11_weight_28 rfl rfl rfl rfl (Nat.le_of_ble_eq_true rfl) ⟨Nat.le_of_ble_eq_true rfl, Nat.le_of_ble_eq_true rfl⟩ ⟨Nat.le_refl _, Nat.le_refl _⟩ ?_
                  refine aw_iret eX11_weight_31 rfl (Nat.le_refl _) (Nat.le_refl _) ?_
                  exact pe_i rfl rfl rfl)
             · first
               | (exfalso; omega; done)
               | (refine aw_blk oX11_weight_19 (pc' := 21) (ls' := [_, _, _]) (st' := [_]) (cs := []) rfl trivial ?_
                  refine aw_iret eX11_weight_21 rfl (Nat.le_refl _) (Nat.le_refl _) ?_
                  exact pe_i rfl rfl rfl))
        · first
          | (exfalso; omega; done)
          | (refine aw_blk oX11_weight_7 (pc' := 8) (ls' := [_, _, _]) (st' := [_]) (cs := []) rfl trivial ?_
             refine aw_iret eX11_weight_8 rfl (Nat.le_refl _) (Nat.le_refl _) ?_
             exact pe_i rfl rfl rfl)
      · refine AMet.of kX12_weight.1 (Nat.le_of_ble_eq_true rfl) rfl ?_
        refine aw_blk oX12_weight_0 (pc' := 1) (ls' := [_, _, _, _]) (st' := [_]) (cs := []) rfl trivial ?_
        refine aw_ciS (rest := []) (c_X12_isFilm (by omega)) kX12_isFilm eX12_weight_1 lX12_weight_1 rfl rfl (Nat.le_of_ble_eq_true rfl) ⟨Nat.le_of_ble_eq_true rfl, Nat.le_of_ble_eq_true rfl⟩ ⟨Nat.le_refl _, Nat.le_refl _⟩ ?_
        refine aw_if_ne (tgt := 9) eX12_weight_4 (by decide) bt_r (fun hh => have h47 := bt1 hh; ?_) (fun hh => have h47 := bt0 hh; ?_)
        · first
          | (exfalso; omega; done)
          | (refine aw_blk oX12_weight_9 (pc' := 13) (ls' := [_, _, _, _]) (st' := [_, _, _]) (cs := []) rfl trivial ?_
             refine aw_ciS (rest := []) (c_X12_in (by omega) (by omega) (by omega)) kX12_in eX12_weight_13 lX12_weight_13 rfl rfl (Nat.le_of_ble_eq_true rfl) ⟨Nat.le_of_ble_eq_true rfl, Nat.le_of_ble_eq_true rfl⟩ ⟨Nat.le_refl _, Nat.le_refl _⟩ ?_
             refine aw_if_ne (tgt := 22) eX12_weight_16 (by decide) bt_r (fun hh => have h48 := bt1 hh; ?_) (fun hh => have h48 := bt0 hh; ?_)
             · first
               | (exfalso; omega; done)
               | (refine aw_blk oX12_weight_22 (pc' := 37) (ls' := [_, _, _, _]) (st' := [_]) (cs := [(_, _), (_, _)]) rfl (⟨⟨by omega, by omega⟩, ⟨by omega, by omega⟩, trivial⟩) ?_
                  refine aw_iret eX12_weight_37 rfl (Nat.le_refl _) (Nat.le_refl _) ?_
                  exact pe_i (by rw [up_c (by decide)]; exact g1.1) rfl rfl)
             · first
               | (exfalso; omega; done)
               | (refine aw_blk oX12_weight_19 (pc' := 21) (ls' := [_, _, _, _]) (st' := [_]) (cs := []) rfl trivial ?_
                  refine aw_iret eX12_weight_21 rfl (Nat.le_refl _) (Nat.le_refl _) ?_
                  exact pe_i (by rw [up_c (by decide)]; exact g1.1) rfl rfl))
        · first
          | (exfalso; omega; done)
          | (refine aw_blk oX12_weight_7 (pc' := 8) (ls' := [_, _, _, _]) (st' := [_]) (cs := []) rfl trivial ?_
             refine aw_iret eX12_weight_8 rfl (Nat.le_refl _) (Nat.le_refl _) ?_
             exact pe_i (by rw [up_c (by decide)]; exact g1.1) rfl rfl)
      exact ⟨h1.fr SR.two (by decide) (by decide), h2.fr SR.two (by decide) (by decide), h3.up2 (by decide) c2.1 c2.2, h4.fr SR.two (by decide) (by decide)⟩
    · refine ⟨-2, μ, μ, ?_, ?_, by decide, h, SR.rf⟩
      · refine AMet.of kX11_weight.1 (Nat.le_of_ble_eq_true rfl) rfl ?_
        refine aw_blk oX11_weight_0 (pc' := 1) (ls' := [_, _, _]) (st' := [_]) (cs := []) rfl trivial ?_
        refine aw_ciS (rest := []) (c_X11_isFilm (by omega)) kX11_isFilm eX11_weight_1 lX11_weight_1 rfl rfl (Nat.le_of_ble_eq_true rfl) ⟨Nat.le_of_ble_eq_true rfl, Nat.le_of_ble_eq_true rfl⟩ ⟨Nat.le_refl _, Nat.le_refl _⟩ ?_
        refine aw_if_ne (tgt := 9) eX11_weight_4 (by decide) bt_r (fun hh => have h49 := bt1 hh; ?_) (fun hh => have h49 := bt0 hh; ?_)
        · first
          | (exfalso; omega; done)
          | (refine aw_blk oX11_weight_9 (pc' := 13) (ls' := [_, _, _]) (st' := [_, _, _]) (cs := []) rfl trivial ?_
             refine aw_ciS (rest := []) (c_X11_between (by omega) (by omega) (by omega)) kX11_between eX11_weight_13 lX11_weight_13 rfl rfl (Nat.le_of_ble_eq_true rfl) ⟨Nat.le_of_ble_eq_true rfl, Nat.le_of_ble_eq_true rfl⟩ ⟨Nat.le_refl _, Nat.le_refl _⟩ ?_
             refine aw_if_ne (tgt := 22) eX11_weight_16 (by decide) bt_r (fun hh => have h50 := bt1 hh; ?_) (fun hh => have h50 := bt0 hh; ?_)
             · first
               | (exfalso; omega; done)
               | (refine aw_blk oX11_weight_22 (pc' := 28) (ls' := [_, _, _]) (st' := [_, _, _]) (cs := []) rfl trivial ?_
                  refine aw_ciV (rest := []) (c_changeWeight (by omega)) kX10_changeWeight eX11_weight_28 lX11_weight_28 rfl rfl rfl rfl (Nat.le_of_ble_eq_true rfl) ⟨Nat.le_of_ble_eq_true rfl, Nat.le_of_ble_eq_true rfl⟩ ⟨Nat.le_refl _, Nat.le_refl _⟩ ?_
                  refine aw_iret eX11_weight_31 rfl (Nat.le_refl _) (Nat.le_refl _) ?_
                  exact pe_i rfl rfl rfl)
             · first
               | (exfalso; omega; done)
               | (refine aw_blk oX11_weight_19 (pc' := 21) (ls' := [_, _, _]) (st' := [_]) (cs := []) rfl trivial ?_
                  refine aw_iret eX11_weight_21 rfl (Nat.le_refl _) (Nat.le_refl _) ?_
                  exact pe_i rfl rfl rfl))
        · first
          | (exfalso; omega; done)
          | (refine aw_blk oX11_weight_7 (pc' := 8) (ls' := [_, _, _]) (st' := [_]) (cs := []) rfl trivial ?_
             refine aw_iret eX11_weight_8 rfl (Nat.le_refl _) (Nat.le_refl _) ?_
             exact pe_i rfl rfl rfl)
      · refine AMet.of kX12_weight.1 (Nat.le_of_ble_eq_true rfl) rfl ?_
        refine aw_blk oX12_weight_0 (pc' := 1) (ls' := [_, _, _, _]) (st' := [_]) (cs := []) rfl trivial ?_
        refine aw_ciS (rest := []) (c_X12_isFilm (by omega)) kX12_isFilm eX12_weight_1 lX12_weight_1 rfl rfl (Nat.le_of_ble_eq_true rfl) ⟨Nat.le_of_ble_eq_true rfl, Nat.le_of_ble_eq_true rfl⟩ ⟨Nat.le_refl _, Nat.le_refl _⟩ ?_
        refine aw_if_ne (tgt := 9) eX12_weight_4 (by decide) bt_r (fun hh => have h51 := bt1 hh; ?_) (fun hh => have h51 := bt0 hh; ?_)
        · first
          | (exfalso; omega; done)
          | (refine aw_blk oX12_weight_9 (pc' := 13) (ls' := [_, _, _, _]) (st' := [_, _, _]) (cs := []) rfl trivial ?_
             refine aw_ciS (rest := []) (c_X12_in (by omega) (by omega) (by omega)) kX12_in eX12_weight_13 lX12_weight_13 rfl rfl (Nat.le_of_ble_eq_true rfl) ⟨Nat.le_of_ble_eq_true rfl, Nat.le_of_ble_eq_true rfl⟩ ⟨Nat.le_refl _, Nat.le_refl _⟩ ?_
             refine aw_if_ne (tgt := 22) eX12_weight_16 (by decide) bt_r (fun hh => have h52 := bt1 hh; ?_) (fun hh => have h52 := bt0 hh; ?_)
             · first
               | (exfalso; omega; done)
               | (refine aw_blk oX12_weight_22 (pc' := 37) (ls' := [_, _, _, _]) (st' := [_]) (cs := [(_, _), (_, _)]) rfl (⟨⟨by omega, by omega⟩, ⟨by omega, by omega⟩, trivial⟩) ?_
                  refine aw_iret eX12_weight_37 rfl (Nat.le_refl _) (Nat.le_refl _) ?_
                  exact pe_i rfl rfl rfl)
             · first
               | (exfalso; omega; done)
               | (refine aw_blk oX12_weight_19 (pc' := 21) (ls' := [_, _, _, _]) (st' := [_]) (cs := []) rfl trivial ?_
                  refine aw_iret eX12_weight_21 rfl (Nat.le_refl _) (Nat.le_refl _) ?_
                  exact pe_i rfl rfl rfl))
        · first
          | (exfalso; omega; done)
          | (refine aw_blk oX12_weight_7 (pc' := 8) (ls' := [_, _, _, _]) (st' := [_]) (cs := []) rfl trivial ?_
             refine aw_iret eX12_weight_8 rfl (Nat.le_refl _) (Nat.le_refl _) ?_
             exact pe_i rfl rfl rfl)
  · refine ⟨-1, μ, μ, ?_, ?_, by decide, h, SR.rf⟩
    · refine AMet.of kX11_weight.1 (Nat.le_of_ble_eq_true rfl) rfl ?_
      refine aw_blk oX11_weight_0 (pc' := 1) (ls' := [_, _, _]) (st' := [_]) (cs := []) rfl trivial ?_
      refine aw_ciS (rest := []) (c_X11_isFilm (by omega)) kX11_isFilm eX11_weight_1 lX11_weight_1 rfl rfl (Nat.le_of_ble_eq_true rfl) ⟨Nat.le_of_ble_eq_true rfl, Nat.le_of_ble_eq_true rfl⟩ ⟨Nat.le_refl _, Nat.le_refl _⟩ ?_
      refine aw_if_ne (tgt := 9) eX11_weight_4 (by decide) bt_r (fun hh => have h53 := bt1 hh; ?_) (fun hh => have h53 := bt0 hh; ?_)
      · first
        | (exfalso; omega; done)
        | (refine aw_blk oX11_weight_9 (pc' := 13) (ls' := [_, _, _]) (st' := [_, _, _]) (cs := []) rfl trivial ?_
           refine aw_ciS (rest := []) (c_X11_between (by omega) (by omega) (by omega)) kX11_between eX11_weight_13 lX11_weight_13 rfl rfl (Nat.le_of_ble_eq_true rfl) ⟨Nat.le_of_ble_eq_true rfl, Nat.le_of_ble_eq_true rfl⟩ ⟨Nat.le_refl _, Nat.le_refl _⟩ ?_
           refine aw_if_ne (tgt := 22) eX11_weight_16 (by decide) bt_r (fun hh => have h54 := bt1 hh; ?_) (fun hh => have h54 := bt0 hh; ?_)
           · first
             | (exfalso; omega; done)
             | (refine aw_blk oX11_weight_22 (pc' := 28) (ls' := [_, _, _]) (st' := [_, _, _]) (cs := []) rfl trivial ?_
                refine aw_ciV (rest := []) (c_changeWeight (by omega)) kX10_changeWeight eX11_weight_28 lX11_weight_28 rfl rfl rfl rfl (Nat.le_of_ble_eq_true rfl) ⟨Nat.le_of_ble_eq_true rfl, Nat.le_of_ble_eq_true rfl⟩ ⟨Nat.le_refl _, Nat.le_refl _⟩ ?_
                refine aw_iret eX11_weight_31 rfl (Nat.le_refl _) (Nat.le_refl _) ?_
                exact pe_i rfl rfl rfl)
           · first
             | (exfalso; omega; done)
             | (refine aw_blk oX11_weight_19 (pc' := 21) (ls' := [_, _, _]) (st' := [_]) (cs := []) rfl trivial ?_
                refine aw_iret eX11_weight_21 rfl (Nat.le_refl _) (Nat.le_refl _) ?_
                exact pe_i rfl rfl rfl))
      · first
        | (exfalso; omega; done)
        | (refine aw_blk oX11_weight_7 (pc' := 8) (ls' := [_, _, _]) (st' := [_]) (cs := []) rfl trivial ?_
           refine aw_iret eX11_weight_8 rfl (Nat.le_refl _) (Nat.le_refl _) ?_
           exact pe_i rfl rfl rfl)
    · refine AMet.of kX12_weight.1 (Nat.le_of_ble_eq_true rfl) rfl ?_
      refine aw_blk oX12_weight_0 (pc' := 1) (ls' := [_, _, _, _]) (st' := [_]) (cs := []) rfl trivial ?_
      refine aw_ciS (rest := []) (c_X12_isFilm (by omega)) kX12_isFilm eX12_weight_1 lX12_weight_1 rfl rfl (Nat.le_of_ble_eq_true rfl) ⟨Nat.le_of_ble_eq_true rfl, Nat.le_of_ble_eq_true rfl⟩ ⟨Nat.le_refl _, Nat.le_refl _⟩ ?_
      refine aw_if_ne (tgt := 9) eX12_weight_4 (by decide) bt_r (fun hh => have h55 := bt1 hh; ?_) (fun hh => have h55 := bt0 hh; ?_)
      · first
        | (exfalso; omega; done)
        | (refine aw_blk oX12_weight_9 (pc' := 13) (ls' := [_, _, _, _]) (st' := [_, _, _]) (cs := []) rfl trivial ?_
           refine aw_ciS (rest := []) (c_X12_in (by omega) (by omega) (by omega)) kX12_in eX12_weight_13 lX12_weight_13 rfl rfl (Nat.le_of_ble_eq_true rfl) ⟨Nat.le_of_ble_eq_true rfl, Nat.le_of_ble_eq_true rfl⟩ ⟨Nat.le_refl _, Nat.le_refl _⟩ ?_
           refine aw_if_ne (tgt := 22) eX12_weight_16 (by decide) bt_r (fun hh => have h56 := bt1 hh; ?_) (fun hh => have h56 := bt0 hh; ?_)
           · first
             | (exfalso; omega; done)
             | (refine aw_blk oX12_weight_22 (pc' := 37) (ls' := [_, _, _, _]) (st' := [_]) (cs := [(_, _), (_, _)]) rfl (⟨⟨by omega, by omega⟩, ⟨by omega, by omega⟩, trivial⟩) ?_
                refine aw_iret eX12_weight_37 rfl (Nat.le_refl _) (Nat.le_refl _) ?_
                exact pe_i rfl rfl rfl)
           · first
             | (exfalso; omega; done)
             | (refine aw_blk oX12_weight_19 (pc' := 21) (ls' := [_, _, _, _]) (st' := [_]) (cs := []) rfl trivial ?_
                refine aw_iret eX12_weight_21 rfl (Nat.le_refl _) (Nat.le_refl _) ?_
                exact pe_i rfl rfl rfl))
      · first
        | (exfalso; omega; done)
        | (refine aw_blk oX12_weight_7 (pc' := 8) (ls' := [_, _, _, _]) (st' := [_]) (cs := []) rfl trivial ?_
           refine aw_iret eX12_weight_8 rfl (Nat.le_refl _) (Nat.le_refl _) ?_
           exact pe_i rfl rfl rfl)
theorem law_ask {κ : KX} {μ : MM} {ν : ML} {t f v : Int} (h : RT μ) (ht : R32 t) (hf : R32 f) (hv : R32 v) : LawM RT csT κ mX11_ask mX12_ask [aI t, aI f, aI v] μ ν := by
  obtain ⟨h1, h2, h3, h4⟩ := id h
  by_cases c1 : (0 ≤ t ∧ t ≤ 3) ∧ (0 ≤ f ∧ f ≤ 5)
  · by_cases c2 : 0 ≤ v ∧ v ≤ 1000
    · have g1 := h4 (t * 6 + f) (by omega) (by omega)
      have e : 6 * t + f = t * 6 + f := by omega
      refine ⟨μ 37 (t * 6 + f), up μ 37 (t * 6 + f) v, up (up μ 37 (t * 6 + f) v) 66 (t * 6 + f) v, ?_, ?_, by omega, ?_, SR.two.sub (by decide)⟩
      · refine AMet.of kX11_ask.1 (Nat.le_of_ble_eq_true rfl) rfl ?_
        refine aw_blk oX11_ask_0 (pc' := 3) (ls' := [_, _, _, _]) (st' := [_, _, _]) (cs := []) rfl trivial ?_
        refine aw_ciS (rest := []) (c_X11_between (by omega) (by omega) (by omega)) kX11_between eX11_ask_3 lX11_ask_3 rfl rfl (Nat.le_of_ble_eq_true rfl) ⟨Nat.le_of_ble_eq_true rfl, Nat.le_of_ble_eq_true rfl⟩ ⟨Nat.le_refl _, Nat.le_refl _⟩ ?_
        refine aw_if_eq (tgt := 16) eX11_ask_6 (by decide) bt_r (fun hh => have h57 := bt0 hh; ?_) (fun hh => have h57 := bt1 hh; ?_)
        · first
          | (exfalso; omega; done)
          | (refine aw_blk oX11_ask_16 (pc' := 17) (ls' := [_, _, _, _]) (st' := [_]) (cs := []) rfl trivial ?_
             refine aw_iret eX11_ask_17 rfl (Nat.le_refl _) (Nat.le_refl _) ?_
             exact pe_i rfl rfl rfl)
        · first
          | (exfalso; omega; done)
          | (refine aw_blk oX11_ask_9 (pc' := 10) (ls' := [_, _, _, _]) (st' := [_]) (cs := []) rfl trivial ?_
             refine aw_ciS (rest := []) (c_X11_isFilm (by omega)) kX11_isFilm eX11_ask_10 lX11_ask_10 rfl rfl (Nat.le_of_ble_eq_true rfl) ⟨Nat.le_of_ble_eq_true rfl, Nat.le_of_ble_eq_true rfl⟩ ⟨Nat.le_refl _, Nat.le_refl _⟩ ?_
             refine aw_if_ne (tgt := 18) eX11_ask_13 (by decide) bt_r (fun hh => have h58 := bt1 hh; ?_) (fun hh => have h58 := bt0 hh; ?_)
             · first
               | (exfalso; omega; done)
               | (refine aw_blk oX11_ask_18 (pc' := 23) (ls' := [_, _, _, _]) (st' := [_, _, _]) (cs := []) rfl trivial ?_
                  refine aw_ciS (rest := []) (c_X11_between (by omega) (by omega) (by omega)) kX11_between eX11_ask_23 lX11_ask_23 rfl rfl (Nat.le_of_ble_eq_true rfl) ⟨Nat.le_of_ble_eq_true rfl, Nat.le_of_ble_eq_true rfl⟩ ⟨Nat.le_refl _, Nat.le_refl _⟩ ?_
                  refine aw_if_ne (tgt := 32) eX11_ask_26 (by decide) bt_r (fun hh => have h59 := bt1 hh; ?_) (fun hh => have h59 := bt0 hh; ?_)
                  · first
                    | (exfalso; omega; done)
                    | (refine aw_blk oX11_ask_32 (pc' := 39) (ls' := [_, _, _, _]) (st' := [_, _, _, _]) (cs := []) rfl trivial ?_
                       refine aw_ciV (rest := []) (c_changeAsks (by omega) (by omega)) kX10_changeAsks eX11_ask_39 lX11_ask_39 rfl rfl rfl rfl (Nat.le_of_ble_eq_true rfl) ⟨Nat.le_of_ble_eq_true rfl, Nat.le_of_ble_eq_true rfl⟩ ⟨Nat.le_refl _, Nat.le_refl _⟩ ?_
                       refine aw_iret eX11_ask_42 rfl (Nat.le_refl _) (Nat.le_refl _) ?_
                       exact pe_i rfl rfl rfl)
                  · first
                    | (exfalso; omega; done)
                    | (refine aw_blk oX11_ask_29 (pc' := 31) (ls' := [_, _, _, _]) (st' := [_]) (cs := []) rfl trivial ?_
                       refine aw_iret eX11_ask_31 rfl (Nat.le_refl _) (Nat.le_refl _) ?_
                       exact pe_i rfl rfl rfl))
             · first
               | (exfalso; omega; done)
               | (refine aw_blk oX11_ask_16 (pc' := 17) (ls' := [_, _, _, _]) (st' := [_]) (cs := []) rfl trivial ?_
                  refine aw_iret eX11_ask_17 rfl (Nat.le_refl _) (Nat.le_refl _) ?_
                  exact pe_i rfl rfl rfl))
      · refine AMet.of kX12_ask.1 (Nat.le_of_ble_eq_true rfl) rfl ?_
        refine aw_blk oX12_ask_0 (pc' := 1) (ls' := [_, _, _, _, _]) (st' := [_]) (cs := []) rfl trivial ?_
        refine aw_ciS (rest := []) (c_X12_isTown (by omega)) kX12_isTown eX12_ask_1 lX12_ask_1 rfl rfl (Nat.le_of_ble_eq_true rfl) ⟨Nat.le_of_ble_eq_true rfl, Nat.le_of_ble_eq_true rfl⟩ ⟨Nat.le_refl _, Nat.le_refl _⟩ ?_
        refine aw_if_eq (tgt := 14) eX12_ask_4 (by decide) bt_r (fun hh => have h60 := bt0 hh; ?_) (fun hh => have h60 := bt1 hh; ?_)
        · first
          | (exfalso; omega; done)
          | (refine aw_blk oX12_ask_14 (pc' := 15) (ls' := [_, _, _, _, _]) (st' := [_]) (cs := []) rfl trivial ?_
             refine aw_iret eX12_ask_15 rfl (Nat.le_refl _) (Nat.le_refl _) ?_
             exact pe_i (by rw [e, up_c (by decide)]; exact g1.1) (by rw [e]) rfl)
        · first
          | (exfalso; omega; done)
          | (refine aw_blk oX12_ask_7 (pc' := 8) (ls' := [_, _, _, _, _]) (st' := [_]) (cs := []) rfl trivial ?_
             refine aw_ciS (rest := []) (c_X12_isFilm (by omega)) kX12_isFilm eX12_ask_8 lX12_ask_8 rfl rfl (Nat.le_of_ble_eq_true rfl) ⟨Nat.le_of_ble_eq_true rfl, Nat.le_of_ble_eq_true rfl⟩ ⟨Nat.le_refl _, Nat.le_refl _⟩ ?_
             refine aw_if_ne (tgt := 16) eX12_ask_11 (by decide) bt_r (fun hh => have h61 := bt1 hh; ?_) (fun hh => have h61 := bt0 hh; ?_)
             · first
               | (exfalso; omega; done)
               | (refine aw_blk oX12_ask_16 (pc' := 21) (ls' := [_, _, _, _, _]) (st' := [_, _, _]) (cs := []) rfl trivial ?_
                  refine aw_ciS (rest := []) (c_X12_in (by omega) (by omega) (by omega)) kX12_in eX12_ask_21 lX12_ask_21 rfl rfl (Nat.le_of_ble_eq_true rfl) ⟨Nat.le_of_ble_eq_true rfl, Nat.le_of_ble_eq_true rfl⟩ ⟨Nat.le_refl _, Nat.le_refl _⟩ ?_
                  refine aw_if_ne (tgt := 30) eX12_ask_24 (by decide) bt_r (fun hh => have h62 := bt1 hh; ?_) (fun hh => have h62 := bt0 hh; ?_)
                  · first
                    | (exfalso; omega; done)
                    | (refine aw_blk oX12_ask_30 (pc' := 57) (ls' := [_, _, _, _, _]) (st' := [_]) (cs := [(_, _), (_, _)]) rfl (⟨⟨by omega, by omega⟩, ⟨by omega, by omega⟩, trivial⟩) ?_
                       refine aw_iret eX12_ask_57 rfl (Nat.le_refl _) (Nat.le_refl _) ?_
                       exact pe_i (by rw [e, up_c (by decide)]; exact g1.1) (by rw [e]) rfl)
                  · first
                    | (exfalso; omega; done)
                    | (refine aw_blk oX12_ask_27 (pc' := 29) (ls' := [_, _, _, _, _]) (st' := [_]) (cs := []) rfl trivial ?_
                       refine aw_iret eX12_ask_29 rfl (Nat.le_refl _) (Nat.le_refl _) ?_
                       exact pe_i (by rw [e, up_c (by decide)]; exact g1.1) (by rw [e]) rfl))
             · first
               | (exfalso; omega; done)
               | (refine aw_blk oX12_ask_14 (pc' := 15) (ls' := [_, _, _, _, _]) (st' := [_]) (cs := []) rfl trivial ?_
                  refine aw_iret eX12_ask_15 rfl (Nat.le_refl _) (Nat.le_refl _) ?_
                  exact pe_i (by rw [e, up_c (by decide)]; exact g1.1) (by rw [e]) rfl))
      exact ⟨h1.fr SR.two (by decide) (by decide), h2.fr SR.two (by decide) (by decide), h3.fr SR.two (by decide) (by decide), h4.up2 (by decide) c2.1 c2.2⟩
    · refine ⟨-2, μ, μ, ?_, ?_, by decide, h, SR.rf⟩
      · refine AMet.of kX11_ask.1 (Nat.le_of_ble_eq_true rfl) rfl ?_
        refine aw_blk oX11_ask_0 (pc' := 3) (ls' := [_, _, _, _]) (st' := [_, _, _]) (cs := []) rfl trivial ?_
        refine aw_ciS (rest := []) (c_X11_between (by omega) (by omega) (by omega)) kX11_between eX11_ask_3 lX11_ask_3 rfl rfl (Nat.le_of_ble_eq_true rfl) ⟨Nat.le_of_ble_eq_true rfl, Nat.le_of_ble_eq_true rfl⟩ ⟨Nat.le_refl _, Nat.le_refl _⟩ ?_
        refine aw_if_eq (tgt := 16) eX11_ask_6 (by decide) bt_r (fun hh => have h63 := bt0 hh; ?_) (fun hh => have h63 := bt1 hh; ?_)
        · first
          | (exfalso; omega; done)
          | (refine aw_blk oX11_ask_16 (pc' := 17) (ls' := [_, _, _, _]) (st' := [_]) (cs := []) rfl trivial ?_
             refine aw_iret eX11_ask_17 rfl (Nat.le_refl _) (Nat.le_refl _) ?_
             exact pe_i rfl rfl rfl)
        · first
          | (exfalso; omega; done)
          | (refine aw_blk oX11_ask_9 (pc' := 10) (ls' := [_, _, _, _]) (st' := [_]) (cs := []) rfl trivial ?_
             refine aw_ciS (rest := []) (c_X11_isFilm (by omega)) kX11_isFilm eX11_ask_10 lX11_ask_10 rfl rfl (Nat.le_of_ble_eq_true rfl) ⟨Nat.le_of_ble_eq_true rfl, Nat.le_of_ble_eq_true rfl⟩ ⟨Nat.le_refl _, Nat.le_refl _⟩ ?_
             refine aw_if_ne (tgt := 18) eX11_ask_13 (by decide) bt_r (fun hh => have h64 := bt1 hh; ?_) (fun hh => have h64 := bt0 hh; ?_)
             · first
               | (exfalso; omega; done)
               | (refine aw_blk oX11_ask_18 (pc' := 23) (ls' := [_, _, _, _]) (st' := [_, _, _]) (cs := []) rfl trivial ?_
                  refine aw_ciS (rest := []) (c_X11_between (by omega) (by omega) (by omega)) kX11_between eX11_ask_23 lX11_ask_23 rfl rfl (Nat.le_of_ble_eq_true rfl) ⟨Nat.le_of_ble_eq_true rfl, Nat.le_of_ble_eq_true rfl⟩ ⟨Nat.le_refl _, Nat.le_refl _⟩ ?_
                  refine aw_if_ne (tgt := 32) eX11_ask_26 (by decide) bt_r (fun hh => have h65 := bt1 hh; ?_) (fun hh => have h65 := bt0 hh; ?_)
                  · first
                    | (exfalso; omega; done)
                    | (refine aw_blk oX11_ask_32 (pc' := 39) (ls' := [_, _, _, _]) (st' := [_, _, _, _]) (cs := []) rfl trivial ?_
                       refine aw_ciV (rest := []) (c_changeAsks (by omega) (by omega)) kX10_changeAsks eX11_ask_39 lX11_ask_39 rfl rfl rfl rfl (Nat.le_of_ble_eq_true rfl) ⟨Nat.le_of_ble_eq_true rfl, Nat.le_of_ble_eq_true rfl⟩ ⟨Nat.le_refl _, Nat.le_refl _⟩ ?_
                       refine aw_iret eX11_ask_42 rfl (Nat.le_refl _) (Nat.le_refl _) ?_
                       exact pe_i rfl rfl rfl)
                  · first
                    | (exfalso; omega; done)
                    | (refine aw_blk oX11_ask_29 (pc' := 31) (ls' := [_, _, _, _]) (st' := [_]) (cs := []) rfl trivial ?_
                       refine aw_iret eX11_ask_31 rfl (Nat.le_refl _) (Nat.le_refl _) ?_
                       exact pe_i rfl rfl rfl))
             · first
               | (exfalso; omega; done)
               | (refine aw_blk oX11_ask_16 (pc' := 17) (ls' := [_, _, _, _]) (st' := [_]) (cs := []) rfl trivial ?_
                  refine aw_iret eX11_ask_17 rfl (Nat.le_refl _) (Nat.le_refl _) ?_
                  exact pe_i rfl rfl rfl))
      · refine AMet.of kX12_ask.1 (Nat.le_of_ble_eq_true rfl) rfl ?_
        refine aw_blk oX12_ask_0 (pc' := 1) (ls' := [_, _, _, _, _]) (st' := [_]) (cs := []) rfl trivial ?_
        refine aw_ciS (rest := []) (c_X12_isTown (by omega)) kX12_isTown eX12_ask_1 lX12_ask_1 rfl rfl (Nat.le_of_ble_eq_true rfl) ⟨Nat.le_of_ble_eq_true rfl, Nat.le_of_ble_eq_true rfl⟩ ⟨Nat.le_refl _, Nat.le_refl _⟩ ?_
        refine aw_if_eq (tgt := 14) eX12_ask_4 (by decide) bt_r (fun hh => have h66 := bt0 hh; ?_) (fun hh => have h66 := bt1 hh; ?_)
        · first
          | (exfalso; omega; done)
          | (refine aw_blk oX12_ask_14 (pc' := 15) (ls' := [_, _, _, _, _]) (st' := [_]) (cs := []) rfl trivial ?_
             refine aw_iret eX12_ask_15 rfl (Nat.le_refl _) (Nat.le_refl _) ?_
             exact pe_i rfl rfl rfl)
        · first
          | (exfalso; omega; done)
          | (refine aw_blk oX12_ask_7 (pc' := 8) (ls' := [_, _, _, _, _]) (st' := [_]) (cs := []) rfl trivial ?_
             refine aw_ciS (rest := []) (c_X12_isFilm (by omega)) kX12_isFilm eX12_ask_8 lX12_ask_8 rfl rfl (Nat.le_of_ble_eq_true rfl) ⟨Nat.le_of_ble_eq_true rfl, Nat.le_of_ble_eq_true rfl⟩ ⟨Nat.le_refl _, Nat.le_refl _⟩ ?_
             refine aw_if_ne (tgt := 16) eX12_ask_11 (by decide) bt_r (fun hh => have h67 := bt1 hh; ?_) (fun hh => have h67 := bt0 hh; ?_)
             · first
               | (exfalso; omega; done)
               | (refine aw_blk oX12_ask_16 (pc' := 21) (ls' := [_, _, _, _, _]) (st' := [_, _, _]) (cs := []) rfl trivial ?_
                  refine aw_ciS (rest := []) (c_X12_in (by omega) (by omega) (by omega)) kX12_in eX12_ask_21 lX12_ask_21 rfl rfl (Nat.le_of_ble_eq_true rfl) ⟨Nat.le_of_ble_eq_true rfl, Nat.le_of_ble_eq_true rfl⟩ ⟨Nat.le_refl _, Nat.le_refl _⟩ ?_
                  refine aw_if_ne (tgt := 30) eX12_ask_24 (by decide) bt_r (fun hh => have h68 := bt1 hh; ?_) (fun hh => have h68 := bt0 hh; ?_)
                  · first
                    | (exfalso; omega; done)
                    | (refine aw_blk oX12_ask_30 (pc' := 57) (ls' := [_, _, _, _, _]) (st' := [_]) (cs := [(_, _), (_, _)]) rfl (⟨⟨by omega, by omega⟩, ⟨by omega, by omega⟩, trivial⟩) ?_
                       refine aw_iret eX12_ask_57 rfl (Nat.le_refl _) (Nat.le_refl _) ?_
                       exact pe_i rfl rfl rfl)
                  · first
                    | (exfalso; omega; done)
                    | (refine aw_blk oX12_ask_27 (pc' := 29) (ls' := [_, _, _, _, _]) (st' := [_]) (cs := []) rfl trivial ?_
                       refine aw_iret eX12_ask_29 rfl (Nat.le_refl _) (Nat.le_refl _) ?_
                       exact pe_i rfl rfl rfl))
             · first
               | (exfalso; omega; done)
               | (refine aw_blk oX12_ask_14 (pc' := 15) (ls' := [_, _, _, _, _]) (st' := [_]) (cs := []) rfl trivial ?_
                  refine aw_iret eX12_ask_15 rfl (Nat.le_refl _) (Nat.le_refl _) ?_
                  exact pe_i rfl rfl rfl))
  · refine ⟨-1, μ, μ, ?_, ?_, by decide, h, SR.rf⟩
    · refine AMet.of kX11_ask.1 (Nat.le_of_ble_eq_true rfl) rfl ?_
      refine aw_blk oX11_ask_0 (pc' := 3) (ls' := [_, _, _, _]) (st' := [_, _, _]) (cs := []) rfl trivial ?_
      refine aw_ciS (rest := []) (c_X11_between (by omega) (by omega) (by omega)) kX11_between eX11_ask_3 lX11_ask_3 rfl rfl (Nat.le_of_ble_eq_true rfl) ⟨Nat.le_of_ble_eq_true rfl, Nat.le_of_ble_eq_true rfl⟩ ⟨Nat.le_refl _, Nat.le_refl _⟩ ?_
      refine aw_if_eq (tgt := 16) eX11_ask_6 (by decide) bt_r (fun hh => have h69 := bt0 hh; ?_) (fun hh => have h69 := bt1 hh; ?_)
      · first
        | (exfalso; omega; done)
        | (refine aw_blk oX11_ask_16 (pc' := 17) (ls' := [_, _, _, _]) (st' := [_]) (cs := []) rfl trivial ?_
           refine aw_iret eX11_ask_17 rfl (Nat.le_refl _) (Nat.le_refl _) ?_
           exact pe_i rfl rfl rfl)
      · first
        | (exfalso; omega; done)
        | (refine aw_blk oX11_ask_9 (pc' := 10) (ls' := [_, _, _, _]) (st' := [_]) (cs := []) rfl trivial ?_
           refine aw_ciS (rest := []) (c_X11_isFilm (by omega)) kX11_isFilm eX11_ask_10 lX11_ask_10 rfl rfl (Nat.le_of_ble_eq_true rfl) ⟨Nat.le_of_ble_eq_true rfl, Nat.le_of_ble_eq_true rfl⟩ ⟨Nat.le_refl _, Nat.le_refl _⟩ ?_
           refine aw_if_ne (tgt := 18) eX11_ask_13 (by decide) bt_r (fun hh => have h70 := bt1 hh; ?_) (fun hh => have h70 := bt0 hh; ?_)
           · first
             | (exfalso; omega; done)
             | (refine aw_blk oX11_ask_18 (pc' := 23) (ls' := [_, _, _, _]) (st' := [_, _, _]) (cs := []) rfl trivial ?_
                refine aw_ciS (rest := []) (c_X11_between (by omega) (by omega) (by omega)) kX11_between eX11_ask_23 lX11_ask_23 rfl rfl (Nat.le_of_ble_eq_true rfl) ⟨Nat.le_of_ble_eq_true rfl, Nat.le_of_ble_eq_true rfl⟩ ⟨Nat.le_refl _, Nat.le_refl _⟩ ?_
                refine aw_if_ne (tgt := 32) eX11_ask_26 (by decide) bt_r (fun hh => have h71 := bt1 hh; ?_) (fun hh => have h71 := bt0 hh; ?_)
                · first
                  | (exfalso; omega; done)
                  | (refine aw_blk oX11_ask_32 (pc' := 39) (ls' := [_, _, _, _]) (st' := [_, _, _, _]) (cs := []) rfl trivial ?_
                     refine aw_ciV (rest := []) (c_changeAsks (by omega) (by omega)) kX10_changeAsks eX11_ask_39 lX11_ask_39 rfl rfl rfl rfl (Nat.le_of_ble_eq_true rfl) ⟨Nat.le_of_ble_eq_true rfl, Nat.le_of_ble_eq_true rfl⟩ ⟨Nat.le_refl _, Nat.le_refl _⟩ ?_
                     refine aw_iret eX11_ask_42 rfl (Nat.le_refl _) (Nat.le_refl _) ?_
                     exact pe_i rfl rfl rfl)
                · first
                  | (exfalso; omega; done)
                  | (refine aw_blk oX11_ask_29 (pc' := 31) (ls' := [_, _, _, _]) (st' := [_]) (cs := []) rfl trivial ?_
                     refine aw_iret eX11_ask_31 rfl (Nat.le_refl _) (Nat.le_refl _) ?_
                     exact pe_i rfl rfl rfl))
           · first
             | (exfalso; omega; done)
             | (refine aw_blk oX11_ask_16 (pc' := 17) (ls' := [_, _, _, _]) (st' := [_]) (cs := []) rfl trivial ?_
                refine aw_iret eX11_ask_17 rfl (Nat.le_refl _) (Nat.le_refl _) ?_
                exact pe_i rfl rfl rfl))
    · refine AMet.of kX12_ask.1 (Nat.le_of_ble_eq_true rfl) rfl ?_
      refine aw_blk oX12_ask_0 (pc' := 1) (ls' := [_, _, _, _, _]) (st' := [_]) (cs := []) rfl trivial ?_
      refine aw_ciS (rest := []) (c_X12_isTown (by omega)) kX12_isTown eX12_ask_1 lX12_ask_1 rfl rfl (Nat.le_of_ble_eq_true rfl) ⟨Nat.le_of_ble_eq_true rfl, Nat.le_of_ble_eq_true rfl⟩ ⟨Nat.le_refl _, Nat.le_refl _⟩ ?_
      refine aw_if_eq (tgt := 14) eX12_ask_4 (by decide) bt_r (fun hh => have h72 := bt0 hh; ?_) (fun hh => have h72 := bt1 hh; ?_)
      · first
        | (exfalso; omega; done)
        | (refine aw_blk oX12_ask_14 (pc' := 15) (ls' := [_, _, _, _, _]) (st' := [_]) (cs := []) rfl trivial ?_
           refine aw_iret eX12_ask_15 rfl (Nat.le_refl _) (Nat.le_refl _) ?_
           exact pe_i rfl rfl rfl)
      · first
        | (exfalso; omega; done)
        | (refine aw_blk oX12_ask_7 (pc' := 8) (ls' := [_, _, _, _, _]) (st' := [_]) (cs := []) rfl trivial ?_
           refine aw_ciS (rest := []) (c_X12_isFilm (by omega)) kX12_isFilm eX12_ask_8 lX12_ask_8 rfl rfl (Nat.le_of_ble_eq_true rfl) ⟨Nat.le_of_ble_eq_true rfl, Nat.le_of_ble_eq_true rfl⟩ ⟨Nat.le_refl _, Nat.le_refl _⟩ ?_
           refine aw_if_ne (tgt := 16) eX12_ask_11 (by decide) bt_r (fun hh => have h73 := bt1 hh; ?_) (fun hh => have h73 := bt0 hh; ?_)
           · first
             | (exfalso; omega; done)
             | (refine aw_blk oX12_ask_16 (pc' := 21) (ls' := [_, _, _, _, _]) (st' := [_, _, _]) (cs := []) rfl trivial ?_
                refine aw_ciS (rest := []) (c_X12_in (by omega) (by omega) (by omega)) kX12_in eX12_ask_21 lX12_ask_21 rfl rfl (Nat.le_of_ble_eq_true rfl) ⟨Nat.le_of_ble_eq_true rfl, Nat.le_of_ble_eq_true rfl⟩ ⟨Nat.le_refl _, Nat.le_refl _⟩ ?_
                refine aw_if_ne (tgt := 30) eX12_ask_24 (by decide) bt_r (fun hh => have h74 := bt1 hh; ?_) (fun hh => have h74 := bt0 hh; ?_)
                · first
                  | (exfalso; omega; done)
                  | (refine aw_blk oX12_ask_30 (pc' := 57) (ls' := [_, _, _, _, _]) (st' := [_]) (cs := [(_, _), (_, _)]) rfl (⟨⟨by omega, by omega⟩, ⟨by omega, by omega⟩, trivial⟩) ?_
                     refine aw_iret eX12_ask_57 rfl (Nat.le_refl _) (Nat.le_refl _) ?_
                     exact pe_i rfl rfl rfl)
                · first
                  | (exfalso; omega; done)
                  | (refine aw_blk oX12_ask_27 (pc' := 29) (ls' := [_, _, _, _, _]) (st' := [_]) (cs := []) rfl trivial ?_
                     refine aw_iret eX12_ask_29 rfl (Nat.le_refl _) (Nat.le_refl _) ?_
                     exact pe_i rfl rfl rfl))
           · first
             | (exfalso; omega; done)
             | (refine aw_blk oX12_ask_14 (pc' := 15) (ls' := [_, _, _, _, _]) (st' := [_]) (cs := []) rfl trivial ?_
                refine aw_iret eX12_ask_15 rfl (Nat.le_refl _) (Nat.le_refl _) ?_
                exact pe_i rfl rfl rfl))
/-! KEPT: the best of 64 sets, tried in order -/
def bfS (w c : Int → Int) (room : Int) (s : Int × Int × Int) (x : Int) : Int × Int × Int := if w x ≤ room ∧ (c x < s.2.2 ∨ c x = s.2.2 ∧ w x < s.2.1) then (x, w x, c x) else s
def bf (w c : Int → Int) (room : Int) : Nat → Int × Int × Int
  | 0 => (0, w 0, c 0)
  | n + 1 => bfS w c room (bf w c room n) ((n : Int) + 1)
theorem bf_inv {w c : Int → Int} {room : Int} : ∀ (n : Nat) (b bw bc : Int), bf w c room n = (b, bw, bc) → 0 ≤ b ∧ b ≤ n ∧ bw = w b ∧ bc = c b
  | 0, b, bw, bc, h => by
    simp only [bf, Prod.mk.injEq] at h
    obtain ⟨rfl, rfl, rfl⟩ := h
    simp
  | n + 1, b, bw, bc, h => by
    cases hb : bf w c room n with
    | mk b2 q =>
      obtain ⟨w2, c2⟩ := q
      have ih := bf_inv n b2 w2 c2 hb
      simp only [bf, hb, bfS] at h
      split at h
      · simp only [Prod.mk.injEq] at h
        obtain ⟨rfl, rfl, rfl⟩ := h
        refine ⟨by omega, by omega, rfl, rfl⟩
      · simp only [Prod.mk.injEq] at h
        obtain ⟨rfl, rfl, rfl⟩ := h
        exact ⟨ih.1, by omega, ih.2.2⟩
theorem wgt_bd {w : Int → Int} (h : ∀ k : Int, 0 ≤ k → k < 6 → 1 ≤ w k ∧ w k ≤ 50) (f : Int) : 0 ≤ wgt w f ∧ wgt w f ≤ 300 := by
  have := sm_bd (g := fun k => bitk f k * w k) (B := 50) 6 (fun k hk => by
    have h1 := h k (by omega) (by omega)
    rcases bitk01 f k with e | e <;> simp only [e] <;> omega)
  exact ⟨this.1, by have := this.2; simp at this; exact this⟩
theorem cst_bd {a : Int → Int} {far t : Int} (ht : 0 ≤ t ∧ t < 4) (hf : 0 ≤ far ∧ far ≤ 100) (h : ∀ i : Int, 0 ≤ i → i < 24 → 0 ≤ a i ∧ a i ≤ 1000) (f : Int) : 0 ≤ cst a far t f ∧ cst a far t f ≤ 600000 := by
  have := sm_bd (g := fun k => if bitk f k = 0 then a (t * 6 + k) else 0) (B := 1000) 6 (fun k hk => by
    have h1 := h (t * 6 + k) (by omega) (by omega)
    split <;> omega)
  unfold cst
  generalize sm (fun k => if bitk f k = 0 then a (t * 6 + k) else 0) 6 = q at this
  simp at this
  refine ⟨Int.mul_nonneg this.1 hf.1, ?_⟩
  calc q * far ≤ 6000 * far := Int.mul_le_mul_of_nonneg_right (by omega) hf.1
    _ ≤ 600000 := by omega
theorem wgt0 {w : Int → Int} : wgt w 0 = 0 := by
  have e : ∀ k : Nat, k < 6 → bitk 0 (k : Int) = 0 := by decide
  unfold wgt
  rw [sm_congr (h := fun _ => 0) 6 (fun k hk => by rw [e k hk]; simp)]
  rfl
theorem oth_eq {μ : MM} (h : RT μ) {t : Int} (ht : 0 ≤ t ∧ t < 4) (f : Int) : sm (fun k => (1 - bitk f k) * μ 66 (6 * t + k) * μ 64 t) 6 = cst (μ 37) (μ 35 t) t f := by
  unfold cst
  rw [sm_mul]
  refine sm_congr 6 (fun k hk => ?_)
  have h4 := h.2.2.2 (6 * t + k) (by omega) (by omega)
  have h2 := h.2.1 t (by omega) (by omega)
  rw [h4.1, h2.1, show 6 * t + (k : Int) = t * 6 + k by omega]
  rcases bitk01 f k with e | e <;> rw [e] <;> simp
theorem wgt_eq {μ : MM} (h : RT μ) (f : Int) : wgt (μ 65) f = wgt (μ 36) f := by
  refine sm_congr 6 (fun k hk => ?_)
  rw [(h.2.2.1 k (by omega) (by omega)).1]
theorem l_bestFilms {κ : KX} {μ : MM} {ν : ML} {t : Int} (h : RT μ) (ht : 0 ≤ t ∧ t < 4) (n : Nat) : ∀ (k : Nat) (b bw bc : Int) (u6 u7 : AV), k + n = 63 → bf (wgt (μ 36)) (cst (μ 37) (μ 35 t) t) (μ 34 t) k = (b, bw, bc) → AX κ mX10_bestFilms 1 (PE (some (aI (bf (wgt (μ 36)) (cst (μ 37) (μ 35 t) t) (μ 34 t) 63).1)) μ ν) 15 [aR 33, aI t, aI b, aI bw, aI bc, aI ((k : Int) + 1), u6, u7] [] μ ν := by
  induction n with
  | zero =>
    intro k b bw bc u6 u7 hk hb
    have e : k = 63 := by omega
    subst e
    refine aw_blk oX10_bestFilms_15 (pc' := 19) (ls' := [_, _, _, _, _, _, _, _]) (st' := [_, _]) (cs := []) rfl trivial ?_
    refine aw_icmp_ge (tgt := 86) eX10_bestFilms_19 (by decide) (by omega) (by omega) (fun h1 => ?_) (fun h1 => ?_)
    · refine aw_blk oX10_bestFilms_86 (pc' := 87) (ls' := [_, _, _, _, _, _, _, _]) (st' := [_]) (cs := []) rfl trivial ?_
      refine aw_iret eX10_bestFilms_87 rfl (Nat.le_refl _) (Nat.le_refl _) ?_
      exact pe_i (by rw [hb]) rfl rfl
    · exfalso; omega
  | succ n ih =>
    intro k b bw bc u6 u7 hk hb
    have hi := bf_inv k b bw bc hb
    have hw := wgt_bd (fun k h0 h1 => (h.2.2.1 k h0 h1).2) ((k : Int) + 1)
    have hc := cst_bd ht (h.2.1 t ht.1 ht.2).2 (fun k h0 h1 => (h.2.2.2 k h0 h1).2) ((k : Int) + 1)
    have hwb := wgt_bd (fun k h0 h1 => (h.2.2.1 k h0 h1).2) b
    have hcb := cst_bd ht (h.2.1 t ht.1 ht.2).2 (fun k h0 h1 => (h.2.2.2 k h0 h1).2) b
    rw [← hi.2.2.1] at hwb
    rw [← hi.2.2.2] at hcb
    have hr := (h.1 t ht.1 ht.2).2
    have hst : bf (wgt (μ 36)) (cst (μ 37) (μ 35 t) t) (μ 34 t) (k + 1) = bfS (wgt (μ 36)) (cst (μ 37) (μ 35 t) t) (μ 34 t) (b, bw, bc) ((k : Int) + 1) := by rw [← hb]; rfl
    unfold bfS at hst
    dsimp only at hst
    refine aw_blk oX10_bestFilms_15 (pc' := 19) (ls' := [_, _, _, _, _, _, _, _]) (st' := [_, _]) (cs := []) rfl trivial ?_
    refine aw_icmp_ge (tgt := 86) eX10_bestFilms_19 (by decide) (by omega) (by omega) (fun h1 => ?_) (fun h1 => ?_)
    · exfalso; omega
    · refine aw_blk oX10_bestFilms_22 (pc' := 25) (ls' := [_, _, _, _, _, _, _, _]) (st' := [_, _]) (cs := []) rfl trivial ?_
      refine aw_ciV (rest := []) (c_weightOf (by omega)) kX10_weightOf eX10_bestFilms_25 lX10_bestFilms_25 rfl rfl rfl rfl (Nat.le_of_ble_eq_true rfl) ⟨Nat.le_of_ble_eq_true rfl, Nat.le_of_ble_eq_true rfl⟩ ⟨Nat.le_refl _, Nat.le_refl _⟩ ?_
      refine aw_blk oX10_bestFilms_28 (pc' := 38) (ls' := [_, _, _, _, _, _, _, _]) (st' := [_, _]) (cs := [(_, _)]) rfl (⟨⟨by omega, by omega⟩, trivial⟩) ?_
      refine aw_icmp_gt (tgt := 80) eX10_bestFilms_38 (by decide) (by omega) (by omega) (fun h2 => ?_) (fun h2 => ?_)
      · refine aw_blk oX10_bestFilms_80 (pc' := 15) (ls' := [_, _, _, _, _, _, _, _]) (st' := []) (cs := []) rfl trivial ?_
        rw [if_neg (by omega)] at hst
        exact ih (k + 1) b bw bc _ _ (by omega) hst
      · refine aw_blk oX10_bestFilms_41 (pc' := 45) (ls' := [_, _, _, _, _, _, _, _]) (st' := [_, _, _]) (cs := []) rfl trivial ?_
        refine aw_ciV (rest := []) (c_costOf ht) kX10_costOf eX10_bestFilms_45 lX10_bestFilms_45 rfl rfl rfl rfl (Nat.le_of_ble_eq_true rfl) ⟨Nat.le_of_ble_eq_true rfl, Nat.le_of_ble_eq_true rfl⟩ ⟨Nat.le_refl _, Nat.le_refl _⟩ ?_
        refine aw_blk oX10_bestFilms_48 (pc' := 54) (ls' := [_, _, _, _, _, _, _, _]) (st' := [_, _]) (cs := []) rfl trivial ?_
        refine aw_icmp_lt (tgt := 70) eX10_bestFilms_54 (by decide) (by omega) (by omega) (fun h3 => ?_) (fun h3 => ?_)
        · refine aw_blk oX10_bestFilms_70 (pc' := 80) (ls' := [_, _, _, _, _, _, _, _]) (st' := []) (cs := []) rfl trivial ?_
          refine aw_blk oX10_bestFilms_80 (pc' := 15) (ls' := [_, _, _, _, _, _, _, _]) (st' := []) (cs := []) rfl trivial ?_
          rw [if_pos (by omega)] at hst
          exact ih (k + 1) _ _ _ _ _ (by omega) hst
        · refine aw_blk oX10_bestFilms_57 (pc' := 61) (ls' := [_, _, _, _, _, _, _, _]) (st' := [_, _]) (cs := []) rfl trivial ?_
          refine aw_icmp_ne (tgt := 80) eX10_bestFilms_61 (by decide) (by omega) (by omega) (fun h4 => ?_) (fun h4 => ?_)
          · refine aw_blk oX10_bestFilms_80 (pc' := 15) (ls' := [_, _, _, _, _, _, _, _]) (st' := []) (cs := []) rfl trivial ?_
            rw [if_neg (by omega)] at hst
            exact ih (k + 1) b bw bc _ _ (by omega) hst
          · refine aw_blk oX10_bestFilms_64 (pc' := 67) (ls' := [_, _, _, _, _, _, _, _]) (st' := [_, _]) (cs := []) rfl trivial ?_
            refine aw_icmp_ge (tgt := 80) eX10_bestFilms_67 (by decide) (by omega) (by omega) (fun h5 => ?_) (fun h5 => ?_)
            · refine aw_blk oX10_bestFilms_80 (pc' := 15) (ls' := [_, _, _, _, _, _, _, _]) (st' := []) (cs := []) rfl trivial ?_
              rw [if_neg (by omega)] at hst
              exact ih (k + 1) b bw bc _ _ (by omega) hst
            · refine aw_blk oX10_bestFilms_70 (pc' := 80) (ls' := [_, _, _, _, _, _, _, _]) (st' := []) (cs := []) rfl trivial ?_
              refine aw_blk oX10_bestFilms_80 (pc' := 15) (ls' := [_, _, _, _, _, _, _, _]) (st' := []) (cs := []) rfl trivial ?_
              rw [if_pos (by omega)] at hst
              exact ih (k + 1) _ _ _ _ _ (by omega) hst
theorem c_bestFilms {κ : KX} {μ : MM} {ν : ML} {t : Int} (h : RT μ) (ht : 0 ≤ t ∧ t < 4) : AE κ 1 mX10_bestFilms [aR 33, aI t] μ ν (some (aI (bf (wgt (μ 36)) (cst (μ 37) (μ 35 t) t) (μ 34 t) 63).1)) μ ν := by
  refine AMet.of kX10_bestFilms.1 (Nat.le_of_ble_eq_true rfl) rfl ?_
  refine aw_blk oX10_bestFilms_0 (pc' := 7) (ls' := [_, _, _, _, _, _, _, _]) (st' := [_, _, _]) (cs := []) rfl trivial ?_
  refine aw_ciV (rest := []) (c_costOf ht) kX10_costOf eX10_bestFilms_7 lX10_bestFilms_7 rfl rfl rfl rfl (Nat.le_of_ble_eq_true rfl) ⟨Nat.le_of_ble_eq_true rfl, Nat.le_of_ble_eq_true rfl⟩ ⟨Nat.le_refl _, Nat.le_refl _⟩ ?_
  refine aw_blk oX10_bestFilms_10 (pc' := 15) (ls' := [_, _, _, _, _, _, _, _]) (st' := []) (cs := []) rfl trivial ?_
  exact l_bestFilms h ht 63 0 _ _ _ _ _ rfl (by simp only [bf, wgt0])
theorem l_keptIn {κ : KX} {μ : MM} {ν : ML} {P : Option AV → List SH → MM → ML → Prop} {t what best least light set : Int} (ht : 0 ≤ t ∧ t < 4) (n : Nat) : ∀ k : Nat, k + n = 6 → AX κ mX12_kept 60 P 116 [aR 55, aI t, aI what, aI best, aI least, aI light, aI set, aI (wgt (μ 65) set), aI (sm (fun k => (1 - bitk set k) * μ 66 (6 * t + k) * μ 64 t) 6), aI 6] [] μ ν → AX κ mX12_kept 60 P 49 [aR 55, aI t, aI what, aI best, aI least, aI light, aI set, aI (sm (fun k => bitk set k * μ 65 k) k), aI (sm (fun k => (1 - bitk set k) * μ 66 (6 * t + k) * μ 64 t) k), aI k] [] μ ν := by
  induction n with
  | zero =>
    intro k hk K
    have e : k = 6 := by omega
    subst e
    refine aw_blk oX12_kept_49 (pc' := 53) (ls' := [_, _, _, _, _, _, _, _, _, _]) (st' := [_, _]) (cs := []) rfl trivial ?_
    refine aw_icmp_ge (tgt := 116) eX12_kept_53 (by decide) (by omega) (by omega) (fun h => ?_) (fun h => ?_)
    · exact K
    · exfalso; omega
  | succ n ih =>
    intro k hk K
    refine aw_blk oX12_kept_49 (pc' := 53) (ls' := [_, _, _, _, _, _, _, _, _, _]) (st' := [_, _]) (cs := []) rfl trivial ?_
    refine aw_icmp_ge (tgt := 116) eX12_kept_53 (by decide) (by omega) (by omega) (fun h => ?_) (fun h => ?_)
    · exfalso; omega
    · refine aw_blk oX12_kept_56 (pc' := 49) (ls' := [_, _, _, _, _, _, _, _, _, _]) (st' := []) (cs := [(_, _), (_, _), (_, _)]) rfl (⟨⟨by omega, by omega⟩, ⟨by omega, by omega⟩, ⟨by omega, by omega⟩, trivial⟩) ?_
      exact ih (k + 1) (by omega) K
theorem l_kept {κ : KX} {μ : MM} {ν : ML} {t what : Int} (h : RT μ) (ht : 0 ≤ t ∧ t < 4) (hw : what = 0 ∨ what = 1) (n : Nat) : ∀ (k : Nat) (best least light : Int) (u7 u8 u9 : AV), k + n = 64 → ((k = 0 ∧ best = -6 ∧ least = 0 ∧ light = 0) ∨ ∃ j, k = j + 1 ∧ bf (wgt (μ 36)) (cst (μ 37) (μ 35 t) t) (μ 34 t) j = (best, light, least)) → AX κ mX12_kept 60 (PE (some (aI (if what = 0 then (bf (wgt (μ 36)) (cst (μ 37) (μ 35 t) t) (μ 34 t) 63).1 else (bf (wgt (μ 36)) (cst (μ 37) (μ 35 t) t) (μ 34 t) 63).2.2))) μ ν) 33 [aR 55, aI t, aI what, aI best, aI least, aI light, aI k, u7, u8, u9] [] μ ν := by
  induction n with
  | zero =>
    intro k best least light u7 u8 u9 hk hb
    have e : k = 64 := by omega
    subst e
    rcases hb with hb | ⟨j, hj, hb⟩
    · exfalso; omega
    have e : j = 63 := by omega
    subst e
    refine aw_blk oX12_kept_33 (pc' := 37) (ls' := [_, _, _, _, _, _, _, _, _, _]) (st' := [_, _]) (cs := []) rfl trivial ?_
    refine aw_icmp_ge (tgt := 169) eX12_kept_37 (by decide) (by omega) (by omega) (fun h1 => ?_) (fun h1 => ?_)
    · refine aw_blk oX12_kept_169 (pc' := 170) (ls' := [_, _, _, _, _, _, _, _, _, _]) (st' := [_]) (cs := []) rfl trivial ?_
      refine aw_if_ne (tgt := 177) eX12_kept_170 (by decide) (by omega) (fun h2 => ?_) (fun h2 => ?_)
      · refine aw_blk oX12_kept_177 (pc' := 179) (ls' := [_, _, _, _, _, _, _, _, _, _]) (st' := [_]) (cs := []) rfl trivial ?_
        refine aw_iret eX12_kept_179 rfl (Nat.le_refl _) (Nat.le_refl _) ?_
        exact pe_i (by rw [if_neg h2, hb]) rfl rfl
      · refine aw_blk oX12_kept_173 (pc' := 179) (ls' := [_, _, _, _, _, _, _, _, _, _]) (st' := [_]) (cs := []) rfl trivial ?_
        refine aw_iret eX12_kept_179 rfl (Nat.le_refl _) (Nat.le_refl _) ?_
        exact pe_i (by rw [if_pos h2, hb]) rfl rfl
    · exfalso; omega
  | succ n ih =>
    intro k best least light u7 u8 u9 hk hb
    have hwk := wgt_bd (fun k h0 h1 => (h.2.2.1 k h0 h1).2) (k : Int)
    have hck := cst_bd ht (h.2.1 t ht.1 ht.2).2 (fun k h0 h1 => (h.2.2.2 k h0 h1).2) (k : Int)
    have hr := h.1 t ht.1 ht.2
    have hbd : R32 best ∧ R32 least ∧ R32 light ∧ (k = 0 → best < 0) ∧ (0 < k → 0 ≤ best) := by
      rcases hb with ⟨rfl, rfl, rfl, rfl⟩ | ⟨j, rfl, hb⟩
      · decide
      · have hi := bf_inv j _ _ _ hb
        have hwb := wgt_bd (fun k h0 h1 => (h.2.2.1 k h0 h1).2) best
        have hcb := cst_bd ht (h.2.1 t ht.1 ht.2).2 (fun k h0 h1 => (h.2.2.2 k h0 h1).2) best
        rw [← hi.2.2.1] at hwb
        rw [← hi.2.2.2] at hcb
        omega
    have hst : ∀ b2 l2 g2 : Int, (b2, g2, l2) = (if wgt (μ 36) k ≤ μ 34 t ∧ (best < 0 ∨ cst (μ 37) (μ 35 t) t k < least ∨ cst (μ 37) (μ 35 t) t k = least ∧ wgt (μ 36) k < light) then ((k : Int), wgt (μ 36) k, cst (μ 37) (μ 35 t) t k) else (best, light, least)) → bf (wgt (μ 36)) (cst (μ 37) (μ 35 t) t) (μ 34 t) k = (b2, g2, l2) := by
      intro b2 l2 g2 he
      rw [he]
      rcases hb with ⟨rfl, rfl, rfl, rfl⟩ | ⟨j, rfl, hb⟩
      · rw [if_pos]
        · rfl
        · have : wgt (μ 36) 0 = 0 := wgt0
          refine ⟨?_, Or.inl (by decide)⟩
          show wgt (μ 36) 0 ≤ _
          omega
      · have h0 : ¬ best < 0 := by omega
        show bfS _ _ _ (bf _ _ _ j) _ = _
        rw [hb]
        simp only [bfS, h0, false_or]
        rfl
    refine aw_blk oX12_kept_33 (pc' := 37) (ls' := [_, _, _, _, _, _, _, _, _, _]) (st' := [_, _]) (cs := []) rfl trivial ?_
    refine aw_icmp_ge (tgt := 169) eX12_kept_37 (by decide) (by omega) (by omega) (fun h1 => ?_) (fun h1 => ?_)
    · exfalso; omega
    · refine aw_blk oX12_kept_40 (pc' := 49) (ls' := [_, _, _, _, _, _, _, _, _, _]) (st' := []) (cs := []) rfl trivial ?_
      refine l_keptIn ht 6 0 rfl ?_
      rw [oth_eq h ht, wgt_eq h]
      refine aw_blk oX12_kept_116 (pc' := 124) (ls' := [_, _, _, _, _, _, _, _, _, _]) (st' := [_, _]) (cs := [(_, _)]) rfl (⟨⟨by omega, by omega⟩, trivial⟩) ?_
      refine aw_icmp_gt (tgt := 163) eX12_kept_124 (by decide) (by omega) (by omega) (fun h2 => ?_) (fun h2 => ?_)
      · refine aw_blk oX12_kept_163 (pc' := 33) (ls' := [_, _, _, _, _, _, _, _, _, _]) (st' := []) (cs := []) rfl trivial ?_
        refine ih (k + 1) best least light _ _ _ (by omega) (Or.inr ⟨k, rfl, hst _ _ _ ?_⟩)
        rw [if_neg (by omega)]
      · refine aw_blk oX12_kept_127 (pc' := 128) (ls' := [_, _, _, _, _, _, _, _, _, _]) (st' := [_]) (cs := []) rfl trivial ?_
        refine aw_if_lt (tgt := 152) eX12_kept_128 (by decide) (by omega) (fun h3 => ?_) (fun h3 => ?_)
        · refine aw_blk oX12_kept_152 (pc' := 163) (ls' := [_, _, _, _, _, _, _, _, _, _]) (st' := []) (cs := []) rfl trivial ?_
          refine aw_blk oX12_kept_163 (pc' := 33) (ls' := [_, _, _, _, _, _, _, _, _, _]) (st' := []) (cs := []) rfl trivial ?_
          refine ih (k + 1) _ _ _ _ _ _ (by omega) (Or.inr ⟨k, rfl, hst _ _ _ ?_⟩)
          rw [if_pos (by omega)]
        · refine aw_blk oX12_kept_131 (pc' := 135) (ls' := [_, _, _, _, _, _, _, _, _, _]) (st' := [_, _]) (cs := []) rfl trivial ?_
          refine aw_icmp_lt (tgt := 152) eX12_kept_135 (by decide) (by omega) (by omega) (fun h4 => ?_) (fun h4 => ?_)
          · refine aw_blk oX12_kept_152 (pc' := 163) (ls' := [_, _, _, _, _, _, _, _, _, _]) (st' := []) (cs := []) rfl trivial ?_
            refine aw_blk oX12_kept_163 (pc' := 33) (ls' := [_, _, _, _, _, _, _, _, _, _]) (st' := []) (cs := []) rfl trivial ?_
            refine ih (k + 1) _ _ _ _ _ _ (by omega) (Or.inr ⟨k, rfl, hst _ _ _ ?_⟩)
            rw [if_pos (by omega)]
          · refine aw_blk oX12_kept_138 (pc' := 142) (ls' := [_, _, _, _, _, _, _, _, _, _]) (st' := [_, _]) (cs := []) rfl trivial ?_
            refine aw_icmp_ne (tgt := 163) eX12_kept_142 (by decide) (by omega) (by omega) (fun h5 => ?_) (fun h5 => ?_)
            · refine aw_blk oX12_kept_163 (pc' := 33) (ls' := [_, _, _, _, _, _, _, _, _, _]) (st' := []) (cs := []) rfl trivial ?_
              refine ih (k + 1) best least light _ _ _ (by omega) (Or.inr ⟨k, rfl, hst _ _ _ ?_⟩)
              rw [if_neg (by omega)]
            · refine aw_blk oX12_kept_145 (pc' := 149) (ls' := [_, _, _, _, _, _, _, _, _, _]) (st' := [_, _]) (cs := []) rfl trivial ?_
              refine aw_icmp_ge (tgt := 163) eX12_kept_149 (by decide) (by omega) (by omega) (fun h6 => ?_) (fun h6 => ?_)
              · refine aw_blk oX12_kept_163 (pc' := 33) (ls' := [_, _, _, _, _, _, _, _, _, _]) (st' := []) (cs := []) rfl trivial ?_
                refine ih (k + 1) best least light _ _ _ (by omega) (Or.inr ⟨k, rfl, hst _ _ _ ?_⟩)
                rw [if_neg (by omega)]
              · refine aw_blk oX12_kept_152 (pc' := 163) (ls' := [_, _, _, _, _, _, _, _, _, _]) (st' := []) (cs := []) rfl trivial ?_
                refine aw_blk oX12_kept_163 (pc' := 33) (ls' := [_, _, _, _, _, _, _, _, _, _]) (st' := []) (cs := []) rfl trivial ?_
                refine ih (k + 1) _ _ _ _ _ _ (by omega) (Or.inr ⟨k, rfl, hst _ _ _ ?_⟩)
                rw [if_pos (by omega)]
theorem law_kept {κ : KX} {μ : MM} {ν : ML} {t w : Int} (h : RT μ) (ht : R32 t) (hw : R32 w) : LawM RT csT κ mX11_kept mX12_kept [aI t, aI w] μ ν := by
  by_cases c1 : 0 ≤ t ∧ t ≤ 3
  · by_cases c2 : 0 ≤ w ∧ w ≤ 1
    · rcases hb : bf (wgt (μ 36)) (cst (μ 37) (μ 35 t) t) (μ 34 t) 63 with ⟨b, bw, bc⟩
      have hi := bf_inv 63 b bw bc hb
      have hcb := cst_bd (t := t) (by omega) (h.2.1 t (by omega) (by omega)).2 (fun k h0 h1 => (h.2.2.2 k h0 h1).2) b
      rw [← hi.2.2.2] at hcb
      have e1 : (bf (wgt (μ 36)) (cst (μ 37) (μ 35 t) t) (μ 34 t) 63).1 = b := by rw [hb]
      refine ⟨if w = 0 then b else bc, μ, μ, ?_, ?_, by split <;> omega, h, SR.rf⟩
      · skip
        refine AMet.of kX11_kept.1 (Nat.le_of_ble_eq_true rfl) rfl ?_
        refine aw_blk oX11_kept_0 (pc' := 3) (ls' := [_, _, _, _]) (st' := [_, _, _]) (cs := []) rfl trivial ?_
        refine aw_ciS (rest := []) (c_X11_between (by omega) (by omega) (by omega)) kX11_between eX11_kept_3 lX11_kept_3 rfl rfl (Nat.le_of_ble_eq_true rfl) ⟨Nat.le_of_ble_eq_true rfl, Nat.le_of_ble_eq_true rfl⟩ ⟨Nat.le_refl _, Nat.le_refl _⟩ ?_
        refine aw_if_ne (tgt := 11) eX11_kept_6 (by decide) bt_r (fun hh => have h75 := bt1 hh; ?_) (fun hh => have h75 := bt0 hh; ?_)
        · first
          | (exfalso; omega; done)
          | (refine aw_blk oX11_kept_11 (pc' := 14) (ls' := [_, _, _, _]) (st' := [_, _, _]) (cs := []) rfl trivial ?_
             refine aw_ciS (rest := []) (c_X11_between (by omega) (by omega) (by omega)) kX11_between eX11_kept_14 lX11_kept_14 rfl rfl (Nat.le_of_ble_eq_true rfl) ⟨Nat.le_of_ble_eq_true rfl, Nat.le_of_ble_eq_true rfl⟩ ⟨Nat.le_refl _, Nat.le_refl _⟩ ?_
             refine aw_if_ne (tgt := 23) eX11_kept_17 (by decide) bt_r (fun hh => have h76 := bt1 hh; ?_) (fun hh => have h76 := bt0 hh; ?_)
             · first
               | (exfalso; omega; done)
               | (refine aw_blk oX11_kept_23 (pc' := 28) (ls' := [_, _, _, _]) (st' := [_, _]) (cs := []) rfl trivial ?_
                  refine aw_ciV (rest := []) (c_bestFilms h (by omega)) kX10_bestFilms eX11_kept_28 lX11_kept_28 rfl rfl rfl rfl (Nat.le_of_ble_eq_true rfl) ⟨Nat.le_of_ble_eq_true rfl, Nat.le_of_ble_eq_true rfl⟩ ⟨Nat.le_refl _, Nat.le_refl _⟩ ?_
                  refine aw_blk oX11_kept_31 (pc' := 33) (ls' := [_, _, _, _]) (st' := [_]) (cs := []) rfl trivial ?_
                  refine aw_if_ne (tgt := 40) eX11_kept_33 (by decide) (by omega) (fun h77 => ?_) (fun h77 => ?_)
                  · first
                    | (exfalso; omega; done)
                    | (refine aw_blk oX11_kept_40 (pc' := 46) (ls' := [_, _, _, _]) (st' := [_, _, _]) (cs := []) rfl trivial ?_
                       refine aw_ciV (rest := []) (c_costOf (by omega)) kX10_costOf eX11_kept_46 lX11_kept_46 rfl rfl rfl rfl (Nat.le_of_ble_eq_true rfl) ⟨Nat.le_of_ble_eq_true rfl, Nat.le_of_ble_eq_true rfl⟩ ⟨Nat.le_refl _, Nat.le_refl _⟩ ?_
                       refine aw_iret eX11_kept_49 rfl (Nat.le_refl _) (Nat.le_refl _) ?_
                       exact pe_i (by first | (rw [if_pos (by omega)]; exact e1) | (rw [if_neg (by omega), hi.2.2.2, e1])) rfl rfl)
                  · first
                    | (exfalso; omega; done)
                    | (refine aw_blk oX11_kept_36 (pc' := 49) (ls' := [_, _, _, _]) (st' := [_]) (cs := []) rfl trivial ?_
                       refine aw_iret eX11_kept_49 rfl (Nat.le_refl _) (Nat.le_refl _) ?_
                       exact pe_i (by first | (rw [if_pos (by omega)]; exact e1) | (rw [if_neg (by omega), hi.2.2.2, e1])) rfl rfl))
             · first
               | (exfalso; omega; done)
               | (refine aw_blk oX11_kept_20 (pc' := 22) (ls' := [_, _, _, _]) (st' := [_]) (cs := []) rfl trivial ?_
                  refine aw_iret eX11_kept_22 rfl (Nat.le_refl _) (Nat.le_refl _) ?_
                  exact pe_i (by first | (rw [if_pos (by omega)]; exact e1) | (rw [if_neg (by omega), hi.2.2.2, e1])) rfl rfl))
        · first
          | (exfalso; omega; done)
          | (refine aw_blk oX11_kept_9 (pc' := 10) (ls' := [_, _, _, _]) (st' := [_]) (cs := []) rfl trivial ?_
             refine aw_iret eX11_kept_10 rfl (Nat.le_refl _) (Nat.le_refl _) ?_
             exact pe_i (by first | (rw [if_pos (by omega)]; exact e1) | (rw [if_neg (by omega), hi.2.2.2, e1])) rfl rfl)
      · have := l_kept (κ := κ) (ν := ν) h (t := t) (what := w) (by omega) (by omega) 64 0 (-6) 0 0 aU aU aU rfl (Or.inl ⟨rfl, rfl, rfl, rfl⟩)
        rw [hb] at this
        refine AMet.of kX12_kept.1 (Nat.le_of_ble_eq_true rfl) rfl ?_
        refine aw_blk oX12_kept_0 (pc' := 1) (ls' := [_, _, _, _, _, _, _, _, _, _]) (st' := [_]) (cs := []) rfl trivial ?_
        refine aw_ciS (rest := []) (c_X12_isTown (by omega)) kX12_isTown eX12_kept_1 lX12_kept_1 rfl rfl (Nat.le_of_ble_eq_true rfl) ⟨Nat.le_of_ble_eq_true rfl, Nat.le_of_ble_eq_true rfl⟩ ⟨Nat.le_refl _, Nat.le_refl _⟩ ?_
        refine aw_if_ne (tgt := 9) eX12_kept_4 (by decide) bt_r (fun hh => have h78 := bt1 hh; ?_) (fun hh => have h78 := bt0 hh; ?_)
        · first
          | (exfalso; omega; done)
          | (refine aw_blk oX12_kept_9 (pc' := 12) (ls' := [_, _, _, _, _, _, _, _, _, _]) (st' := [_, _, _]) (cs := []) rfl trivial ?_
             refine aw_ciS (rest := []) (c_X12_in (by omega) (by omega) (by omega)) kX12_in eX12_kept_12 lX12_kept_12 rfl rfl (Nat.le_of_ble_eq_true rfl) ⟨Nat.le_of_ble_eq_true rfl, Nat.le_of_ble_eq_true rfl⟩ ⟨Nat.le_refl _, Nat.le_refl _⟩ ?_
             refine aw_if_ne (tgt := 21) eX12_kept_15 (by decide) bt_r (fun hh => have h79 := bt1 hh; ?_) (fun hh => have h79 := bt0 hh; ?_)
             · first
               | (exfalso; omega; done)
               | (refine aw_blk oX12_kept_21 (pc' := 33) (ls' := [_, _, _, _, _, _, _, _, _, _]) (st' := []) (cs := []) rfl trivial ?_
                  exact this)
             · first
               | (exfalso; omega; done)
               | (refine aw_blk oX12_kept_18 (pc' := 20) (ls' := [_, _, _, _, _, _, _, _, _, _]) (st' := [_]) (cs := []) rfl trivial ?_
                  refine aw_iret eX12_kept_20 rfl (Nat.le_refl _) (Nat.le_refl _) ?_
                  skip))
        · first
          | (exfalso; omega; done)
          | (refine aw_blk oX12_kept_7 (pc' := 8) (ls' := [_, _, _, _, _, _, _, _, _, _]) (st' := [_]) (cs := []) rfl trivial ?_
             refine aw_iret eX12_kept_8 rfl (Nat.le_refl _) (Nat.le_refl _) ?_
             skip)
    · refine ⟨-2, μ, μ, ?_, ?_, by decide, h, SR.rf⟩
      · refine AMet.of kX11_kept.1 (Nat.le_of_ble_eq_true rfl) rfl ?_
        refine aw_blk oX11_kept_0 (pc' := 3) (ls' := [_, _, _, _]) (st' := [_, _, _]) (cs := []) rfl trivial ?_
        refine aw_ciS (rest := []) (c_X11_between (by omega) (by omega) (by omega)) kX11_between eX11_kept_3 lX11_kept_3 rfl rfl (Nat.le_of_ble_eq_true rfl) ⟨Nat.le_of_ble_eq_true rfl, Nat.le_of_ble_eq_true rfl⟩ ⟨Nat.le_refl _, Nat.le_refl _⟩ ?_
        refine aw_if_ne (tgt := 11) eX11_kept_6 (by decide) bt_r (fun hh => have h80 := bt1 hh; ?_) (fun hh => have h80 := bt0 hh; ?_)
        · first
          | (exfalso; omega; done)
          | (refine aw_blk oX11_kept_11 (pc' := 14) (ls' := [_, _, _, _]) (st' := [_, _, _]) (cs := []) rfl trivial ?_
             refine aw_ciS (rest := []) (c_X11_between (by omega) (by omega) (by omega)) kX11_between eX11_kept_14 lX11_kept_14 rfl rfl (Nat.le_of_ble_eq_true rfl) ⟨Nat.le_of_ble_eq_true rfl, Nat.le_of_ble_eq_true rfl⟩ ⟨Nat.le_refl _, Nat.le_refl _⟩ ?_
             refine aw_if_ne (tgt := 23) eX11_kept_17 (by decide) bt_r (fun hh => have h81 := bt1 hh; ?_) (fun hh => have h81 := bt0 hh; ?_)
             · first
               | (exfalso; omega; done)
               | (refine aw_blk oX11_kept_23 (pc' := 28) (ls' := [_, _, _, _]) (st' := [_, _]) (cs := []) rfl trivial ?_
                  refine aw_ciV (rest := []) (c_bestFilms h (by omega)) kX10_bestFilms eX11_kept_28 lX11_kept_28 rfl rfl rfl rfl (Nat.le_of_ble_eq_true rfl) ⟨Nat.le_of_ble_eq_true rfl, Nat.le_of_ble_eq_true rfl⟩ ⟨Nat.le_refl _, Nat.le_refl _⟩ ?_
                  refine aw_blk oX11_kept_31 (pc' := 33) (ls' := [_, _, _, _]) (st' := [_]) (cs := []) rfl trivial ?_
                  skip)
             · first
               | (exfalso; omega; done)
               | (refine aw_blk oX11_kept_20 (pc' := 22) (ls' := [_, _, _, _]) (st' := [_]) (cs := []) rfl trivial ?_
                  refine aw_iret eX11_kept_22 rfl (Nat.le_refl _) (Nat.le_refl _) ?_
                  exact pe_i rfl rfl rfl))
        · first
          | (exfalso; omega; done)
          | (refine aw_blk oX11_kept_9 (pc' := 10) (ls' := [_, _, _, _]) (st' := [_]) (cs := []) rfl trivial ?_
             refine aw_iret eX11_kept_10 rfl (Nat.le_refl _) (Nat.le_refl _) ?_
             exact pe_i rfl rfl rfl)
      · refine AMet.of kX12_kept.1 (Nat.le_of_ble_eq_true rfl) rfl ?_
        refine aw_blk oX12_kept_0 (pc' := 1) (ls' := [_, _, _, _, _, _, _, _, _, _]) (st' := [_]) (cs := []) rfl trivial ?_
        refine aw_ciS (rest := []) (c_X12_isTown (by omega)) kX12_isTown eX12_kept_1 lX12_kept_1 rfl rfl (Nat.le_of_ble_eq_true rfl) ⟨Nat.le_of_ble_eq_true rfl, Nat.le_of_ble_eq_true rfl⟩ ⟨Nat.le_refl _, Nat.le_refl _⟩ ?_
        refine aw_if_ne (tgt := 9) eX12_kept_4 (by decide) bt_r (fun hh => have h82 := bt1 hh; ?_) (fun hh => have h82 := bt0 hh; ?_)
        · first
          | (exfalso; omega; done)
          | (refine aw_blk oX12_kept_9 (pc' := 12) (ls' := [_, _, _, _, _, _, _, _, _, _]) (st' := [_, _, _]) (cs := []) rfl trivial ?_
             refine aw_ciS (rest := []) (c_X12_in (by omega) (by omega) (by omega)) kX12_in eX12_kept_12 lX12_kept_12 rfl rfl (Nat.le_of_ble_eq_true rfl) ⟨Nat.le_of_ble_eq_true rfl, Nat.le_of_ble_eq_true rfl⟩ ⟨Nat.le_refl _, Nat.le_refl _⟩ ?_
             refine aw_if_ne (tgt := 21) eX12_kept_15 (by decide) bt_r (fun hh => have h83 := bt1 hh; ?_) (fun hh => have h83 := bt0 hh; ?_)
             · first
               | (exfalso; omega; done)
               | (refine aw_blk oX12_kept_21 (pc' := 33) (ls' := [_, _, _, _, _, _, _, _, _, _]) (st' := []) (cs := []) rfl trivial ?_
                  skip)
             · first
               | (exfalso; omega; done)
               | (refine aw_blk oX12_kept_18 (pc' := 20) (ls' := [_, _, _, _, _, _, _, _, _, _]) (st' := [_]) (cs := []) rfl trivial ?_
                  refine aw_iret eX12_kept_20 rfl (Nat.le_refl _) (Nat.le_refl _) ?_
                  exact pe_i rfl rfl rfl))
        · first
          | (exfalso; omega; done)
          | (refine aw_blk oX12_kept_7 (pc' := 8) (ls' := [_, _, _, _, _, _, _, _, _, _]) (st' := [_]) (cs := []) rfl trivial ?_
             refine aw_iret eX12_kept_8 rfl (Nat.le_refl _) (Nat.le_refl _) ?_
             exact pe_i rfl rfl rfl)
  · refine ⟨-1, μ, μ, ?_, ?_, by decide, h, SR.rf⟩
    · refine AMet.of kX11_kept.1 (Nat.le_of_ble_eq_true rfl) rfl ?_
      refine aw_blk oX11_kept_0 (pc' := 3) (ls' := [_, _, _, _]) (st' := [_, _, _]) (cs := []) rfl trivial ?_
      refine aw_ciS (rest := []) (c_X11_between (by omega) (by omega) (by omega)) kX11_between eX11_kept_3 lX11_kept_3 rfl rfl (Nat.le_of_ble_eq_true rfl) ⟨Nat.le_of_ble_eq_true rfl, Nat.le_of_ble_eq_true rfl⟩ ⟨Nat.le_refl _, Nat.le_refl _⟩ ?_
      refine aw_if_ne (tgt := 11) eX11_kept_6 (by decide) bt_r (fun hh => have h84 := bt1 hh; ?_) (fun hh => have h84 := bt0 hh; ?_)
      · first
        | (exfalso; omega; done)
        | (refine aw_blk oX11_kept_11 (pc' := 14) (ls' := [_, _, _, _]) (st' := [_, _, _]) (cs := []) rfl trivial ?_
           refine aw_ciS (rest := []) (c_X11_between (by omega) (by omega) (by omega)) kX11_between eX11_kept_14 lX11_kept_14 rfl rfl (Nat.le_of_ble_eq_true rfl) ⟨Nat.le_of_ble_eq_true rfl, Nat.le_of_ble_eq_true rfl⟩ ⟨Nat.le_refl _, Nat.le_refl _⟩ ?_
           refine aw_if_ne (tgt := 23) eX11_kept_17 (by decide) bt_r (fun hh => have h85 := bt1 hh; ?_) (fun hh => have h85 := bt0 hh; ?_)
           · first
             | (exfalso; omega; done)
             | (refine aw_blk oX11_kept_23 (pc' := 28) (ls' := [_, _, _, _]) (st' := [_, _]) (cs := []) rfl trivial ?_
                refine aw_ciV (rest := []) (c_bestFilms h (by omega)) kX10_bestFilms eX11_kept_28 lX11_kept_28 rfl rfl rfl rfl (Nat.le_of_ble_eq_true rfl) ⟨Nat.le_of_ble_eq_true rfl, Nat.le_of_ble_eq_true rfl⟩ ⟨Nat.le_refl _, Nat.le_refl _⟩ ?_
                refine aw_blk oX11_kept_31 (pc' := 33) (ls' := [_, _, _, _]) (st' := [_]) (cs := []) rfl trivial ?_
                skip)
           · first
             | (exfalso; omega; done)
             | (refine aw_blk oX11_kept_20 (pc' := 22) (ls' := [_, _, _, _]) (st' := [_]) (cs := []) rfl trivial ?_
                refine aw_iret eX11_kept_22 rfl (Nat.le_refl _) (Nat.le_refl _) ?_
                exact pe_i rfl rfl rfl))
      · first
        | (exfalso; omega; done)
        | (refine aw_blk oX11_kept_9 (pc' := 10) (ls' := [_, _, _, _]) (st' := [_]) (cs := []) rfl trivial ?_
           refine aw_iret eX11_kept_10 rfl (Nat.le_refl _) (Nat.le_refl _) ?_
           exact pe_i rfl rfl rfl)
    · refine AMet.of kX12_kept.1 (Nat.le_of_ble_eq_true rfl) rfl ?_
      refine aw_blk oX12_kept_0 (pc' := 1) (ls' := [_, _, _, _, _, _, _, _, _, _]) (st' := [_]) (cs := []) rfl trivial ?_
      refine aw_ciS (rest := []) (c_X12_isTown (by omega)) kX12_isTown eX12_kept_1 lX12_kept_1 rfl rfl (Nat.le_of_ble_eq_true rfl) ⟨Nat.le_of_ble_eq_true rfl, Nat.le_of_ble_eq_true rfl⟩ ⟨Nat.le_refl _, Nat.le_refl _⟩ ?_
      refine aw_if_ne (tgt := 9) eX12_kept_4 (by decide) bt_r (fun hh => have h86 := bt1 hh; ?_) (fun hh => have h86 := bt0 hh; ?_)
      · first
        | (exfalso; omega; done)
        | (refine aw_blk oX12_kept_9 (pc' := 12) (ls' := [_, _, _, _, _, _, _, _, _, _]) (st' := [_, _, _]) (cs := []) rfl trivial ?_
           refine aw_ciS (rest := []) (c_X12_in (by omega) (by omega) (by omega)) kX12_in eX12_kept_12 lX12_kept_12 rfl rfl (Nat.le_of_ble_eq_true rfl) ⟨Nat.le_of_ble_eq_true rfl, Nat.le_of_ble_eq_true rfl⟩ ⟨Nat.le_refl _, Nat.le_refl _⟩ ?_
           refine aw_if_ne (tgt := 21) eX12_kept_15 (by decide) bt_r (fun hh => have h87 := bt1 hh; ?_) (fun hh => have h87 := bt0 hh; ?_)
           · first
             | (exfalso; omega; done)
             | (refine aw_blk oX12_kept_21 (pc' := 33) (ls' := [_, _, _, _, _, _, _, _, _, _]) (st' := []) (cs := []) rfl trivial ?_
                skip)
           · first
             | (exfalso; omega; done)
             | (refine aw_blk oX12_kept_18 (pc' := 20) (ls' := [_, _, _, _, _, _, _, _, _, _]) (st' := [_]) (cs := []) rfl trivial ?_
                refine aw_iret eX12_kept_20 rfl (Nat.le_refl _) (Nat.le_refl _) ?_
                exact pe_i rfl rfl rfl))
      · first
        | (exfalso; omega; done)
        | (refine aw_blk oX12_kept_7 (pc' := 8) (ls' := [_, _, _, _, _, _, _, _, _, _]) (st' := [_]) (cs := []) rfl trivial ?_
           refine aw_iret eX12_kept_8 rfl (Nat.le_refl _) (Nat.le_refl _) ?_
           exact pe_i rfl rfl rfl)

/-! ===== set ===== -/
def LawT (κ : KX) (cx cm : MX) (As : List AV) (μ : MM) (ν : ML) : Prop := LawX (fun μ2 ν2 => ν2 = ν ∧ (μ2 = μ ∨ (RS μ2 ∧ SR [0, 1, 2, 58] μ μ2 ∧ (∀ j : Int, j ≠ 8 → μ2 2 j = μ 2 j) ∧ ((μ2 1 0 = μ 1 0 ∧ μ2 2 8 = μ 2 8) ∨ μ2 2 8 = 0) ∧ ((μ2 1 2 = μ 1 2 ∧ μ2 0 = μ 0) ∨ FG μ2)))) κ cx cm As μ ν
theorem RS.up {μ μ' : MM} {k v : Int} (h : RS μ) (h1 : stv 0 k ≤ v) (h2 : v ≤ stv 1 k) (e1 : μ' 1 = up μ 1 k v 1) (e58 : μ' 58 = up μ 58 k v 58) : RS μ' := by
  intro i h0 h7
  have g := h i h0 h7
  rw [e1, e58]
  by_cases e : i = k
  · subst e
    rw [up_at, up_at]
    exact ⟨rfl, h1, h2⟩
  · rw [up_ne (Or.inr e), up_ne (Or.inr e)]
    exact g
theorem set_0 {κ : KX} {μ : MM} {ν : ML} {v : Int} (h : RS μ) (hc : 0 ≤ μ 2 8 ∧ μ 2 8 ≤ 10) (hv : R32 v) : LawT κ mX11_set mX12_set [aI 0, aI v] μ ν := by
  have s := h 0 (by decide) (by decide)
  have v0 : stv 0 0 = 0 := rfl
  have l0 : ((stA 0).length : Int) = 7 := rfl
  have l1 : ((stA 1).length : Int) = 7 := rfl
  have v1 : stv 1 0 = 80 := rfl
  have hc' : R32 (up μ 1 0 v 2 8) := (by omega : R32 (μ 2 8))
  by_cases c1 : 0 ≤ v ∧ v ≤ 80
  · refine ⟨μ 1 0, up (up μ 1 0 v) 2 8 (mn (μ 2 8) 0), ν, up (up (up μ 1 0 v) 2 8 (mn (μ 2 8) 0)) 58 0 v, ?_, ?_, by omega, rfl, Or.inr ⟨?_, ?_, ?_, ?_, ?_⟩⟩
    · refine AMet.of kX11_set.1 (Nat.le_of_ble_eq_true rfl) rfl ?_
      refine aw_blk oX11_set_0 (pc' := 4) (ls' := [_, _, _, _]) (st' := [_, _, _]) (cs := []) rfl trivial ?_
      refine aw_ciS (rest := []) (c_X11_between (by omega) (by omega) (by omega)) kX11_between eX11_set_4 lX11_set_4 rfl rfl (Nat.le_of_ble_eq_true rfl) ⟨Nat.le_of_ble_eq_true rfl, Nat.le_of_ble_eq_true rfl⟩ ⟨Nat.le_refl _, Nat.le_refl _⟩ ?_
      refine aw_if_eq (tgt := 27) eX11_set_7 (by decide) bt_r (fun hh => have h1 := bt0 hh; ?_) (fun hh => have h1 := bt1 hh; ?_)
      · first
        | (exfalso; omega; done)
        | (refine aw_blk oX11_set_27 (pc' := 29) (ls' := [_, _, _, _]) (st' := [_]) (cs := []) rfl trivial ?_
           refine aw_iret eX11_set_29 rfl (Nat.le_refl _) (Nat.le_refl _) ?_
           exact pe_i rfl rfl rfl)
      · first
        | (exfalso; omega; done)
        | (refine aw_blk oX11_set_10 (pc' := 21) (ls' := [_, _, _, _]) (st' := [_, _, _]) (cs := [(_, _), (_, _)]) rfl (⟨⟨by omega, by omega⟩, ⟨by omega, by omega⟩, trivial⟩) ?_
           refine aw_ciS (rest := []) (c_X11_between (by omega) (by omega) (by omega)) kX11_between eX11_set_21 lX11_set_21 rfl rfl (Nat.le_of_ble_eq_true rfl) ⟨Nat.le_of_ble_eq_true rfl, Nat.le_of_ble_eq_true rfl⟩ ⟨Nat.le_refl _, Nat.le_refl _⟩ ?_
           refine aw_if_ne (tgt := 30) eX11_set_24 (by decide) bt_r (fun hh => have h2 := bt1 hh; ?_) (fun hh => have h2 := bt0 hh; ?_)
           · first
             | (exfalso; omega; done)
             | (refine aw_blk oX11_set_30 (pc' := 45) (ls' := [_, _, _, _]) (st' := [_]) (cs := [(_, _), (_, _)]) rfl (⟨⟨by omega, by omega⟩, ⟨by omega, by omega⟩, trivial⟩) ?_
                refine aw_if_ne (tgt := 56) eX11_set_45 (by decide) (by omega) (fun h3 => ?_) (fun h3 => ?_)
                · first
                  | (exfalso; omega; done)
                  | (refine aw_blk oX11_set_56 (pc' := 58) (ls' := [_, _, _, _]) (st' := [_, _]) (cs := []) rfl trivial ?_
                     refine aw_icmp_ne (tgt := 65) eX11_set_58 (by decide) (by omega) (by omega) (fun h4 => ?_) (fun h4 => ?_)
                     · first
                       | (exfalso; omega; done)
                       | (refine aw_blk oX11_set_65 (pc' := 66) (ls' := [_, _, _, _]) (st' := [_]) (cs := []) rfl trivial ?_
                          refine aw_iret eX11_set_66 rfl (Nat.le_refl _) (Nat.le_refl _) ?_
                          exact pe_i rfl rfl rfl)
                     · first
                       | (exfalso; omega; done)
                       | (refine aw_blk oX11_set_61 (pc' := 62) (ls' := [_, _, _, _]) (st' := [_]) (cs := []) rfl trivial ?_
                          refine aw_cvV (rest := []) (c_forget) kX11_forgetShows eX11_set_62 lX11_set_62 rfl rfl rfl rfl (Nat.le_of_ble_eq_true rfl) ⟨Nat.le_of_ble_eq_true rfl, Nat.le_of_ble_eq_true rfl⟩ ⟨Nat.le_refl _, Nat.le_refl _⟩ ?_
                          refine aw_blk oX11_set_65 (pc' := 66) (ls' := [_, _, _, _]) (st' := [_]) (cs := []) rfl trivial ?_
                          refine aw_iret eX11_set_66 rfl (Nat.le_refl _) (Nat.le_refl _) ?_
                          exact pe_i rfl rfl rfl))
                · first
                  | (exfalso; omega; done)
                  | (refine aw_blk oX11_set_48 (pc' := 53) (ls' := [_, _, _, _]) (st' := [_, _]) (cs := []) rfl trivial ?_
                     refine aw_cvV (rest := []) (c_forgetCuts (by omega) (by omega)) kX3_forgetCutsFrom eX11_set_53 lX11_set_53 rfl rfl rfl rfl (Nat.le_of_ble_eq_true rfl) ⟨Nat.le_of_ble_eq_true rfl, Nat.le_of_ble_eq_true rfl⟩ ⟨Nat.le_refl _, Nat.le_refl _⟩ ?_
                     refine aw_blk oX11_set_56 (pc' := 58) (ls' := [_, _, _, _]) (st' := [_, _]) (cs := []) rfl trivial ?_
                     refine aw_icmp_ne (tgt := 65) eX11_set_58 (by decide) (by omega) (by omega) (fun h5 => ?_) (fun h5 => ?_)
                     · first
                       | (exfalso; omega; done)
                       | (refine aw_blk oX11_set_65 (pc' := 66) (ls' := [_, _, _, _]) (st' := [_]) (cs := []) rfl trivial ?_
                          refine aw_iret eX11_set_66 rfl (Nat.le_refl _) (Nat.le_refl _) ?_
                          exact pe_i rfl rfl rfl)
                     · first
                       | (exfalso; omega; done)
                       | (refine aw_blk oX11_set_61 (pc' := 62) (ls' := [_, _, _, _]) (st' := [_]) (cs := []) rfl trivial ?_
                          refine aw_cvV (rest := []) (c_forget) kX11_forgetShows eX11_set_62 lX11_set_62 rfl rfl rfl rfl (Nat.le_of_ble_eq_true rfl) ⟨Nat.le_of_ble_eq_true rfl, Nat.le_of_ble_eq_true rfl⟩ ⟨Nat.le_refl _, Nat.le_refl _⟩ ?_
                          refine aw_blk oX11_set_65 (pc' := 66) (ls' := [_, _, _, _]) (st' := [_]) (cs := []) rfl trivial ?_
                          refine aw_iret eX11_set_66 rfl (Nat.le_refl _) (Nat.le_refl _) ?_
                          exact pe_i rfl rfl rfl)))
           · first
             | (exfalso; omega; done)
             | (refine aw_blk oX11_set_27 (pc' := 29) (ls' := [_, _, _, _]) (st' := [_]) (cs := []) rfl trivial ?_
                refine aw_iret eX11_set_29 rfl (Nat.le_refl _) (Nat.le_refl _) ?_
                exact pe_i rfl rfl rfl))
    · refine AMet.of kX12_set.1 (Nat.le_of_ble_eq_true rfl) rfl ?_
      refine aw_blk oX12_set_0 (pc' := 4) (ls' := [_, _, _, _, _]) (st' := [_, _, _]) (cs := []) rfl trivial ?_
      refine aw_ciS (rest := []) (c_X12_in (by omega) (by omega) (by omega)) kX12_in eX12_set_4 lX12_set_4 rfl rfl (Nat.le_of_ble_eq_true rfl) ⟨Nat.le_of_ble_eq_true rfl, Nat.le_of_ble_eq_true rfl⟩ ⟨Nat.le_refl _, Nat.le_refl _⟩ ?_
      refine aw_if_ne (tgt := 13) eX12_set_7 (by decide) bt_r (fun hh => have h6 := bt1 hh; ?_) (fun hh => have h6 := bt0 hh; ?_)
      · first
        | (exfalso; omega; done)
        | (refine aw_blk oX12_set_13 (pc' := 14) (ls' := [_, _, _, _, _]) (st' := [_]) (cs := []) rfl trivial ?_
           refine aw_if_ne (tgt := 22) eX12_set_14 (by decide) (by omega) (fun h7 => ?_) (fun h7 => ?_)
           · first
             | (exfalso; omega; done)
             | (refine aw_blk oX12_set_22 (pc' := 24) (ls' := [_, _, _, _, _]) (st' := [_, _]) (cs := []) rfl trivial ?_
                refine aw_icmp_ne (tgt := 33) eX12_set_24 (by decide) (by omega) (by omega) (fun h8 => ?_) (fun h8 => ?_)
                · first
                  | (exfalso; omega; done)
                  | (refine aw_blk oX12_set_33 (pc' := 35) (ls' := [_, _, _, _, _]) (st' := [_, _]) (cs := []) rfl trivial ?_
                     refine aw_icmp_ne (tgt := 43) eX12_set_35 (by decide) (by omega) (by omega) (fun h9 => ?_) (fun h9 => ?_)
                     · first
                       | (exfalso; omega; done)
                       | (refine aw_blk oX12_set_43 (pc' := 45) (ls' := [_, _, _, _, _]) (st' := [_, _]) (cs := []) rfl trivial ?_
                          refine aw_icmp_ne (tgt := 53) eX12_set_45 (by decide) (by omega) (by omega) (fun h10 => ?_) (fun h10 => ?_)
                          · first
                            | (exfalso; omega; done)
                            | (refine aw_blk oX12_set_53 (pc' := 55) (ls' := [_, _, _, _, _]) (st' := [_, _]) (cs := []) rfl trivial ?_
                               refine aw_icmp_ne (tgt := 63) eX12_set_55 (by decide) (by omega) (by omega) (fun h11 => ?_) (fun h11 => ?_)
                               · first
                                 | (exfalso; omega; done)
                                 | (refine aw_blk oX12_set_63 (pc' := 65) (ls' := [_, _, _, _, _]) (st' := [_, _]) (cs := []) rfl trivial ?_
                                    refine aw_icmp_ne (tgt := 74) eX12_set_65 (by decide) (by omega) (by omega) (fun h12 => ?_) (fun h12 => ?_)
                                    · first
                                      | (exfalso; omega; done)
                                      | (refine aw_blk oX12_set_74 (pc' := 76) (ls' := [_, _, _, _, _]) (st' := [_]) (cs := []) rfl trivial ?_
                                         refine aw_blk oX12_set_76 (pc' := 80) (ls' := [_, _, _, _, _]) (st' := [_, _, _]) (cs := []) rfl trivial ?_
                                         refine aw_icmp_eq (tgt := 89) eX12_set_80 (by decide) (by omega) (by omega) (fun h13 => ?_) (fun h13 => ?_)
                                         · first
                                           | (exfalso; omega; done)
                                           | (refine aw_blk oX12_set_89 (pc' := 94) (ls' := [_, _, _, _, _]) (st' := [_, _]) (cs := []) rfl trivial ?_
                                              refine aw_blk oX12_set_94 (pc' := 95) (ls' := [_, _, _, _, _]) (st' := [_, _, _]) (cs := []) rfl trivial ?_
                                              refine aw_ciS (rest := []) (c_X12_in (by omega) (by omega) (by omega)) kX12_in eX12_set_95 lX12_set_95 rfl rfl (Nat.le_of_ble_eq_true rfl) ⟨Nat.le_of_ble_eq_true rfl, Nat.le_of_ble_eq_true rfl⟩ ⟨Nat.le_refl _, Nat.le_refl _⟩ ?_
                                              refine aw_if_ne (tgt := 104) eX12_set_98 (by decide) bt_r (fun hh => have h14 := bt1 hh; ?_) (fun hh => have h14 := bt0 hh; ?_)
                                              · first
                                                | (exfalso; omega; done)
                                                | (refine aw_blk oX12_set_104 (pc' := 121) (ls' := [_, _, _, _, _]) (st' := [_]) (cs := [(_, _), (_, _)]) rfl (⟨⟨by omega, by omega⟩, ⟨by omega, by omega⟩, trivial⟩) ?_
                                                   refine aw_iret eX12_set_121 rfl (Nat.le_refl _) (Nat.le_refl _) ?_
                                                   exact pe_i s.1 rfl rfl)
                                              · first
                                                | (exfalso; omega; done)
                                                | (refine aw_blk oX12_set_101 (pc' := 103) (ls' := [_, _, _, _, _]) (st' := [_]) (cs := []) rfl trivial ?_
                                                   refine aw_iret eX12_set_103 rfl (Nat.le_refl _) (Nat.le_refl _) ?_
                                                   exact pe_i s.1 rfl rfl))
                                         · first
                                           | (exfalso; omega; done)
                                           | (refine aw_blk oX12_set_83 (pc' := 86) (ls' := [_, _, _, _, _]) (st' := [_, _, _]) (cs := []) rfl trivial ?_
                                              refine aw_icmp_ne (tgt := 93) eX12_set_86 (by decide) (by omega) (by omega) (fun h15 => ?_) (fun h15 => ?_)
                                              · first
                                                | (exfalso; omega; done)
                                                | (refine aw_blk oX12_set_93 (pc' := 94) (ls' := [_, _, _, _, _]) (st' := [_, _]) (cs := []) rfl trivial ?_
                                                   refine aw_blk oX12_set_94 (pc' := 95) (ls' := [_, _, _, _, _]) (st' := [_, _, _]) (cs := []) rfl trivial ?_
                                                   refine aw_ciS (rest := []) (c_X12_in (by omega) (by omega) (by omega)) kX12_in eX12_set_95 lX12_set_95 rfl rfl (Nat.le_of_ble_eq_true rfl) ⟨Nat.le_of_ble_eq_true rfl, Nat.le_of_ble_eq_true rfl⟩ ⟨Nat.le_refl _, Nat.le_refl _⟩ ?_
                                                   refine aw_if_ne (tgt := 104) eX12_set_98 (by decide) bt_r (fun hh => have h16 := bt1 hh; ?_) (fun hh => have h16 := bt0 hh; ?_)
                                                   · first
                                                     | (exfalso; omega; done)
                                                     | (refine aw_blk oX12_set_104 (pc' := 121) (ls' := [_, _, _, _, _]) (st' := [_]) (cs := [(_, _), (_, _)]) rfl (⟨⟨by omega, by omega⟩, ⟨by omega, by omega⟩, trivial⟩) ?_
                                                        refine aw_iret eX12_set_121 rfl (Nat.le_refl _) (Nat.le_refl _) ?_
                                                        exact pe_i s.1 rfl rfl)
                                                   · first
                                                     | (exfalso; omega; done)
                                                     | (refine aw_blk oX12_set_101 (pc' := 103) (ls' := [_, _, _, _, _]) (st' := [_]) (cs := []) rfl trivial ?_
                                                        refine aw_iret eX12_set_103 rfl (Nat.le_refl _) (Nat.le_refl _) ?_
                                                        exact pe_i s.1 rfl rfl))
                                              · first
                                                | (exfalso; omega; done)
                                                | (refine aw_blk oX12_set_89 (pc' := 94) (ls' := [_, _, _, _, _]) (st' := [_, _]) (cs := []) rfl trivial ?_
                                                   refine aw_blk oX12_set_94 (pc' := 95) (ls' := [_, _, _, _, _]) (st' := [_, _, _]) (cs := []) rfl trivial ?_
                                                   refine aw_ciS (rest := []) (c_X12_in (by omega) (by omega) (by omega)) kX12_in eX12_set_95 lX12_set_95 rfl rfl (Nat.le_of_ble_eq_true rfl) ⟨Nat.le_of_ble_eq_true rfl, Nat.le_of_ble_eq_true rfl⟩ ⟨Nat.le_refl _, Nat.le_refl _⟩ ?_
                                                   refine aw_if_ne (tgt := 104) eX12_set_98 (by decide) bt_r (fun hh => have h17 := bt1 hh; ?_) (fun hh => have h17 := bt0 hh; ?_)
                                                   · first
                                                     | (exfalso; omega; done)
                                                     | (refine aw_blk oX12_set_104 (pc' := 121) (ls' := [_, _, _, _, _]) (st' := [_]) (cs := [(_, _), (_, _)]) rfl (⟨⟨by omega, by omega⟩, ⟨by omega, by omega⟩, trivial⟩) ?_
                                                        refine aw_iret eX12_set_121 rfl (Nat.le_refl _) (Nat.le_refl _) ?_
                                                        exact pe_i s.1 rfl rfl)
                                                   · first
                                                     | (exfalso; omega; done)
                                                     | (refine aw_blk oX12_set_101 (pc' := 103) (ls' := [_, _, _, _, _]) (st' := [_]) (cs := []) rfl trivial ?_
                                                        refine aw_iret eX12_set_103 rfl (Nat.le_refl _) (Nat.le_refl _) ?_
                                                        exact pe_i s.1 rfl rfl))))
                                    · first
                                      | (exfalso; omega; done)
                                      | (refine aw_blk oX12_set_68 (pc' := 76) (ls' := [_, _, _, _, _]) (st' := [_]) (cs := []) rfl trivial ?_
                                         refine aw_blk oX12_set_76 (pc' := 80) (ls' := [_, _, _, _, _]) (st' := [_, _, _]) (cs := []) rfl trivial ?_
                                         refine aw_icmp_eq (tgt := 89) eX12_set_80 (by decide) (by omega) (by omega) (fun h18 => ?_) (fun h18 => ?_)
                                         · first
                                           | (exfalso; omega; done)
                                           | (refine aw_blk oX12_set_89 (pc' := 94) (ls' := [_, _, _, _, _]) (st' := [_, _]) (cs := []) rfl trivial ?_
                                              refine aw_blk oX12_set_94 (pc' := 95) (ls' := [_, _, _, _, _]) (st' := [_, _, _]) (cs := []) rfl trivial ?_
                                              refine aw_ciS (rest := []) (c_X12_in (by omega) (by omega) (by omega)) kX12_in eX12_set_95 lX12_set_95 rfl rfl (Nat.le_of_ble_eq_true rfl) ⟨Nat.le_of_ble_eq_true rfl, Nat.le_of_ble_eq_true rfl⟩ ⟨Nat.le_refl _, Nat.le_refl _⟩ ?_
                                              refine aw_if_ne (tgt := 104) eX12_set_98 (by decide) bt_r (fun hh => have h19 := bt1 hh; ?_) (fun hh => have h19 := bt0 hh; ?_)
                                              · first
                                                | (exfalso; omega; done)
                                                | (refine aw_blk oX12_set_104 (pc' := 121) (ls' := [_, _, _, _, _]) (st' := [_]) (cs := [(_, _), (_, _)]) rfl (⟨⟨by omega, by omega⟩, ⟨by omega, by omega⟩, trivial⟩) ?_
                                                   refine aw_iret eX12_set_121 rfl (Nat.le_refl _) (Nat.le_refl _) ?_
                                                   exact pe_i s.1 rfl rfl)
                                              · first
                                                | (exfalso; omega; done)
                                                | (refine aw_blk oX12_set_101 (pc' := 103) (ls' := [_, _, _, _, _]) (st' := [_]) (cs := []) rfl trivial ?_
                                                   refine aw_iret eX12_set_103 rfl (Nat.le_refl _) (Nat.le_refl _) ?_
                                                   exact pe_i s.1 rfl rfl))
                                         · first
                                           | (exfalso; omega; done)
                                           | (refine aw_blk oX12_set_83 (pc' := 86) (ls' := [_, _, _, _, _]) (st' := [_, _, _]) (cs := []) rfl trivial ?_
                                              refine aw_icmp_ne (tgt := 93) eX12_set_86 (by decide) (by omega) (by omega) (fun h20 => ?_) (fun h20 => ?_)
                                              · first
                                                | (exfalso; omega; done)
                                                | (refine aw_blk oX12_set_93 (pc' := 94) (ls' := [_, _, _, _, _]) (st' := [_, _]) (cs := []) rfl trivial ?_
                                                   refine aw_blk oX12_set_94 (pc' := 95) (ls' := [_, _, _, _, _]) (st' := [_, _, _]) (cs := []) rfl trivial ?_
                                                   refine aw_ciS (rest := []) (c_X12_in (by omega) (by omega) (by omega)) kX12_in eX12_set_95 lX12_set_95 rfl rfl (Nat.le_of_ble_eq_true rfl) ⟨Nat.le_of_ble_eq_true rfl, Nat.le_of_ble_eq_true rfl⟩ ⟨Nat.le_refl _, Nat.le_refl _⟩ ?_
                                                   refine aw_if_ne (tgt := 104) eX12_set_98 (by decide) bt_r (fun hh => have h21 := bt1 hh; ?_) (fun hh => have h21 := bt0 hh; ?_)
                                                   · first
                                                     | (exfalso; omega; done)
                                                     | (refine aw_blk oX12_set_104 (pc' := 121) (ls' := [_, _, _, _, _]) (st' := [_]) (cs := [(_, _), (_, _)]) rfl (⟨⟨by omega, by omega⟩, ⟨by omega, by omega⟩, trivial⟩) ?_
                                                        refine aw_iret eX12_set_121 rfl (Nat.le_refl _) (Nat.le_refl _) ?_
                                                        exact pe_i s.1 rfl rfl)
                                                   · first
                                                     | (exfalso; omega; done)
                                                     | (refine aw_blk oX12_set_101 (pc' := 103) (ls' := [_, _, _, _, _]) (st' := [_]) (cs := []) rfl trivial ?_
                                                        refine aw_iret eX12_set_103 rfl (Nat.le_refl _) (Nat.le_refl _) ?_
                                                        exact pe_i s.1 rfl rfl))
                                              · first
                                                | (exfalso; omega; done)
                                                | (refine aw_blk oX12_set_89 (pc' := 94) (ls' := [_, _, _, _, _]) (st' := [_, _]) (cs := []) rfl trivial ?_
                                                   refine aw_blk oX12_set_94 (pc' := 95) (ls' := [_, _, _, _, _]) (st' := [_, _, _]) (cs := []) rfl trivial ?_
                                                   refine aw_ciS (rest := []) (c_X12_in (by omega) (by omega) (by omega)) kX12_in eX12_set_95 lX12_set_95 rfl rfl (Nat.le_of_ble_eq_true rfl) ⟨Nat.le_of_ble_eq_true rfl, Nat.le_of_ble_eq_true rfl⟩ ⟨Nat.le_refl _, Nat.le_refl _⟩ ?_
                                                   refine aw_if_ne (tgt := 104) eX12_set_98 (by decide) bt_r (fun hh => have h22 := bt1 hh; ?_) (fun hh => have h22 := bt0 hh; ?_)
                                                   · first
                                                     | (exfalso; omega; done)
                                                     | (refine aw_blk oX12_set_104 (pc' := 121) (ls' := [_, _, _, _, _]) (st' := [_]) (cs := [(_, _), (_, _)]) rfl (⟨⟨by omega, by omega⟩, ⟨by omega, by omega⟩, trivial⟩) ?_
                                                        refine aw_iret eX12_set_121 rfl (Nat.le_refl _) (Nat.le_refl _) ?_
                                                        exact pe_i s.1 rfl rfl)
                                                   · first
                                                     | (exfalso; omega; done)
                                                     | (refine aw_blk oX12_set_101 (pc' := 103) (ls' := [_, _, _, _, _]) (st' := [_]) (cs := []) rfl trivial ?_
                                                        refine aw_iret eX12_set_103 rfl (Nat.le_refl _) (Nat.le_refl _) ?_
                                                        exact pe_i s.1 rfl rfl)))))
                               · first
                                 | (exfalso; omega; done)
                                 | (refine aw_blk oX12_set_58 (pc' := 76) (ls' := [_, _, _, _, _]) (st' := [_]) (cs := []) rfl trivial ?_
                                    refine aw_blk oX12_set_76 (pc' := 80) (ls' := [_, _, _, _, _]) (st' := [_, _, _]) (cs := []) rfl trivial ?_
                                    refine aw_icmp_eq (tgt := 89) eX12_set_80 (by decide) (by omega) (by omega) (fun h23 => ?_) (fun h23 => ?_)
                                    · first
                                      | (exfalso; omega; done)
                                      | (refine aw_blk oX12_set_89 (pc' := 94) (ls' := [_, _, _, _, _]) (st' := [_, _]) (cs := []) rfl trivial ?_
                                         refine aw_blk oX12_set_94 (pc' := 95) (ls' := [_, _, _, _, _]) (st' := [_, _, _]) (cs := []) rfl trivial ?_
                                         refine aw_ciS (rest := []) (c_X12_in (by omega) (by omega) (by omega)) kX12_in eX12_set_95 lX12_set_95 rfl rfl (Nat.le_of_ble_eq_true rfl) ⟨Nat.le_of_ble_eq_true rfl, Nat.le_of_ble_eq_true rfl⟩ ⟨Nat.le_refl _, Nat.le_refl _⟩ ?_
                                         refine aw_if_ne (tgt := 104) eX12_set_98 (by decide) bt_r (fun hh => have h24 := bt1 hh; ?_) (fun hh => have h24 := bt0 hh; ?_)
                                         · first
                                           | (exfalso; omega; done)
                                           | (refine aw_blk oX12_set_104 (pc' := 121) (ls' := [_, _, _, _, _]) (st' := [_]) (cs := [(_, _), (_, _)]) rfl (⟨⟨by omega, by omega⟩, ⟨by omega, by omega⟩, trivial⟩) ?_
                                              refine aw_iret eX12_set_121 rfl (Nat.le_refl _) (Nat.le_refl _) ?_
                                              exact pe_i s.1 rfl rfl)
                                         · first
                                           | (exfalso; omega; done)
                                           | (refine aw_blk oX12_set_101 (pc' := 103) (ls' := [_, _, _, _, _]) (st' := [_]) (cs := []) rfl trivial ?_
                                              refine aw_iret eX12_set_103 rfl (Nat.le_refl _) (Nat.le_refl _) ?_
                                              exact pe_i s.1 rfl rfl))
                                    · first
                                      | (exfalso; omega; done)
                                      | (refine aw_blk oX12_set_83 (pc' := 86) (ls' := [_, _, _, _, _]) (st' := [_, _, _]) (cs := []) rfl trivial ?_
                                         refine aw_icmp_ne (tgt := 93) eX12_set_86 (by decide) (by omega) (by omega) (fun h25 => ?_) (fun h25 => ?_)
                                         · first
                                           | (exfalso; omega; done)
                                           | (refine aw_blk oX12_set_93 (pc' := 94) (ls' := [_, _, _, _, _]) (st' := [_, _]) (cs := []) rfl trivial ?_
                                              refine aw_blk oX12_set_94 (pc' := 95) (ls' := [_, _, _, _, _]) (st' := [_, _, _]) (cs := []) rfl trivial ?_
                                              refine aw_ciS (rest := []) (c_X12_in (by omega) (by omega) (by omega)) kX12_in eX12_set_95 lX12_set_95 rfl rfl (Nat.le_of_ble_eq_true rfl) ⟨Nat.le_of_ble_eq_true rfl, Nat.le_of_ble_eq_true rfl⟩ ⟨Nat.le_refl _, Nat.le_refl _⟩ ?_
                                              refine aw_if_ne (tgt := 104) eX12_set_98 (by decide) bt_r (fun hh => have h26 := bt1 hh; ?_) (fun hh => have h26 := bt0 hh; ?_)
                                              · first
                                                | (exfalso; omega; done)
                                                | (refine aw_blk oX12_set_104 (pc' := 121) (ls' := [_, _, _, _, _]) (st' := [_]) (cs := [(_, _), (_, _)]) rfl (⟨⟨by omega, by omega⟩, ⟨by omega, by omega⟩, trivial⟩) ?_
                                                   refine aw_iret eX12_set_121 rfl (Nat.le_refl _) (Nat.le_refl _) ?_
                                                   exact pe_i s.1 rfl rfl)
                                              · first
                                                | (exfalso; omega; done)
                                                | (refine aw_blk oX12_set_101 (pc' := 103) (ls' := [_, _, _, _, _]) (st' := [_]) (cs := []) rfl trivial ?_
                                                   refine aw_iret eX12_set_103 rfl (Nat.le_refl _) (Nat.le_refl _) ?_
                                                   exact pe_i s.1 rfl rfl))
                                         · first
                                           | (exfalso; omega; done)
                                           | (refine aw_blk oX12_set_89 (pc' := 94) (ls' := [_, _, _, _, _]) (st' := [_, _]) (cs := []) rfl trivial ?_
                                              refine aw_blk oX12_set_94 (pc' := 95) (ls' := [_, _, _, _, _]) (st' := [_, _, _]) (cs := []) rfl trivial ?_
                                              refine aw_ciS (rest := []) (c_X12_in (by omega) (by omega) (by omega)) kX12_in eX12_set_95 lX12_set_95 rfl rfl (Nat.le_of_ble_eq_true rfl) ⟨Nat.le_of_ble_eq_true rfl, Nat.le_of_ble_eq_true rfl⟩ ⟨Nat.le_refl _, Nat.le_refl _⟩ ?_
                                              refine aw_if_ne (tgt := 104) eX12_set_98 (by decide) bt_r (fun hh => have h27 := bt1 hh; ?_) (fun hh => have h27 := bt0 hh; ?_)
                                              · first
                                                | (exfalso; omega; done)
                                                | (refine aw_blk oX12_set_104 (pc' := 121) (ls' := [_, _, _, _, _]) (st' := [_]) (cs := [(_, _), (_, _)]) rfl (⟨⟨by omega, by omega⟩, ⟨by omega, by omega⟩, trivial⟩) ?_
                                                   refine aw_iret eX12_set_121 rfl (Nat.le_refl _) (Nat.le_refl _) ?_
                                                   exact pe_i s.1 rfl rfl)
                                              · first
                                                | (exfalso; omega; done)
                                                | (refine aw_blk oX12_set_101 (pc' := 103) (ls' := [_, _, _, _, _]) (st' := [_]) (cs := []) rfl trivial ?_
                                                   refine aw_iret eX12_set_103 rfl (Nat.le_refl _) (Nat.le_refl _) ?_
                                                   exact pe_i s.1 rfl rfl)))))
                          · first
                            | (exfalso; omega; done)
                            | (refine aw_blk oX12_set_48 (pc' := 76) (ls' := [_, _, _, _, _]) (st' := [_]) (cs := []) rfl trivial ?_
                               refine aw_blk oX12_set_76 (pc' := 80) (ls' := [_, _, _, _, _]) (st' := [_, _, _]) (cs := []) rfl trivial ?_
                               refine aw_icmp_eq (tgt := 89) eX12_set_80 (by decide) (by omega) (by omega) (fun h28 => ?_) (fun h28 => ?_)
                               · first
                                 | (exfalso; omega; done)
                                 | (refine aw_blk oX12_set_89 (pc' := 94) (ls' := [_, _, _, _, _]) (st' := [_, _]) (cs := []) rfl trivial ?_
                                    refine aw_blk oX12_set_94 (pc' := 95) (ls' := [_, _, _, _, _]) (st' := [_, _, _]) (cs := []) rfl trivial ?_
                                    refine aw_ciS (rest := []) (c_X12_in (by omega) (by omega) (by omega)) kX12_in eX12_set_95 lX12_set_95 rfl rfl (Nat.le_of_ble_eq_true rfl) ⟨Nat.le_of_ble_eq_true rfl, Nat.le_of_ble_eq_true rfl⟩ ⟨Nat.le_refl _, Nat.le_refl _⟩ ?_
                                    refine aw_if_ne (tgt := 104) eX12_set_98 (by decide) bt_r (fun hh => have h29 := bt1 hh; ?_) (fun hh => have h29 := bt0 hh; ?_)
                                    · first
                                      | (exfalso; omega; done)
                                      | (refine aw_blk oX12_set_104 (pc' := 121) (ls' := [_, _, _, _, _]) (st' := [_]) (cs := [(_, _), (_, _)]) rfl (⟨⟨by omega, by omega⟩, ⟨by omega, by omega⟩, trivial⟩) ?_
                                         refine aw_iret eX12_set_121 rfl (Nat.le_refl _) (Nat.le_refl _) ?_
                                         exact pe_i s.1 rfl rfl)
                                    · first
                                      | (exfalso; omega; done)
                                      | (refine aw_blk oX12_set_101 (pc' := 103) (ls' := [_, _, _, _, _]) (st' := [_]) (cs := []) rfl trivial ?_
                                         refine aw_iret eX12_set_103 rfl (Nat.le_refl _) (Nat.le_refl _) ?_
                                         exact pe_i s.1 rfl rfl))
                               · first
                                 | (exfalso; omega; done)
                                 | (refine aw_blk oX12_set_83 (pc' := 86) (ls' := [_, _, _, _, _]) (st' := [_, _, _]) (cs := []) rfl trivial ?_
                                    refine aw_icmp_ne (tgt := 93) eX12_set_86 (by decide) (by omega) (by omega) (fun h30 => ?_) (fun h30 => ?_)
                                    · first
                                      | (exfalso; omega; done)
                                      | (refine aw_blk oX12_set_93 (pc' := 94) (ls' := [_, _, _, _, _]) (st' := [_, _]) (cs := []) rfl trivial ?_
                                         refine aw_blk oX12_set_94 (pc' := 95) (ls' := [_, _, _, _, _]) (st' := [_, _, _]) (cs := []) rfl trivial ?_
                                         refine aw_ciS (rest := []) (c_X12_in (by omega) (by omega) (by omega)) kX12_in eX12_set_95 lX12_set_95 rfl rfl (Nat.le_of_ble_eq_true rfl) ⟨Nat.le_of_ble_eq_true rfl, Nat.le_of_ble_eq_true rfl⟩ ⟨Nat.le_refl _, Nat.le_refl _⟩ ?_
                                         refine aw_if_ne (tgt := 104) eX12_set_98 (by decide) bt_r (fun hh => have h31 := bt1 hh; ?_) (fun hh => have h31 := bt0 hh; ?_)
                                         · first
                                           | (exfalso; omega; done)
                                           | (refine aw_blk oX12_set_104 (pc' := 121) (ls' := [_, _, _, _, _]) (st' := [_]) (cs := [(_, _), (_, _)]) rfl (⟨⟨by omega, by omega⟩, ⟨by omega, by omega⟩, trivial⟩) ?_
                                              refine aw_iret eX12_set_121 rfl (Nat.le_refl _) (Nat.le_refl _) ?_
                                              exact pe_i s.1 rfl rfl)
                                         · first
                                           | (exfalso; omega; done)
                                           | (refine aw_blk oX12_set_101 (pc' := 103) (ls' := [_, _, _, _, _]) (st' := [_]) (cs := []) rfl trivial ?_
                                              refine aw_iret eX12_set_103 rfl (Nat.le_refl _) (Nat.le_refl _) ?_
                                              exact pe_i s.1 rfl rfl))
                                    · first
                                      | (exfalso; omega; done)
                                      | (refine aw_blk oX12_set_89 (pc' := 94) (ls' := [_, _, _, _, _]) (st' := [_, _]) (cs := []) rfl trivial ?_
                                         refine aw_blk oX12_set_94 (pc' := 95) (ls' := [_, _, _, _, _]) (st' := [_, _, _]) (cs := []) rfl trivial ?_
                                         refine aw_ciS (rest := []) (c_X12_in (by omega) (by omega) (by omega)) kX12_in eX12_set_95 lX12_set_95 rfl rfl (Nat.le_of_ble_eq_true rfl) ⟨Nat.le_of_ble_eq_true rfl, Nat.le_of_ble_eq_true rfl⟩ ⟨Nat.le_refl _, Nat.le_refl _⟩ ?_
                                         refine aw_if_ne (tgt := 104) eX12_set_98 (by decide) bt_r (fun hh => have h32 := bt1 hh; ?_) (fun hh => have h32 := bt0 hh; ?_)
                                         · first
                                           | (exfalso; omega; done)
                                           | (refine aw_blk oX12_set_104 (pc' := 121) (ls' := [_, _, _, _, _]) (st' := [_]) (cs := [(_, _), (_, _)]) rfl (⟨⟨by omega, by omega⟩, ⟨by omega, by omega⟩, trivial⟩) ?_
                                              refine aw_iret eX12_set_121 rfl (Nat.le_refl _) (Nat.le_refl _) ?_
                                              exact pe_i s.1 rfl rfl)
                                         · first
                                           | (exfalso; omega; done)
                                           | (refine aw_blk oX12_set_101 (pc' := 103) (ls' := [_, _, _, _, _]) (st' := [_]) (cs := []) rfl trivial ?_
                                              refine aw_iret eX12_set_103 rfl (Nat.le_refl _) (Nat.le_refl _) ?_
                                              exact pe_i s.1 rfl rfl)))))
                     · first
                       | (exfalso; omega; done)
                       | (refine aw_blk oX12_set_38 (pc' := 76) (ls' := [_, _, _, _, _]) (st' := [_]) (cs := []) rfl trivial ?_
                          refine aw_blk oX12_set_76 (pc' := 80) (ls' := [_, _, _, _, _]) (st' := [_, _, _]) (cs := []) rfl trivial ?_
                          refine aw_icmp_eq (tgt := 89) eX12_set_80 (by decide) (by omega) (by omega) (fun h33 => ?_) (fun h33 => ?_)
                          · first
                            | (exfalso; omega; done)
                            | (refine aw_blk oX12_set_89 (pc' := 94) (ls' := [_, _, _, _, _]) (st' := [_, _]) (cs := []) rfl trivial ?_
                               refine aw_blk oX12_set_94 (pc' := 95) (ls' := [_, _, _, _, _]) (st' := [_, _, _]) (cs := []) rfl trivial ?_
                               refine aw_ciS (rest := []) (c_X12_in (by omega) (by omega) (by omega)) kX12_in eX12_set_95 lX12_set_95 rfl rfl (Nat.le_of_ble_eq_true rfl) ⟨Nat.le_of_ble_eq_true rfl, Nat.le_of_ble_eq_true rfl⟩ ⟨Nat.le_refl _, Nat.le_refl _⟩ ?_
                               refine aw_if_ne (tgt := 104) eX12_set_98 (by decide) bt_r (fun hh => have h34 := bt1 hh; ?_) (fun hh => have h34 := bt0 hh; ?_)
                               · first
                                 | (exfalso; omega; done)
                                 | (refine aw_blk oX12_set_104 (pc' := 121) (ls' := [_, _, _, _, _]) (st' := [_]) (cs := [(_, _), (_, _)]) rfl (⟨⟨by omega, by omega⟩, ⟨by omega, by omega⟩, trivial⟩) ?_
                                    refine aw_iret eX12_set_121 rfl (Nat.le_refl _) (Nat.le_refl _) ?_
                                    exact pe_i s.1 rfl rfl)
                               · first
                                 | (exfalso; omega; done)
                                 | (refine aw_blk oX12_set_101 (pc' := 103) (ls' := [_, _, _, _, _]) (st' := [_]) (cs := []) rfl trivial ?_
                                    refine aw_iret eX12_set_103 rfl (Nat.le_refl _) (Nat.le_refl _) ?_
                                    exact pe_i s.1 rfl rfl))
                          · first
                            | (exfalso; omega; done)
                            | (refine aw_blk oX12_set_83 (pc' := 86) (ls' := [_, _, _, _, _]) (st' := [_, _, _]) (cs := []) rfl trivial ?_
                               refine aw_icmp_ne (tgt := 93) eX12_set_86 (by decide) (by omega) (by omega) (fun h35 => ?_) (fun h35 => ?_)
                               · first
                                 | (exfalso; omega; done)
                                 | (refine aw_blk oX12_set_93 (pc' := 94) (ls' := [_, _, _, _, _]) (st' := [_, _]) (cs := []) rfl trivial ?_
                                    refine aw_blk oX12_set_94 (pc' := 95) (ls' := [_, _, _, _, _]) (st' := [_, _, _]) (cs := []) rfl trivial ?_
                                    refine aw_ciS (rest := []) (c_X12_in (by omega) (by omega) (by omega)) kX12_in eX12_set_95 lX12_set_95 rfl rfl (Nat.le_of_ble_eq_true rfl) ⟨Nat.le_of_ble_eq_true rfl, Nat.le_of_ble_eq_true rfl⟩ ⟨Nat.le_refl _, Nat.le_refl _⟩ ?_
                                    refine aw_if_ne (tgt := 104) eX12_set_98 (by decide) bt_r (fun hh => have h36 := bt1 hh; ?_) (fun hh => have h36 := bt0 hh; ?_)
                                    · first
                                      | (exfalso; omega; done)
                                      | (refine aw_blk oX12_set_104 (pc' := 121) (ls' := [_, _, _, _, _]) (st' := [_]) (cs := [(_, _), (_, _)]) rfl (⟨⟨by omega, by omega⟩, ⟨by omega, by omega⟩, trivial⟩) ?_
                                         refine aw_iret eX12_set_121 rfl (Nat.le_refl _) (Nat.le_refl _) ?_
                                         exact pe_i s.1 rfl rfl)
                                    · first
                                      | (exfalso; omega; done)
                                      | (refine aw_blk oX12_set_101 (pc' := 103) (ls' := [_, _, _, _, _]) (st' := [_]) (cs := []) rfl trivial ?_
                                         refine aw_iret eX12_set_103 rfl (Nat.le_refl _) (Nat.le_refl _) ?_
                                         exact pe_i s.1 rfl rfl))
                               · first
                                 | (exfalso; omega; done)
                                 | (refine aw_blk oX12_set_89 (pc' := 94) (ls' := [_, _, _, _, _]) (st' := [_, _]) (cs := []) rfl trivial ?_
                                    refine aw_blk oX12_set_94 (pc' := 95) (ls' := [_, _, _, _, _]) (st' := [_, _, _]) (cs := []) rfl trivial ?_
                                    refine aw_ciS (rest := []) (c_X12_in (by omega) (by omega) (by omega)) kX12_in eX12_set_95 lX12_set_95 rfl rfl (Nat.le_of_ble_eq_true rfl) ⟨Nat.le_of_ble_eq_true rfl, Nat.le_of_ble_eq_true rfl⟩ ⟨Nat.le_refl _, Nat.le_refl _⟩ ?_
                                    refine aw_if_ne (tgt := 104) eX12_set_98 (by decide) bt_r (fun hh => have h37 := bt1 hh; ?_) (fun hh => have h37 := bt0 hh; ?_)
                                    · first
                                      | (exfalso; omega; done)
                                      | (refine aw_blk oX12_set_104 (pc' := 121) (ls' := [_, _, _, _, _]) (st' := [_]) (cs := [(_, _), (_, _)]) rfl (⟨⟨by omega, by omega⟩, ⟨by omega, by omega⟩, trivial⟩) ?_
                                         refine aw_iret eX12_set_121 rfl (Nat.le_refl _) (Nat.le_refl _) ?_
                                         exact pe_i s.1 rfl rfl)
                                    · first
                                      | (exfalso; omega; done)
                                      | (refine aw_blk oX12_set_101 (pc' := 103) (ls' := [_, _, _, _, _]) (st' := [_]) (cs := []) rfl trivial ?_
                                         refine aw_iret eX12_set_103 rfl (Nat.le_refl _) (Nat.le_refl _) ?_
                                         exact pe_i s.1 rfl rfl)))))
                · first
                  | (exfalso; omega; done)
                  | (refine aw_blk oX12_set_27 (pc' := 76) (ls' := [_, _, _, _, _]) (st' := [_]) (cs := []) rfl trivial ?_
                     refine aw_blk oX12_set_76 (pc' := 80) (ls' := [_, _, _, _, _]) (st' := [_, _, _]) (cs := []) rfl trivial ?_
                     refine aw_icmp_eq (tgt := 89) eX12_set_80 (by decide) (by omega) (by omega) (fun h38 => ?_) (fun h38 => ?_)
                     · first
                       | (exfalso; omega; done)
                       | (refine aw_blk oX12_set_89 (pc' := 94) (ls' := [_, _, _, _, _]) (st' := [_, _]) (cs := []) rfl trivial ?_
                          refine aw_blk oX12_set_94 (pc' := 95) (ls' := [_, _, _, _, _]) (st' := [_, _, _]) (cs := []) rfl trivial ?_
                          refine aw_ciS (rest := []) (c_X12_in (by omega) (by omega) (by omega)) kX12_in eX12_set_95 lX12_set_95 rfl rfl (Nat.le_of_ble_eq_true rfl) ⟨Nat.le_of_ble_eq_true rfl, Nat.le_of_ble_eq_true rfl⟩ ⟨Nat.le_refl _, Nat.le_refl _⟩ ?_
                          refine aw_if_ne (tgt := 104) eX12_set_98 (by decide) bt_r (fun hh => have h39 := bt1 hh; ?_) (fun hh => have h39 := bt0 hh; ?_)
                          · first
                            | (exfalso; omega; done)
                            | (refine aw_blk oX12_set_104 (pc' := 121) (ls' := [_, _, _, _, _]) (st' := [_]) (cs := [(_, _), (_, _)]) rfl (⟨⟨by omega, by omega⟩, ⟨by omega, by omega⟩, trivial⟩) ?_
                               refine aw_iret eX12_set_121 rfl (Nat.le_refl _) (Nat.le_refl _) ?_
                               exact pe_i s.1 rfl rfl)
                          · first
                            | (exfalso; omega; done)
                            | (refine aw_blk oX12_set_101 (pc' := 103) (ls' := [_, _, _, _, _]) (st' := [_]) (cs := []) rfl trivial ?_
                               refine aw_iret eX12_set_103 rfl (Nat.le_refl _) (Nat.le_refl _) ?_
                               exact pe_i s.1 rfl rfl))
                     · first
                       | (exfalso; omega; done)
                       | (refine aw_blk oX12_set_83 (pc' := 86) (ls' := [_, _, _, _, _]) (st' := [_, _, _]) (cs := []) rfl trivial ?_
                          refine aw_icmp_ne (tgt := 93) eX12_set_86 (by decide) (by omega) (by omega) (fun h40 => ?_) (fun h40 => ?_)
                          · first
                            | (exfalso; omega; done)
                            | (refine aw_blk oX12_set_93 (pc' := 94) (ls' := [_, _, _, _, _]) (st' := [_, _]) (cs := []) rfl trivial ?_
                               refine aw_blk oX12_set_94 (pc' := 95) (ls' := [_, _, _, _, _]) (st' := [_, _, _]) (cs := []) rfl trivial ?_
                               refine aw_ciS (rest := []) (c_X12_in (by omega) (by omega) (by omega)) kX12_in eX12_set_95 lX12_set_95 rfl rfl (Nat.le_of_ble_eq_true rfl) ⟨Nat.le_of_ble_eq_true rfl, Nat.le_of_ble_eq_true rfl⟩ ⟨Nat.le_refl _, Nat.le_refl _⟩ ?_
                               refine aw_if_ne (tgt := 104) eX12_set_98 (by decide) bt_r (fun hh => have h41 := bt1 hh; ?_) (fun hh => have h41 := bt0 hh; ?_)
                               · first
                                 | (exfalso; omega; done)
                                 | (refine aw_blk oX12_set_104 (pc' := 121) (ls' := [_, _, _, _, _]) (st' := [_]) (cs := [(_, _), (_, _)]) rfl (⟨⟨by omega, by omega⟩, ⟨by omega, by omega⟩, trivial⟩) ?_
                                    refine aw_iret eX12_set_121 rfl (Nat.le_refl _) (Nat.le_refl _) ?_
                                    exact pe_i s.1 rfl rfl)
                               · first
                                 | (exfalso; omega; done)
                                 | (refine aw_blk oX12_set_101 (pc' := 103) (ls' := [_, _, _, _, _]) (st' := [_]) (cs := []) rfl trivial ?_
                                    refine aw_iret eX12_set_103 rfl (Nat.le_refl _) (Nat.le_refl _) ?_
                                    exact pe_i s.1 rfl rfl))
                          · first
                            | (exfalso; omega; done)
                            | (refine aw_blk oX12_set_89 (pc' := 94) (ls' := [_, _, _, _, _]) (st' := [_, _]) (cs := []) rfl trivial ?_
                               refine aw_blk oX12_set_94 (pc' := 95) (ls' := [_, _, _, _, _]) (st' := [_, _, _]) (cs := []) rfl trivial ?_
                               refine aw_ciS (rest := []) (c_X12_in (by omega) (by omega) (by omega)) kX12_in eX12_set_95 lX12_set_95 rfl rfl (Nat.le_of_ble_eq_true rfl) ⟨Nat.le_of_ble_eq_true rfl, Nat.le_of_ble_eq_true rfl⟩ ⟨Nat.le_refl _, Nat.le_refl _⟩ ?_
                               refine aw_if_ne (tgt := 104) eX12_set_98 (by decide) bt_r (fun hh => have h42 := bt1 hh; ?_) (fun hh => have h42 := bt0 hh; ?_)
                               · first
                                 | (exfalso; omega; done)
                                 | (refine aw_blk oX12_set_104 (pc' := 121) (ls' := [_, _, _, _, _]) (st' := [_]) (cs := [(_, _), (_, _)]) rfl (⟨⟨by omega, by omega⟩, ⟨by omega, by omega⟩, trivial⟩) ?_
                                    refine aw_iret eX12_set_121 rfl (Nat.le_refl _) (Nat.le_refl _) ?_
                                    exact pe_i s.1 rfl rfl)
                               · first
                                 | (exfalso; omega; done)
                                 | (refine aw_blk oX12_set_101 (pc' := 103) (ls' := [_, _, _, _, _]) (st' := [_]) (cs := []) rfl trivial ?_
                                    refine aw_iret eX12_set_103 rfl (Nat.le_refl _) (Nat.le_refl _) ?_
                                    exact pe_i s.1 rfl rfl)))))
           · first
             | (exfalso; omega; done)
             | (refine aw_blk oX12_set_17 (pc' := 76) (ls' := [_, _, _, _, _]) (st' := [_]) (cs := []) rfl trivial ?_
                refine aw_blk oX12_set_76 (pc' := 80) (ls' := [_, _, _, _, _]) (st' := [_, _, _]) (cs := []) rfl trivial ?_
                refine aw_icmp_eq (tgt := 89) eX12_set_80 (by decide) (by omega) (by omega) (fun h43 => ?_) (fun h43 => ?_)
                · first
                  | (exfalso; omega; done)
                  | (refine aw_blk oX12_set_89 (pc' := 94) (ls' := [_, _, _, _, _]) (st' := [_, _]) (cs := []) rfl trivial ?_
                     refine aw_blk oX12_set_94 (pc' := 95) (ls' := [_, _, _, _, _]) (st' := [_, _, _]) (cs := []) rfl trivial ?_
                     refine aw_ciS (rest := []) (c_X12_in (by omega) (by omega) (by omega)) kX12_in eX12_set_95 lX12_set_95 rfl rfl (Nat.le_of_ble_eq_true rfl) ⟨Nat.le_of_ble_eq_true rfl, Nat.le_of_ble_eq_true rfl⟩ ⟨Nat.le_refl _, Nat.le_refl _⟩ ?_
                     refine aw_if_ne (tgt := 104) eX12_set_98 (by decide) bt_r (fun hh => have h44 := bt1 hh; ?_) (fun hh => have h44 := bt0 hh; ?_)
                     · first
                       | (exfalso; omega; done)
                       | (refine aw_blk oX12_set_104 (pc' := 121) (ls' := [_, _, _, _, _]) (st' := [_]) (cs := [(_, _), (_, _)]) rfl (⟨⟨by omega, by omega⟩, ⟨by omega, by omega⟩, trivial⟩) ?_
                          refine aw_iret eX12_set_121 rfl (Nat.le_refl _) (Nat.le_refl _) ?_
                          exact pe_i s.1 rfl rfl)
                     · first
                       | (exfalso; omega; done)
                       | (refine aw_blk oX12_set_101 (pc' := 103) (ls' := [_, _, _, _, _]) (st' := [_]) (cs := []) rfl trivial ?_
                          refine aw_iret eX12_set_103 rfl (Nat.le_refl _) (Nat.le_refl _) ?_
                          exact pe_i s.1 rfl rfl))
                · first
                  | (exfalso; omega; done)
                  | (refine aw_blk oX12_set_83 (pc' := 86) (ls' := [_, _, _, _, _]) (st' := [_, _, _]) (cs := []) rfl trivial ?_
                     refine aw_icmp_ne (tgt := 93) eX12_set_86 (by decide) (by omega) (by omega) (fun h45 => ?_) (fun h45 => ?_)
                     · first
                       | (exfalso; omega; done)
                       | (refine aw_blk oX12_set_93 (pc' := 94) (ls' := [_, _, _, _, _]) (st' := [_, _]) (cs := []) rfl trivial ?_
                          refine aw_blk oX12_set_94 (pc' := 95) (ls' := [_, _, _, _, _]) (st' := [_, _, _]) (cs := []) rfl trivial ?_
                          refine aw_ciS (rest := []) (c_X12_in (by omega) (by omega) (by omega)) kX12_in eX12_set_95 lX12_set_95 rfl rfl (Nat.le_of_ble_eq_true rfl) ⟨Nat.le_of_ble_eq_true rfl, Nat.le_of_ble_eq_true rfl⟩ ⟨Nat.le_refl _, Nat.le_refl _⟩ ?_
                          refine aw_if_ne (tgt := 104) eX12_set_98 (by decide) bt_r (fun hh => have h46 := bt1 hh; ?_) (fun hh => have h46 := bt0 hh; ?_)
                          · first
                            | (exfalso; omega; done)
                            | (refine aw_blk oX12_set_104 (pc' := 121) (ls' := [_, _, _, _, _]) (st' := [_]) (cs := [(_, _), (_, _)]) rfl (⟨⟨by omega, by omega⟩, ⟨by omega, by omega⟩, trivial⟩) ?_
                               refine aw_iret eX12_set_121 rfl (Nat.le_refl _) (Nat.le_refl _) ?_
                               exact pe_i s.1 rfl rfl)
                          · first
                            | (exfalso; omega; done)
                            | (refine aw_blk oX12_set_101 (pc' := 103) (ls' := [_, _, _, _, _]) (st' := [_]) (cs := []) rfl trivial ?_
                               refine aw_iret eX12_set_103 rfl (Nat.le_refl _) (Nat.le_refl _) ?_
                               exact pe_i s.1 rfl rfl))
                     · first
                       | (exfalso; omega; done)
                       | (refine aw_blk oX12_set_89 (pc' := 94) (ls' := [_, _, _, _, _]) (st' := [_, _]) (cs := []) rfl trivial ?_
                          refine aw_blk oX12_set_94 (pc' := 95) (ls' := [_, _, _, _, _]) (st' := [_, _, _]) (cs := []) rfl trivial ?_
                          refine aw_ciS (rest := []) (c_X12_in (by omega) (by omega) (by omega)) kX12_in eX12_set_95 lX12_set_95 rfl rfl (Nat.le_of_ble_eq_true rfl) ⟨Nat.le_of_ble_eq_true rfl, Nat.le_of_ble_eq_true rfl⟩ ⟨Nat.le_refl _, Nat.le_refl _⟩ ?_
                          refine aw_if_ne (tgt := 104) eX12_set_98 (by decide) bt_r (fun hh => have h47 := bt1 hh; ?_) (fun hh => have h47 := bt0 hh; ?_)
                          · first
                            | (exfalso; omega; done)
                            | (refine aw_blk oX12_set_104 (pc' := 121) (ls' := [_, _, _, _, _]) (st' := [_]) (cs := [(_, _), (_, _)]) rfl (⟨⟨by omega, by omega⟩, ⟨by omega, by omega⟩, trivial⟩) ?_
                               refine aw_iret eX12_set_121 rfl (Nat.le_refl _) (Nat.le_refl _) ?_
                               exact pe_i s.1 rfl rfl)
                          · first
                            | (exfalso; omega; done)
                            | (refine aw_blk oX12_set_101 (pc' := 103) (ls' := [_, _, _, _, _]) (st' := [_]) (cs := []) rfl trivial ?_
                               refine aw_iret eX12_set_103 rfl (Nat.le_refl _) (Nat.le_refl _) ?_
                               exact pe_i s.1 rfl rfl)))))
      · first
        | (exfalso; omega; done)
        | (refine aw_blk oX12_set_10 (pc' := 12) (ls' := [_, _, _, _, _]) (st' := [_]) (cs := []) rfl trivial ?_
           refine aw_iret eX12_set_12 rfl (Nat.le_refl _) (Nat.le_refl _) ?_
           exact pe_i s.1 rfl rfl)
    · exact h.up (k := 0) (v := v) (by omega) (by omega) rfl rfl
    · exact (((SR.rf.put (by decide)).put (by decide)).put (by decide))
    · intro j hj
      rw [up_c (by decide), up_ne (Or.inr hj)]
      rfl
    · right
      have q := mn_sp (μ 2 8) 0
      show mn (μ 2 8) 0 = 0
      omega
    · exact Or.inl ⟨rfl, rfl⟩
  · refine ⟨-2, μ, ν, μ, ?_, ?_, by decide, rfl, Or.inl rfl⟩
    · refine AMet.of kX11_set.1 (Nat.le_of_ble_eq_true rfl) rfl ?_
      refine aw_blk oX11_set_0 (pc' := 4) (ls' := [_, _, _, _]) (st' := [_, _, _]) (cs := []) rfl trivial ?_
      refine aw_ciS (rest := []) (c_X11_between (by omega) (by omega) (by omega)) kX11_between eX11_set_4 lX11_set_4 rfl rfl (Nat.le_of_ble_eq_true rfl) ⟨Nat.le_of_ble_eq_true rfl, Nat.le_of_ble_eq_true rfl⟩ ⟨Nat.le_refl _, Nat.le_refl _⟩ ?_
      refine aw_if_eq (tgt := 27) eX11_set_7 (by decide) bt_r (fun hh => have h48 := bt0 hh; ?_) (fun hh => have h48 := bt1 hh; ?_)
      · first
        | (exfalso; omega; done)
        | (refine aw_blk oX11_set_27 (pc' := 29) (ls' := [_, _, _, _]) (st' := [_]) (cs := []) rfl trivial ?_
           refine aw_iret eX11_set_29 rfl (Nat.le_refl _) (Nat.le_refl _) ?_
           exact pe_i rfl rfl rfl)
      · first
        | (exfalso; omega; done)
        | (refine aw_blk oX11_set_10 (pc' := 21) (ls' := [_, _, _, _]) (st' := [_, _, _]) (cs := [(_, _), (_, _)]) rfl (⟨⟨by omega, by omega⟩, ⟨by omega, by omega⟩, trivial⟩) ?_
           refine aw_ciS (rest := []) (c_X11_between (by omega) (by omega) (by omega)) kX11_between eX11_set_21 lX11_set_21 rfl rfl (Nat.le_of_ble_eq_true rfl) ⟨Nat.le_of_ble_eq_true rfl, Nat.le_of_ble_eq_true rfl⟩ ⟨Nat.le_refl _, Nat.le_refl _⟩ ?_
           refine aw_if_ne (tgt := 30) eX11_set_24 (by decide) bt_r (fun hh => have h49 := bt1 hh; ?_) (fun hh => have h49 := bt0 hh; ?_)
           · first
             | (exfalso; omega; done)
             | (refine aw_blk oX11_set_30 (pc' := 45) (ls' := [_, _, _, _]) (st' := [_]) (cs := [(_, _), (_, _)]) rfl (⟨⟨by omega, by omega⟩, ⟨by omega, by omega⟩, trivial⟩) ?_
                refine aw_if_ne (tgt := 56) eX11_set_45 (by decide) (by omega) (fun h50 => ?_) (fun h50 => ?_)
                · first
                  | (exfalso; omega; done)
                  | (refine aw_blk oX11_set_56 (pc' := 58) (ls' := [_, _, _, _]) (st' := [_, _]) (cs := []) rfl trivial ?_
                     refine aw_icmp_ne (tgt := 65) eX11_set_58 (by decide) (by omega) (by omega) (fun h51 => ?_) (fun h51 => ?_)
                     · first
                       | (exfalso; omega; done)
                       | (refine aw_blk oX11_set_65 (pc' := 66) (ls' := [_, _, _, _]) (st' := [_]) (cs := []) rfl trivial ?_
                          refine aw_iret eX11_set_66 rfl (Nat.le_refl _) (Nat.le_refl _) ?_
                          exact pe_i rfl rfl rfl)
                     · first
                       | (exfalso; omega; done)
                       | (refine aw_blk oX11_set_61 (pc' := 62) (ls' := [_, _, _, _]) (st' := [_]) (cs := []) rfl trivial ?_
                          refine aw_cvV (rest := []) (c_forget) kX11_forgetShows eX11_set_62 lX11_set_62 rfl rfl rfl rfl (Nat.le_of_ble_eq_true rfl) ⟨Nat.le_of_ble_eq_true rfl, Nat.le_of_ble_eq_true rfl⟩ ⟨Nat.le_refl _, Nat.le_refl _⟩ ?_
                          refine aw_blk oX11_set_65 (pc' := 66) (ls' := [_, _, _, _]) (st' := [_]) (cs := []) rfl trivial ?_
                          refine aw_iret eX11_set_66 rfl (Nat.le_refl _) (Nat.le_refl _) ?_
                          exact pe_i rfl rfl rfl))
                · first
                  | (exfalso; omega; done)
                  | (refine aw_blk oX11_set_48 (pc' := 53) (ls' := [_, _, _, _]) (st' := [_, _]) (cs := []) rfl trivial ?_
                     refine aw_cvV (rest := []) (c_forgetCuts (by omega) (by omega)) kX3_forgetCutsFrom eX11_set_53 lX11_set_53 rfl rfl rfl rfl (Nat.le_of_ble_eq_true rfl) ⟨Nat.le_of_ble_eq_true rfl, Nat.le_of_ble_eq_true rfl⟩ ⟨Nat.le_refl _, Nat.le_refl _⟩ ?_
                     refine aw_blk oX11_set_56 (pc' := 58) (ls' := [_, _, _, _]) (st' := [_, _]) (cs := []) rfl trivial ?_
                     refine aw_icmp_ne (tgt := 65) eX11_set_58 (by decide) (by omega) (by omega) (fun h52 => ?_) (fun h52 => ?_)
                     · first
                       | (exfalso; omega; done)
                       | (refine aw_blk oX11_set_65 (pc' := 66) (ls' := [_, _, _, _]) (st' := [_]) (cs := []) rfl trivial ?_
                          refine aw_iret eX11_set_66 rfl (Nat.le_refl _) (Nat.le_refl _) ?_
                          exact pe_i rfl rfl rfl)
                     · first
                       | (exfalso; omega; done)
                       | (refine aw_blk oX11_set_61 (pc' := 62) (ls' := [_, _, _, _]) (st' := [_]) (cs := []) rfl trivial ?_
                          refine aw_cvV (rest := []) (c_forget) kX11_forgetShows eX11_set_62 lX11_set_62 rfl rfl rfl rfl (Nat.le_of_ble_eq_true rfl) ⟨Nat.le_of_ble_eq_true rfl, Nat.le_of_ble_eq_true rfl⟩ ⟨Nat.le_refl _, Nat.le_refl _⟩ ?_
                          refine aw_blk oX11_set_65 (pc' := 66) (ls' := [_, _, _, _]) (st' := [_]) (cs := []) rfl trivial ?_
                          refine aw_iret eX11_set_66 rfl (Nat.le_refl _) (Nat.le_refl _) ?_
                          exact pe_i rfl rfl rfl)))
           · first
             | (exfalso; omega; done)
             | (refine aw_blk oX11_set_27 (pc' := 29) (ls' := [_, _, _, _]) (st' := [_]) (cs := []) rfl trivial ?_
                refine aw_iret eX11_set_29 rfl (Nat.le_refl _) (Nat.le_refl _) ?_
                exact pe_i rfl rfl rfl))
    · refine AMet.of kX12_set.1 (Nat.le_of_ble_eq_true rfl) rfl ?_
      refine aw_blk oX12_set_0 (pc' := 4) (ls' := [_, _, _, _, _]) (st' := [_, _, _]) (cs := []) rfl trivial ?_
      refine aw_ciS (rest := []) (c_X12_in (by omega) (by omega) (by omega)) kX12_in eX12_set_4 lX12_set_4 rfl rfl (Nat.le_of_ble_eq_true rfl) ⟨Nat.le_of_ble_eq_true rfl, Nat.le_of_ble_eq_true rfl⟩ ⟨Nat.le_refl _, Nat.le_refl _⟩ ?_
      refine aw_if_ne (tgt := 13) eX12_set_7 (by decide) bt_r (fun hh => have h53 := bt1 hh; ?_) (fun hh => have h53 := bt0 hh; ?_)
      · first
        | (exfalso; omega; done)
        | (refine aw_blk oX12_set_13 (pc' := 14) (ls' := [_, _, _, _, _]) (st' := [_]) (cs := []) rfl trivial ?_
           refine aw_if_ne (tgt := 22) eX12_set_14 (by decide) (by omega) (fun h54 => ?_) (fun h54 => ?_)
           · first
             | (exfalso; omega; done)
             | (refine aw_blk oX12_set_22 (pc' := 24) (ls' := [_, _, _, _, _]) (st' := [_, _]) (cs := []) rfl trivial ?_
                refine aw_icmp_ne (tgt := 33) eX12_set_24 (by decide) (by omega) (by omega) (fun h55 => ?_) (fun h55 => ?_)
                · first
                  | (exfalso; omega; done)
                  | (refine aw_blk oX12_set_33 (pc' := 35) (ls' := [_, _, _, _, _]) (st' := [_, _]) (cs := []) rfl trivial ?_
                     refine aw_icmp_ne (tgt := 43) eX12_set_35 (by decide) (by omega) (by omega) (fun h56 => ?_) (fun h56 => ?_)
                     · first
                       | (exfalso; omega; done)
                       | (refine aw_blk oX12_set_43 (pc' := 45) (ls' := [_, _, _, _, _]) (st' := [_, _]) (cs := []) rfl trivial ?_
                          refine aw_icmp_ne (tgt := 53) eX12_set_45 (by decide) (by omega) (by omega) (fun h57 => ?_) (fun h57 => ?_)
                          · first
                            | (exfalso; omega; done)
                            | (refine aw_blk oX12_set_53 (pc' := 55) (ls' := [_, _, _, _, _]) (st' := [_, _]) (cs := []) rfl trivial ?_
                               refine aw_icmp_ne (tgt := 63) eX12_set_55 (by decide) (by omega) (by omega) (fun h58 => ?_) (fun h58 => ?_)
                               · first
                                 | (exfalso; omega; done)
                                 | (refine aw_blk oX12_set_63 (pc' := 65) (ls' := [_, _, _, _, _]) (st' := [_, _]) (cs := []) rfl trivial ?_
                                    refine aw_icmp_ne (tgt := 74) eX12_set_65 (by decide) (by omega) (by omega) (fun h59 => ?_) (fun h59 => ?_)
                                    · first
                                      | (exfalso; omega; done)
                                      | (refine aw_blk oX12_set_74 (pc' := 76) (ls' := [_, _, _, _, _]) (st' := [_]) (cs := []) rfl trivial ?_
                                         refine aw_blk oX12_set_76 (pc' := 80) (ls' := [_, _, _, _, _]) (st' := [_, _, _]) (cs := []) rfl trivial ?_
                                         refine aw_icmp_eq (tgt := 89) eX12_set_80 (by decide) (by omega) (by omega) (fun h60 => ?_) (fun h60 => ?_)
                                         · first
                                           | (exfalso; omega; done)
                                           | (refine aw_blk oX12_set_89 (pc' := 94) (ls' := [_, _, _, _, _]) (st' := [_, _]) (cs := []) rfl trivial ?_
                                              refine aw_blk oX12_set_94 (pc' := 95) (ls' := [_, _, _, _, _]) (st' := [_, _, _]) (cs := []) rfl trivial ?_
                                              refine aw_ciS (rest := []) (c_X12_in (by omega) (by omega) (by omega)) kX12_in eX12_set_95 lX12_set_95 rfl rfl (Nat.le_of_ble_eq_true rfl) ⟨Nat.le_of_ble_eq_true rfl, Nat.le_of_ble_eq_true rfl⟩ ⟨Nat.le_refl _, Nat.le_refl _⟩ ?_
                                              refine aw_if_ne (tgt := 104) eX12_set_98 (by decide) bt_r (fun hh => have h61 := bt1 hh; ?_) (fun hh => have h61 := bt0 hh; ?_)
                                              · first
                                                | (exfalso; omega; done)
                                                | (refine aw_blk oX12_set_104 (pc' := 121) (ls' := [_, _, _, _, _]) (st' := [_]) (cs := [(_, _), (_, _)]) rfl (⟨⟨by omega, by omega⟩, ⟨by omega, by omega⟩, trivial⟩) ?_
                                                   refine aw_iret eX12_set_121 rfl (Nat.le_refl _) (Nat.le_refl _) ?_
                                                   exact pe_i rfl rfl rfl)
                                              · first
                                                | (exfalso; omega; done)
                                                | (refine aw_blk oX12_set_101 (pc' := 103) (ls' := [_, _, _, _, _]) (st' := [_]) (cs := []) rfl trivial ?_
                                                   refine aw_iret eX12_set_103 rfl (Nat.le_refl _) (Nat.le_refl _) ?_
                                                   exact pe_i rfl rfl rfl))
                                         · first
                                           | (exfalso; omega; done)
                                           | (refine aw_blk oX12_set_83 (pc' := 86) (ls' := [_, _, _, _, _]) (st' := [_, _, _]) (cs := []) rfl trivial ?_
                                              refine aw_icmp_ne (tgt := 93) eX12_set_86 (by decide) (by omega) (by omega) (fun h62 => ?_) (fun h62 => ?_)
                                              · first
                                                | (exfalso; omega; done)
                                                | (refine aw_blk oX12_set_93 (pc' := 94) (ls' := [_, _, _, _, _]) (st' := [_, _]) (cs := []) rfl trivial ?_
                                                   refine aw_blk oX12_set_94 (pc' := 95) (ls' := [_, _, _, _, _]) (st' := [_, _, _]) (cs := []) rfl trivial ?_
                                                   refine aw_ciS (rest := []) (c_X12_in (by omega) (by omega) (by omega)) kX12_in eX12_set_95 lX12_set_95 rfl rfl (Nat.le_of_ble_eq_true rfl) ⟨Nat.le_of_ble_eq_true rfl, Nat.le_of_ble_eq_true rfl⟩ ⟨Nat.le_refl _, Nat.le_refl _⟩ ?_
                                                   refine aw_if_ne (tgt := 104) eX12_set_98 (by decide) bt_r (fun hh => have h63 := bt1 hh; ?_) (fun hh => have h63 := bt0 hh; ?_)
                                                   · first
                                                     | (exfalso; omega; done)
                                                     | (refine aw_blk oX12_set_104 (pc' := 121) (ls' := [_, _, _, _, _]) (st' := [_]) (cs := [(_, _), (_, _)]) rfl (⟨⟨by omega, by omega⟩, ⟨by omega, by omega⟩, trivial⟩) ?_
                                                        refine aw_iret eX12_set_121 rfl (Nat.le_refl _) (Nat.le_refl _) ?_
                                                        exact pe_i rfl rfl rfl)
                                                   · first
                                                     | (exfalso; omega; done)
                                                     | (refine aw_blk oX12_set_101 (pc' := 103) (ls' := [_, _, _, _, _]) (st' := [_]) (cs := []) rfl trivial ?_
                                                        refine aw_iret eX12_set_103 rfl (Nat.le_refl _) (Nat.le_refl _) ?_
                                                        exact pe_i rfl rfl rfl))
                                              · first
                                                | (exfalso; omega; done)
                                                | (refine aw_blk oX12_set_89 (pc' := 94) (ls' := [_, _, _, _, _]) (st' := [_, _]) (cs := []) rfl trivial ?_
                                                   refine aw_blk oX12_set_94 (pc' := 95) (ls' := [_, _, _, _, _]) (st' := [_, _, _]) (cs := []) rfl trivial ?_
                                                   refine aw_ciS (rest := []) (c_X12_in (by omega) (by omega) (by omega)) kX12_in eX12_set_95 lX12_set_95 rfl rfl (Nat.le_of_ble_eq_true rfl) ⟨Nat.le_of_ble_eq_true rfl, Nat.le_of_ble_eq_true rfl⟩ ⟨Nat.le_refl _, Nat.le_refl _⟩ ?_
                                                   refine aw_if_ne (tgt := 104) eX12_set_98 (by decide) bt_r (fun hh => have h64 := bt1 hh; ?_) (fun hh => have h64 := bt0 hh; ?_)
                                                   · first
                                                     | (exfalso; omega; done)
                                                     | (refine aw_blk oX12_set_104 (pc' := 121) (ls' := [_, _, _, _, _]) (st' := [_]) (cs := [(_, _), (_, _)]) rfl (⟨⟨by omega, by omega⟩, ⟨by omega, by omega⟩, trivial⟩) ?_
                                                        refine aw_iret eX12_set_121 rfl (Nat.le_refl _) (Nat.le_refl _) ?_
                                                        exact pe_i rfl rfl rfl)
                                                   · first
                                                     | (exfalso; omega; done)
                                                     | (refine aw_blk oX12_set_101 (pc' := 103) (ls' := [_, _, _, _, _]) (st' := [_]) (cs := []) rfl trivial ?_
                                                        refine aw_iret eX12_set_103 rfl (Nat.le_refl _) (Nat.le_refl _) ?_
                                                        exact pe_i rfl rfl rfl))))
                                    · first
                                      | (exfalso; omega; done)
                                      | (refine aw_blk oX12_set_68 (pc' := 76) (ls' := [_, _, _, _, _]) (st' := [_]) (cs := []) rfl trivial ?_
                                         refine aw_blk oX12_set_76 (pc' := 80) (ls' := [_, _, _, _, _]) (st' := [_, _, _]) (cs := []) rfl trivial ?_
                                         refine aw_icmp_eq (tgt := 89) eX12_set_80 (by decide) (by omega) (by omega) (fun h65 => ?_) (fun h65 => ?_)
                                         · first
                                           | (exfalso; omega; done)
                                           | (refine aw_blk oX12_set_89 (pc' := 94) (ls' := [_, _, _, _, _]) (st' := [_, _]) (cs := []) rfl trivial ?_
                                              refine aw_blk oX12_set_94 (pc' := 95) (ls' := [_, _, _, _, _]) (st' := [_, _, _]) (cs := []) rfl trivial ?_
                                              refine aw_ciS (rest := []) (c_X12_in (by omega) (by omega) (by omega)) kX12_in eX12_set_95 lX12_set_95 rfl rfl (Nat.le_of_ble_eq_true rfl) ⟨Nat.le_of_ble_eq_true rfl, Nat.le_of_ble_eq_true rfl⟩ ⟨Nat.le_refl _, Nat.le_refl _⟩ ?_
                                              refine aw_if_ne (tgt := 104) eX12_set_98 (by decide) bt_r (fun hh => have h66 := bt1 hh; ?_) (fun hh => have h66 := bt0 hh; ?_)
                                              · first
                                                | (exfalso; omega; done)
                                                | (refine aw_blk oX12_set_104 (pc' := 121) (ls' := [_, _, _, _, _]) (st' := [_]) (cs := [(_, _), (_, _)]) rfl (⟨⟨by omega, by omega⟩, ⟨by omega, by omega⟩, trivial⟩) ?_
                                                   refine aw_iret eX12_set_121 rfl (Nat.le_refl _) (Nat.le_refl _) ?_
                                                   exact pe_i rfl rfl rfl)
                                              · first
                                                | (exfalso; omega; done)
                                                | (refine aw_blk oX12_set_101 (pc' := 103) (ls' := [_, _, _, _, _]) (st' := [_]) (cs := []) rfl trivial ?_
                                                   refine aw_iret eX12_set_103 rfl (Nat.le_refl _) (Nat.le_refl _) ?_
                                                   exact pe_i rfl rfl rfl))
                                         · first
                                           | (exfalso; omega; done)
                                           | (refine aw_blk oX12_set_83 (pc' := 86) (ls' := [_, _, _, _, _]) (st' := [_, _, _]) (cs := []) rfl trivial ?_
                                              refine aw_icmp_ne (tgt := 93) eX12_set_86 (by decide) (by omega) (by omega) (fun h67 => ?_) (fun h67 => ?_)
                                              · first
                                                | (exfalso; omega; done)
                                                | (refine aw_blk oX12_set_93 (pc' := 94) (ls' := [_, _, _, _, _]) (st' := [_, _]) (cs := []) rfl trivial ?_
                                                   refine aw_blk oX12_set_94 (pc' := 95) (ls' := [_, _, _, _, _]) (st' := [_, _, _]) (cs := []) rfl trivial ?_
                                                   refine aw_ciS (rest := []) (c_X12_in (by omega) (by omega) (by omega)) kX12_in eX12_set_95 lX12_set_95 rfl rfl (Nat.le_of_ble_eq_true rfl) ⟨Nat.le_of_ble_eq_true rfl, Nat.le_of_ble_eq_true rfl⟩ ⟨Nat.le_refl _, Nat.le_refl _⟩ ?_
                                                   refine aw_if_ne (tgt := 104) eX12_set_98 (by decide) bt_r (fun hh => have h68 := bt1 hh; ?_) (fun hh => have h68 := bt0 hh; ?_)
                                                   · first
                                                     | (exfalso; omega; done)
                                                     | (refine aw_blk oX12_set_104 (pc' := 121) (ls' := [_, _, _, _, _]) (st' := [_]) (cs := [(_, _), (_, _)]) rfl (⟨⟨by omega, by omega⟩, ⟨by omega, by omega⟩, trivial⟩) ?_
                                                        refine aw_iret eX12_set_121 rfl (Nat.le_refl _) (Nat.le_refl _) ?_
                                                        exact pe_i rfl rfl rfl)
                                                   · first
                                                     | (exfalso; omega; done)
                                                     | (refine aw_blk oX12_set_101 (pc' := 103) (ls' := [_, _, _, _, _]) (st' := [_]) (cs := []) rfl trivial ?_
                                                        refine aw_iret eX12_set_103 rfl (Nat.le_refl _) (Nat.le_refl _) ?_
                                                        exact pe_i rfl rfl rfl))
                                              · first
                                                | (exfalso; omega; done)
                                                | (refine aw_blk oX12_set_89 (pc' := 94) (ls' := [_, _, _, _, _]) (st' := [_, _]) (cs := []) rfl trivial ?_
                                                   refine aw_blk oX12_set_94 (pc' := 95) (ls' := [_, _, _, _, _]) (st' := [_, _, _]) (cs := []) rfl trivial ?_
                                                   refine aw_ciS (rest := []) (c_X12_in (by omega) (by omega) (by omega)) kX12_in eX12_set_95 lX12_set_95 rfl rfl (Nat.le_of_ble_eq_true rfl) ⟨Nat.le_of_ble_eq_true rfl, Nat.le_of_ble_eq_true rfl⟩ ⟨Nat.le_refl _, Nat.le_refl _⟩ ?_
                                                   refine aw_if_ne (tgt := 104) eX12_set_98 (by decide) bt_r (fun hh => have h69 := bt1 hh; ?_) (fun hh => have h69 := bt0 hh; ?_)
                                                   · first
                                                     | (exfalso; omega; done)
                                                     | (refine aw_blk oX12_set_104 (pc' := 121) (ls' := [_, _, _, _, _]) (st' := [_]) (cs := [(_, _), (_, _)]) rfl (⟨⟨by omega, by omega⟩, ⟨by omega, by omega⟩, trivial⟩) ?_
                                                        refine aw_iret eX12_set_121 rfl (Nat.le_refl _) (Nat.le_refl _) ?_
                                                        exact pe_i rfl rfl rfl)
                                                   · first
                                                     | (exfalso; omega; done)
                                                     | (refine aw_blk oX12_set_101 (pc' := 103) (ls' := [_, _, _, _, _]) (st' := [_]) (cs := []) rfl trivial ?_
                                                        refine aw_iret eX12_set_103 rfl (Nat.le_refl _) (Nat.le_refl _) ?_
                                                        exact pe_i rfl rfl rfl)))))
                               · first
                                 | (exfalso; omega; done)
                                 | (refine aw_blk oX12_set_58 (pc' := 76) (ls' := [_, _, _, _, _]) (st' := [_]) (cs := []) rfl trivial ?_
                                    refine aw_blk oX12_set_76 (pc' := 80) (ls' := [_, _, _, _, _]) (st' := [_, _, _]) (cs := []) rfl trivial ?_
                                    refine aw_icmp_eq (tgt := 89) eX12_set_80 (by decide) (by omega) (by omega) (fun h70 => ?_) (fun h70 => ?_)
                                    · first
                                      | (exfalso; omega; done)
                                      | (refine aw_blk oX12_set_89 (pc' := 94) (ls' := [_, _, _, _, _]) (st' := [_, _]) (cs := []) rfl trivial ?_
                                         refine aw_blk oX12_set_94 (pc' := 95) (ls' := [_, _, _, _, _]) (st' := [_, _, _]) (cs := []) rfl trivial ?_
                                         refine aw_ciS (rest := []) (c_X12_in (by omega) (by omega) (by omega)) kX12_in eX12_set_95 lX12_set_95 rfl rfl (Nat.le_of_ble_eq_true rfl) ⟨Nat.le_of_ble_eq_true rfl, Nat.le_of_ble_eq_true rfl⟩ ⟨Nat.le_refl _, Nat.le_refl _⟩ ?_
                                         refine aw_if_ne (tgt := 104) eX12_set_98 (by decide) bt_r (fun hh => have h71 := bt1 hh; ?_) (fun hh => have h71 := bt0 hh; ?_)
                                         · first
                                           | (exfalso; omega; done)
                                           | (refine aw_blk oX12_set_104 (pc' := 121) (ls' := [_, _, _, _, _]) (st' := [_]) (cs := [(_, _), (_, _)]) rfl (⟨⟨by omega, by omega⟩, ⟨by omega, by omega⟩, trivial⟩) ?_
                                              refine aw_iret eX12_set_121 rfl (Nat.le_refl _) (Nat.le_refl _) ?_
                                              exact pe_i rfl rfl rfl)
                                         · first
                                           | (exfalso; omega; done)
                                           | (refine aw_blk oX12_set_101 (pc' := 103) (ls' := [_, _, _, _, _]) (st' := [_]) (cs := []) rfl trivial ?_
                                              refine aw_iret eX12_set_103 rfl (Nat.le_refl _) (Nat.le_refl _) ?_
                                              exact pe_i rfl rfl rfl))
                                    · first
                                      | (exfalso; omega; done)
                                      | (refine aw_blk oX12_set_83 (pc' := 86) (ls' := [_, _, _, _, _]) (st' := [_, _, _]) (cs := []) rfl trivial ?_
                                         refine aw_icmp_ne (tgt := 93) eX12_set_86 (by decide) (by omega) (by omega) (fun h72 => ?_) (fun h72 => ?_)
                                         · first
                                           | (exfalso; omega; done)
                                           | (refine aw_blk oX12_set_93 (pc' := 94) (ls' := [_, _, _, _, _]) (st' := [_, _]) (cs := []) rfl trivial ?_
                                              refine aw_blk oX12_set_94 (pc' := 95) (ls' := [_, _, _, _, _]) (st' := [_, _, _]) (cs := []) rfl trivial ?_
                                              refine aw_ciS (rest := []) (c_X12_in (by omega) (by omega) (by omega)) kX12_in eX12_set_95 lX12_set_95 rfl rfl (Nat.le_of_ble_eq_true rfl) ⟨Nat.le_of_ble_eq_true rfl, Nat.le_of_ble_eq_true rfl⟩ ⟨Nat.le_refl _, Nat.le_refl _⟩ ?_
                                              refine aw_if_ne (tgt := 104) eX12_set_98 (by decide) bt_r (fun hh => have h73 := bt1 hh; ?_) (fun hh => have h73 := bt0 hh; ?_)
                                              · first
                                                | (exfalso; omega; done)
                                                | (refine aw_blk oX12_set_104 (pc' := 121) (ls' := [_, _, _, _, _]) (st' := [_]) (cs := [(_, _), (_, _)]) rfl (⟨⟨by omega, by omega⟩, ⟨by omega, by omega⟩, trivial⟩) ?_
                                                   refine aw_iret eX12_set_121 rfl (Nat.le_refl _) (Nat.le_refl _) ?_
                                                   exact pe_i rfl rfl rfl)
                                              · first
                                                | (exfalso; omega; done)
                                                | (refine aw_blk oX12_set_101 (pc' := 103) (ls' := [_, _, _, _, _]) (st' := [_]) (cs := []) rfl trivial ?_
                                                   refine aw_iret eX12_set_103 rfl (Nat.le_refl _) (Nat.le_refl _) ?_
                                                   exact pe_i rfl rfl rfl))
                                         · first
                                           | (exfalso; omega; done)
                                           | (refine aw_blk oX12_set_89 (pc' := 94) (ls' := [_, _, _, _, _]) (st' := [_, _]) (cs := []) rfl trivial ?_
                                              refine aw_blk oX12_set_94 (pc' := 95) (ls' := [_, _, _, _, _]) (st' := [_, _, _]) (cs := []) rfl trivial ?_
                                              refine aw_ciS (rest := []) (c_X12_in (by omega) (by omega) (by omega)) kX12_in eX12_set_95 lX12_set_95 rfl rfl (Nat.le_of_ble_eq_true rfl) ⟨Nat.le_of_ble_eq_true rfl, Nat.le_of_ble_eq_true rfl⟩ ⟨Nat.le_refl _, Nat.le_refl _⟩ ?_
                                              refine aw_if_ne (tgt := 104) eX12_set_98 (by decide) bt_r (fun hh => have h74 := bt1 hh; ?_) (fun hh => have h74 := bt0 hh; ?_)
                                              · first
                                                | (exfalso; omega; done)
                                                | (refine aw_blk oX12_set_104 (pc' := 121) (ls' := [_, _, _, _, _]) (st' := [_]) (cs := [(_, _), (_, _)]) rfl (⟨⟨by omega, by omega⟩, ⟨by omega, by omega⟩, trivial⟩) ?_
                                                   refine aw_iret eX12_set_121 rfl (Nat.le_refl _) (Nat.le_refl _) ?_
                                                   exact pe_i rfl rfl rfl)
                                              · first
                                                | (exfalso; omega; done)
                                                | (refine aw_blk oX12_set_101 (pc' := 103) (ls' := [_, _, _, _, _]) (st' := [_]) (cs := []) rfl trivial ?_
                                                   refine aw_iret eX12_set_103 rfl (Nat.le_refl _) (Nat.le_refl _) ?_
                                                   exact pe_i rfl rfl rfl)))))
                          · first
                            | (exfalso; omega; done)
                            | (refine aw_blk oX12_set_48 (pc' := 76) (ls' := [_, _, _, _, _]) (st' := [_]) (cs := []) rfl trivial ?_
                               refine aw_blk oX12_set_76 (pc' := 80) (ls' := [_, _, _, _, _]) (st' := [_, _, _]) (cs := []) rfl trivial ?_
                               refine aw_icmp_eq (tgt := 89) eX12_set_80 (by decide) (by omega) (by omega) (fun h75 => ?_) (fun h75 => ?_)
                               · first
                                 | (exfalso; omega; done)
                                 | (refine aw_blk oX12_set_89 (pc' := 94) (ls' := [_, _, _, _, _]) (st' := [_, _]) (cs := []) rfl trivial ?_
                                    refine aw_blk oX12_set_94 (pc' := 95) (ls' := [_, _, _, _, _]) (st' := [_, _, _]) (cs := []) rfl trivial ?_
                                    refine aw_ciS (rest := []) (c_X12_in (by omega) (by omega) (by omega)) kX12_in eX12_set_95 lX12_set_95 rfl rfl (Nat.le_of_ble_eq_true rfl) ⟨Nat.le_of_ble_eq_true rfl, Nat.le_of_ble_eq_true rfl⟩ ⟨Nat.le_refl _, Nat.le_refl _⟩ ?_
                                    refine aw_if_ne (tgt := 104) eX12_set_98 (by decide) bt_r (fun hh => have h76 := bt1 hh; ?_) (fun hh => have h76 := bt0 hh; ?_)
                                    · first
                                      | (exfalso; omega; done)
                                      | (refine aw_blk oX12_set_104 (pc' := 121) (ls' := [_, _, _, _, _]) (st' := [_]) (cs := [(_, _), (_, _)]) rfl (⟨⟨by omega, by omega⟩, ⟨by omega, by omega⟩, trivial⟩) ?_
                                         refine aw_iret eX12_set_121 rfl (Nat.le_refl _) (Nat.le_refl _) ?_
                                         exact pe_i rfl rfl rfl)
                                    · first
                                      | (exfalso; omega; done)
                                      | (refine aw_blk oX12_set_101 (pc' := 103) (ls' := [_, _, _, _, _]) (st' := [_]) (cs := []) rfl trivial ?_
                                         refine aw_iret eX12_set_103 rfl (Nat.le_refl _) (Nat.le_refl _) ?_
                                         exact pe_i rfl rfl rfl))
                               · first
                                 | (exfalso; omega; done)
                                 | (refine aw_blk oX12_set_83 (pc' := 86) (ls' := [_, _, _, _, _]) (st' := [_, _, _]) (cs := []) rfl trivial ?_
                                    refine aw_icmp_ne (tgt := 93) eX12_set_86 (by decide) (by omega) (by omega) (fun h77 => ?_) (fun h77 => ?_)
                                    · first
                                      | (exfalso; omega; done)
                                      | (refine aw_blk oX12_set_93 (pc' := 94) (ls' := [_, _, _, _, _]) (st' := [_, _]) (cs := []) rfl trivial ?_
                                         refine aw_blk oX12_set_94 (pc' := 95) (ls' := [_, _, _, _, _]) (st' := [_, _, _]) (cs := []) rfl trivial ?_
                                         refine aw_ciS (rest := []) (c_X12_in (by omega) (by omega) (by omega)) kX12_in eX12_set_95 lX12_set_95 rfl rfl (Nat.le_of_ble_eq_true rfl) ⟨Nat.le_of_ble_eq_true rfl, Nat.le_of_ble_eq_true rfl⟩ ⟨Nat.le_refl _, Nat.le_refl _⟩ ?_
                                         refine aw_if_ne (tgt := 104) eX12_set_98 (by decide) bt_r (fun hh => have h78 := bt1 hh; ?_) (fun hh => have h78 := bt0 hh; ?_)
                                         · first
                                           | (exfalso; omega; done)
                                           | (refine aw_blk oX12_set_104 (pc' := 121) (ls' := [_, _, _, _, _]) (st' := [_]) (cs := [(_, _), (_, _)]) rfl (⟨⟨by omega, by omega⟩, ⟨by omega, by omega⟩, trivial⟩) ?_
                                              refine aw_iret eX12_set_121 rfl (Nat.le_refl _) (Nat.le_refl _) ?_
                                              exact pe_i rfl rfl rfl)
                                         · first
                                           | (exfalso; omega; done)
                                           | (refine aw_blk oX12_set_101 (pc' := 103) (ls' := [_, _, _, _, _]) (st' := [_]) (cs := []) rfl trivial ?_
                                              refine aw_iret eX12_set_103 rfl (Nat.le_refl _) (Nat.le_refl _) ?_
                                              exact pe_i rfl rfl rfl))
                                    · first
                                      | (exfalso; omega; done)
                                      | (refine aw_blk oX12_set_89 (pc' := 94) (ls' := [_, _, _, _, _]) (st' := [_, _]) (cs := []) rfl trivial ?_
                                         refine aw_blk oX12_set_94 (pc' := 95) (ls' := [_, _, _, _, _]) (st' := [_, _, _]) (cs := []) rfl trivial ?_
                                         refine aw_ciS (rest := []) (c_X12_in (by omega) (by omega) (by omega)) kX12_in eX12_set_95 lX12_set_95 rfl rfl (Nat.le_of_ble_eq_true rfl) ⟨Nat.le_of_ble_eq_true rfl, Nat.le_of_ble_eq_true rfl⟩ ⟨Nat.le_refl _, Nat.le_refl _⟩ ?_
                                         refine aw_if_ne (tgt := 104) eX12_set_98 (by decide) bt_r (fun hh => have h79 := bt1 hh; ?_) (fun hh => have h79 := bt0 hh; ?_)
                                         · first
                                           | (exfalso; omega; done)
                                           | (refine aw_blk oX12_set_104 (pc' := 121) (ls' := [_, _, _, _, _]) (st' := [_]) (cs := [(_, _), (_, _)]) rfl (⟨⟨by omega, by omega⟩, ⟨by omega, by omega⟩, trivial⟩) ?_
                                              refine aw_iret eX12_set_121 rfl (Nat.le_refl _) (Nat.le_refl _) ?_
                                              exact pe_i rfl rfl rfl)
                                         · first
                                           | (exfalso; omega; done)
                                           | (refine aw_blk oX12_set_101 (pc' := 103) (ls' := [_, _, _, _, _]) (st' := [_]) (cs := []) rfl trivial ?_
                                              refine aw_iret eX12_set_103 rfl (Nat.le_refl _) (Nat.le_refl _) ?_
                                              exact pe_i rfl rfl rfl)))))
                     · first
                       | (exfalso; omega; done)
                       | (refine aw_blk oX12_set_38 (pc' := 76) (ls' := [_, _, _, _, _]) (st' := [_]) (cs := []) rfl trivial ?_
                          refine aw_blk oX12_set_76 (pc' := 80) (ls' := [_, _, _, _, _]) (st' := [_, _, _]) (cs := []) rfl trivial ?_
                          refine aw_icmp_eq (tgt := 89) eX12_set_80 (by decide) (by omega) (by omega) (fun h80 => ?_) (fun h80 => ?_)
                          · first
                            | (exfalso; omega; done)
                            | (refine aw_blk oX12_set_89 (pc' := 94) (ls' := [_, _, _, _, _]) (st' := [_, _]) (cs := []) rfl trivial ?_
                               refine aw_blk oX12_set_94 (pc' := 95) (ls' := [_, _, _, _, _]) (st' := [_, _, _]) (cs := []) rfl trivial ?_
                               refine aw_ciS (rest := []) (c_X12_in (by omega) (by omega) (by omega)) kX12_in eX12_set_95 lX12_set_95 rfl rfl (Nat.le_of_ble_eq_true rfl) ⟨Nat.le_of_ble_eq_true rfl, Nat.le_of_ble_eq_true rfl⟩ ⟨Nat.le_refl _, Nat.le_refl _⟩ ?_
                               refine aw_if_ne (tgt := 104) eX12_set_98 (by decide) bt_r (fun hh => have h81 := bt1 hh; ?_) (fun hh => have h81 := bt0 hh; ?_)
                               · first
                                 | (exfalso; omega; done)
                                 | (refine aw_blk oX12_set_104 (pc' := 121) (ls' := [_, _, _, _, _]) (st' := [_]) (cs := [(_, _), (_, _)]) rfl (⟨⟨by omega, by omega⟩, ⟨by omega, by omega⟩, trivial⟩) ?_
                                    refine aw_iret eX12_set_121 rfl (Nat.le_refl _) (Nat.le_refl _) ?_
                                    exact pe_i rfl rfl rfl)
                               · first
                                 | (exfalso; omega; done)
                                 | (refine aw_blk oX12_set_101 (pc' := 103) (ls' := [_, _, _, _, _]) (st' := [_]) (cs := []) rfl trivial ?_
                                    refine aw_iret eX12_set_103 rfl (Nat.le_refl _) (Nat.le_refl _) ?_
                                    exact pe_i rfl rfl rfl))
                          · first
                            | (exfalso; omega; done)
                            | (refine aw_blk oX12_set_83 (pc' := 86) (ls' := [_, _, _, _, _]) (st' := [_, _, _]) (cs := []) rfl trivial ?_
                               refine aw_icmp_ne (tgt := 93) eX12_set_86 (by decide) (by omega) (by omega) (fun h82 => ?_) (fun h82 => ?_)
                               · first
                                 | (exfalso; omega; done)
                                 | (refine aw_blk oX12_set_93 (pc' := 94) (ls' := [_, _, _, _, _]) (st' := [_, _]) (cs := []) rfl trivial ?_
                                    refine aw_blk oX12_set_94 (pc' := 95) (ls' := [_, _, _, _, _]) (st' := [_, _, _]) (cs := []) rfl trivial ?_
                                    refine aw_ciS (rest := []) (c_X12_in (by omega) (by omega) (by omega)) kX12_in eX12_set_95 lX12_set_95 rfl rfl (Nat.le_of_ble_eq_true rfl) ⟨Nat.le_of_ble_eq_true rfl, Nat.le_of_ble_eq_true rfl⟩ ⟨Nat.le_refl _, Nat.le_refl _⟩ ?_
                                    refine aw_if_ne (tgt := 104) eX12_set_98 (by decide) bt_r (fun hh => have h83 := bt1 hh; ?_) (fun hh => have h83 := bt0 hh; ?_)
                                    · first
                                      | (exfalso; omega; done)
                                      | (refine aw_blk oX12_set_104 (pc' := 121) (ls' := [_, _, _, _, _]) (st' := [_]) (cs := [(_, _), (_, _)]) rfl (⟨⟨by omega, by omega⟩, ⟨by omega, by omega⟩, trivial⟩) ?_
                                         refine aw_iret eX12_set_121 rfl (Nat.le_refl _) (Nat.le_refl _) ?_
                                         exact pe_i rfl rfl rfl)
                                    · first
                                      | (exfalso; omega; done)
                                      | (refine aw_blk oX12_set_101 (pc' := 103) (ls' := [_, _, _, _, _]) (st' := [_]) (cs := []) rfl trivial ?_
                                         refine aw_iret eX12_set_103 rfl (Nat.le_refl _) (Nat.le_refl _) ?_
                                         exact pe_i rfl rfl rfl))
                               · first
                                 | (exfalso; omega; done)
                                 | (refine aw_blk oX12_set_89 (pc' := 94) (ls' := [_, _, _, _, _]) (st' := [_, _]) (cs := []) rfl trivial ?_
                                    refine aw_blk oX12_set_94 (pc' := 95) (ls' := [_, _, _, _, _]) (st' := [_, _, _]) (cs := []) rfl trivial ?_
                                    refine aw_ciS (rest := []) (c_X12_in (by omega) (by omega) (by omega)) kX12_in eX12_set_95 lX12_set_95 rfl rfl (Nat.le_of_ble_eq_true rfl) ⟨Nat.le_of_ble_eq_true rfl, Nat.le_of_ble_eq_true rfl⟩ ⟨Nat.le_refl _, Nat.le_refl _⟩ ?_
                                    refine aw_if_ne (tgt := 104) eX12_set_98 (by decide) bt_r (fun hh => have h84 := bt1 hh; ?_) (fun hh => have h84 := bt0 hh; ?_)
                                    · first
                                      | (exfalso; omega; done)
                                      | (refine aw_blk oX12_set_104 (pc' := 121) (ls' := [_, _, _, _, _]) (st' := [_]) (cs := [(_, _), (_, _)]) rfl (⟨⟨by omega, by omega⟩, ⟨by omega, by omega⟩, trivial⟩) ?_
                                         refine aw_iret eX12_set_121 rfl (Nat.le_refl _) (Nat.le_refl _) ?_
                                         exact pe_i rfl rfl rfl)
                                    · first
                                      | (exfalso; omega; done)
                                      | (refine aw_blk oX12_set_101 (pc' := 103) (ls' := [_, _, _, _, _]) (st' := [_]) (cs := []) rfl trivial ?_
                                         refine aw_iret eX12_set_103 rfl (Nat.le_refl _) (Nat.le_refl _) ?_
                                         exact pe_i rfl rfl rfl)))))
                · first
                  | (exfalso; omega; done)
                  | (refine aw_blk oX12_set_27 (pc' := 76) (ls' := [_, _, _, _, _]) (st' := [_]) (cs := []) rfl trivial ?_
                     refine aw_blk oX12_set_76 (pc' := 80) (ls' := [_, _, _, _, _]) (st' := [_, _, _]) (cs := []) rfl trivial ?_
                     refine aw_icmp_eq (tgt := 89) eX12_set_80 (by decide) (by omega) (by omega) (fun h85 => ?_) (fun h85 => ?_)
                     · first
                       | (exfalso; omega; done)
                       | (refine aw_blk oX12_set_89 (pc' := 94) (ls' := [_, _, _, _, _]) (st' := [_, _]) (cs := []) rfl trivial ?_
                          refine aw_blk oX12_set_94 (pc' := 95) (ls' := [_, _, _, _, _]) (st' := [_, _, _]) (cs := []) rfl trivial ?_
                          refine aw_ciS (rest := []) (c_X12_in (by omega) (by omega) (by omega)) kX12_in eX12_set_95 lX12_set_95 rfl rfl (Nat.le_of_ble_eq_true rfl) ⟨Nat.le_of_ble_eq_true rfl, Nat.le_of_ble_eq_true rfl⟩ ⟨Nat.le_refl _, Nat.le_refl _⟩ ?_
                          refine aw_if_ne (tgt := 104) eX12_set_98 (by decide) bt_r (fun hh => have h86 := bt1 hh; ?_) (fun hh => have h86 := bt0 hh; ?_)
                          · first
                            | (exfalso; omega; done)
                            | (refine aw_blk oX12_set_104 (pc' := 121) (ls' := [_, _, _, _, _]) (st' := [_]) (cs := [(_, _), (_, _)]) rfl (⟨⟨by omega, by omega⟩, ⟨by omega, by omega⟩, trivial⟩) ?_
                               refine aw_iret eX12_set_121 rfl (Nat.le_refl _) (Nat.le_refl _) ?_
                               exact pe_i rfl rfl rfl)
                          · first
                            | (exfalso; omega; done)
                            | (refine aw_blk oX12_set_101 (pc' := 103) (ls' := [_, _, _, _, _]) (st' := [_]) (cs := []) rfl trivial ?_
                               refine aw_iret eX12_set_103 rfl (Nat.le_refl _) (Nat.le_refl _) ?_
                               exact pe_i rfl rfl rfl))
                     · first
                       | (exfalso; omega; done)
                       | (refine aw_blk oX12_set_83 (pc' := 86) (ls' := [_, _, _, _, _]) (st' := [_, _, _]) (cs := []) rfl trivial ?_
                          refine aw_icmp_ne (tgt := 93) eX12_set_86 (by decide) (by omega) (by omega) (fun h87 => ?_) (fun h87 => ?_)
                          · first
                            | (exfalso; omega; done)
                            | (refine aw_blk oX12_set_93 (pc' := 94) (ls' := [_, _, _, _, _]) (st' := [_, _]) (cs := []) rfl trivial ?_
                               refine aw_blk oX12_set_94 (pc' := 95) (ls' := [_, _, _, _, _]) (st' := [_, _, _]) (cs := []) rfl trivial ?_
                               refine aw_ciS (rest := []) (c_X12_in (by omega) (by omega) (by omega)) kX12_in eX12_set_95 lX12_set_95 rfl rfl (Nat.le_of_ble_eq_true rfl) ⟨Nat.le_of_ble_eq_true rfl, Nat.le_of_ble_eq_true rfl⟩ ⟨Nat.le_refl _, Nat.le_refl _⟩ ?_
                               refine aw_if_ne (tgt := 104) eX12_set_98 (by decide) bt_r (fun hh => have h88 := bt1 hh; ?_) (fun hh => have h88 := bt0 hh; ?_)
                               · first
                                 | (exfalso; omega; done)
                                 | (refine aw_blk oX12_set_104 (pc' := 121) (ls' := [_, _, _, _, _]) (st' := [_]) (cs := [(_, _), (_, _)]) rfl (⟨⟨by omega, by omega⟩, ⟨by omega, by omega⟩, trivial⟩) ?_
                                    refine aw_iret eX12_set_121 rfl (Nat.le_refl _) (Nat.le_refl _) ?_
                                    exact pe_i rfl rfl rfl)
                               · first
                                 | (exfalso; omega; done)
                                 | (refine aw_blk oX12_set_101 (pc' := 103) (ls' := [_, _, _, _, _]) (st' := [_]) (cs := []) rfl trivial ?_
                                    refine aw_iret eX12_set_103 rfl (Nat.le_refl _) (Nat.le_refl _) ?_
                                    exact pe_i rfl rfl rfl))
                          · first
                            | (exfalso; omega; done)
                            | (refine aw_blk oX12_set_89 (pc' := 94) (ls' := [_, _, _, _, _]) (st' := [_, _]) (cs := []) rfl trivial ?_
                               refine aw_blk oX12_set_94 (pc' := 95) (ls' := [_, _, _, _, _]) (st' := [_, _, _]) (cs := []) rfl trivial ?_
                               refine aw_ciS (rest := []) (c_X12_in (by omega) (by omega) (by omega)) kX12_in eX12_set_95 lX12_set_95 rfl rfl (Nat.le_of_ble_eq_true rfl) ⟨Nat.le_of_ble_eq_true rfl, Nat.le_of_ble_eq_true rfl⟩ ⟨Nat.le_refl _, Nat.le_refl _⟩ ?_
                               refine aw_if_ne (tgt := 104) eX12_set_98 (by decide) bt_r (fun hh => have h89 := bt1 hh; ?_) (fun hh => have h89 := bt0 hh; ?_)
                               · first
                                 | (exfalso; omega; done)
                                 | (refine aw_blk oX12_set_104 (pc' := 121) (ls' := [_, _, _, _, _]) (st' := [_]) (cs := [(_, _), (_, _)]) rfl (⟨⟨by omega, by omega⟩, ⟨by omega, by omega⟩, trivial⟩) ?_
                                    refine aw_iret eX12_set_121 rfl (Nat.le_refl _) (Nat.le_refl _) ?_
                                    exact pe_i rfl rfl rfl)
                               · first
                                 | (exfalso; omega; done)
                                 | (refine aw_blk oX12_set_101 (pc' := 103) (ls' := [_, _, _, _, _]) (st' := [_]) (cs := []) rfl trivial ?_
                                    refine aw_iret eX12_set_103 rfl (Nat.le_refl _) (Nat.le_refl _) ?_
                                    exact pe_i rfl rfl rfl)))))
           · first
             | (exfalso; omega; done)
             | (refine aw_blk oX12_set_17 (pc' := 76) (ls' := [_, _, _, _, _]) (st' := [_]) (cs := []) rfl trivial ?_
                refine aw_blk oX12_set_76 (pc' := 80) (ls' := [_, _, _, _, _]) (st' := [_, _, _]) (cs := []) rfl trivial ?_
                refine aw_icmp_eq (tgt := 89) eX12_set_80 (by decide) (by omega) (by omega) (fun h90 => ?_) (fun h90 => ?_)
                · first
                  | (exfalso; omega; done)
                  | (refine aw_blk oX12_set_89 (pc' := 94) (ls' := [_, _, _, _, _]) (st' := [_, _]) (cs := []) rfl trivial ?_
                     refine aw_blk oX12_set_94 (pc' := 95) (ls' := [_, _, _, _, _]) (st' := [_, _, _]) (cs := []) rfl trivial ?_
                     refine aw_ciS (rest := []) (c_X12_in (by omega) (by omega) (by omega)) kX12_in eX12_set_95 lX12_set_95 rfl rfl (Nat.le_of_ble_eq_true rfl) ⟨Nat.le_of_ble_eq_true rfl, Nat.le_of_ble_eq_true rfl⟩ ⟨Nat.le_refl _, Nat.le_refl _⟩ ?_
                     refine aw_if_ne (tgt := 104) eX12_set_98 (by decide) bt_r (fun hh => have h91 := bt1 hh; ?_) (fun hh => have h91 := bt0 hh; ?_)
                     · first
                       | (exfalso; omega; done)
                       | (refine aw_blk oX12_set_104 (pc' := 121) (ls' := [_, _, _, _, _]) (st' := [_]) (cs := [(_, _), (_, _)]) rfl (⟨⟨by omega, by omega⟩, ⟨by omega, by omega⟩, trivial⟩) ?_
                          refine aw_iret eX12_set_121 rfl (Nat.le_refl _) (Nat.le_refl _) ?_
                          exact pe_i rfl rfl rfl)
                     · first
                       | (exfalso; omega; done)
                       | (refine aw_blk oX12_set_101 (pc' := 103) (ls' := [_, _, _, _, _]) (st' := [_]) (cs := []) rfl trivial ?_
                          refine aw_iret eX12_set_103 rfl (Nat.le_refl _) (Nat.le_refl _) ?_
                          exact pe_i rfl rfl rfl))
                · first
                  | (exfalso; omega; done)
                  | (refine aw_blk oX12_set_83 (pc' := 86) (ls' := [_, _, _, _, _]) (st' := [_, _, _]) (cs := []) rfl trivial ?_
                     refine aw_icmp_ne (tgt := 93) eX12_set_86 (by decide) (by omega) (by omega) (fun h92 => ?_) (fun h92 => ?_)
                     · first
                       | (exfalso; omega; done)
                       | (refine aw_blk oX12_set_93 (pc' := 94) (ls' := [_, _, _, _, _]) (st' := [_, _]) (cs := []) rfl trivial ?_
                          refine aw_blk oX12_set_94 (pc' := 95) (ls' := [_, _, _, _, _]) (st' := [_, _, _]) (cs := []) rfl trivial ?_
                          refine aw_ciS (rest := []) (c_X12_in (by omega) (by omega) (by omega)) kX12_in eX12_set_95 lX12_set_95 rfl rfl (Nat.le_of_ble_eq_true rfl) ⟨Nat.le_of_ble_eq_true rfl, Nat.le_of_ble_eq_true rfl⟩ ⟨Nat.le_refl _, Nat.le_refl _⟩ ?_
                          refine aw_if_ne (tgt := 104) eX12_set_98 (by decide) bt_r (fun hh => have h93 := bt1 hh; ?_) (fun hh => have h93 := bt0 hh; ?_)
                          · first
                            | (exfalso; omega; done)
                            | (refine aw_blk oX12_set_104 (pc' := 121) (ls' := [_, _, _, _, _]) (st' := [_]) (cs := [(_, _), (_, _)]) rfl (⟨⟨by omega, by omega⟩, ⟨by omega, by omega⟩, trivial⟩) ?_
                               refine aw_iret eX12_set_121 rfl (Nat.le_refl _) (Nat.le_refl _) ?_
                               exact pe_i rfl rfl rfl)
                          · first
                            | (exfalso; omega; done)
                            | (refine aw_blk oX12_set_101 (pc' := 103) (ls' := [_, _, _, _, _]) (st' := [_]) (cs := []) rfl trivial ?_
                               refine aw_iret eX12_set_103 rfl (Nat.le_refl _) (Nat.le_refl _) ?_
                               exact pe_i rfl rfl rfl))
                     · first
                       | (exfalso; omega; done)
                       | (refine aw_blk oX12_set_89 (pc' := 94) (ls' := [_, _, _, _, _]) (st' := [_, _]) (cs := []) rfl trivial ?_
                          refine aw_blk oX12_set_94 (pc' := 95) (ls' := [_, _, _, _, _]) (st' := [_, _, _]) (cs := []) rfl trivial ?_
                          refine aw_ciS (rest := []) (c_X12_in (by omega) (by omega) (by omega)) kX12_in eX12_set_95 lX12_set_95 rfl rfl (Nat.le_of_ble_eq_true rfl) ⟨Nat.le_of_ble_eq_true rfl, Nat.le_of_ble_eq_true rfl⟩ ⟨Nat.le_refl _, Nat.le_refl _⟩ ?_
                          refine aw_if_ne (tgt := 104) eX12_set_98 (by decide) bt_r (fun hh => have h94 := bt1 hh; ?_) (fun hh => have h94 := bt0 hh; ?_)
                          · first
                            | (exfalso; omega; done)
                            | (refine aw_blk oX12_set_104 (pc' := 121) (ls' := [_, _, _, _, _]) (st' := [_]) (cs := [(_, _), (_, _)]) rfl (⟨⟨by omega, by omega⟩, ⟨by omega, by omega⟩, trivial⟩) ?_
                               refine aw_iret eX12_set_121 rfl (Nat.le_refl _) (Nat.le_refl _) ?_
                               exact pe_i rfl rfl rfl)
                          · first
                            | (exfalso; omega; done)
                            | (refine aw_blk oX12_set_101 (pc' := 103) (ls' := [_, _, _, _, _]) (st' := [_]) (cs := []) rfl trivial ?_
                               refine aw_iret eX12_set_103 rfl (Nat.le_refl _) (Nat.le_refl _) ?_
                               exact pe_i rfl rfl rfl)))))
      · first
        | (exfalso; omega; done)
        | (refine aw_blk oX12_set_10 (pc' := 12) (ls' := [_, _, _, _, _]) (st' := [_]) (cs := []) rfl trivial ?_
           refine aw_iret eX12_set_12 rfl (Nat.le_refl _) (Nat.le_refl _) ?_
           exact pe_i rfl rfl rfl)
theorem set_1 {κ : KX} {μ : MM} {ν : ML} {v : Int} (h : RS μ) (hc : 0 ≤ μ 2 8 ∧ μ 2 8 ≤ 10) (hv : R32 v) : LawT κ mX11_set mX12_set [aI 1, aI v] μ ν := by
  have s := h 1 (by decide) (by decide)
  have v0 : stv 0 1 = 0 := rfl
  have l0 : ((stA 0).length : Int) = 7 := rfl
  have l1 : ((stA 1).length : Int) = 7 := rfl
  have v1 : stv 1 1 = 240 := rfl
  have hc' : R32 (up μ 1 1 v 2 8) := (by omega : R32 (μ 2 8))
  by_cases c1 : 0 ≤ v ∧ v ≤ 240
  · refine ⟨μ 1 1, up μ 1 1 v, ν, up (up μ 1 1 v) 58 1 v, ?_, ?_, by omega, rfl, Or.inr ⟨?_, ?_, ?_, ?_, ?_⟩⟩
    · refine AMet.of kX11_set.1 (Nat.le_of_ble_eq_true rfl) rfl ?_
      refine aw_blk oX11_set_0 (pc' := 4) (ls' := [_, _, _, _]) (st' := [_, _, _]) (cs := []) rfl trivial ?_
      refine aw_ciS (rest := []) (c_X11_between (by omega) (by omega) (by omega)) kX11_between eX11_set_4 lX11_set_4 rfl rfl (Nat.le_of_ble_eq_true rfl) ⟨Nat.le_of_ble_eq_true rfl, Nat.le_of_ble_eq_true rfl⟩ ⟨Nat.le_refl _, Nat.le_refl _⟩ ?_
      refine aw_if_eq (tgt := 27) eX11_set_7 (by decide) bt_r (fun hh => have h95 := bt0 hh; ?_) (fun hh => have h95 := bt1 hh; ?_)
      · first
        | (exfalso; omega; done)
        | (refine aw_blk oX11_set_27 (pc' := 29) (ls' := [_, _, _, _]) (st' := [_]) (cs := []) rfl trivial ?_
           refine aw_iret eX11_set_29 rfl (Nat.le_refl _) (Nat.le_refl _) ?_
           exact pe_i rfl rfl rfl)
      · first
        | (exfalso; omega; done)
        | (refine aw_blk oX11_set_10 (pc' := 21) (ls' := [_, _, _, _]) (st' := [_, _, _]) (cs := [(_, _), (_, _)]) rfl (⟨⟨by omega, by omega⟩, ⟨by omega, by omega⟩, trivial⟩) ?_
           refine aw_ciS (rest := []) (c_X11_between (by omega) (by omega) (by omega)) kX11_between eX11_set_21 lX11_set_21 rfl rfl (Nat.le_of_ble_eq_true rfl) ⟨Nat.le_of_ble_eq_true rfl, Nat.le_of_ble_eq_true rfl⟩ ⟨Nat.le_refl _, Nat.le_refl _⟩ ?_
           refine aw_if_ne (tgt := 30) eX11_set_24 (by decide) bt_r (fun hh => have h96 := bt1 hh; ?_) (fun hh => have h96 := bt0 hh; ?_)
           · first
             | (exfalso; omega; done)
             | (refine aw_blk oX11_set_30 (pc' := 45) (ls' := [_, _, _, _]) (st' := [_]) (cs := [(_, _), (_, _)]) rfl (⟨⟨by omega, by omega⟩, ⟨by omega, by omega⟩, trivial⟩) ?_
                refine aw_if_ne (tgt := 56) eX11_set_45 (by decide) (by omega) (fun h97 => ?_) (fun h97 => ?_)
                · first
                  | (exfalso; omega; done)
                  | (refine aw_blk oX11_set_56 (pc' := 58) (ls' := [_, _, _, _]) (st' := [_, _]) (cs := []) rfl trivial ?_
                     refine aw_icmp_ne (tgt := 65) eX11_set_58 (by decide) (by omega) (by omega) (fun h98 => ?_) (fun h98 => ?_)
                     · first
                       | (exfalso; omega; done)
                       | (refine aw_blk oX11_set_65 (pc' := 66) (ls' := [_, _, _, _]) (st' := [_]) (cs := []) rfl trivial ?_
                          refine aw_iret eX11_set_66 rfl (Nat.le_refl _) (Nat.le_refl _) ?_
                          exact pe_i rfl rfl rfl)
                     · first
                       | (exfalso; omega; done)
                       | (refine aw_blk oX11_set_61 (pc' := 62) (ls' := [_, _, _, _]) (st' := [_]) (cs := []) rfl trivial ?_
                          refine aw_cvV (rest := []) (c_forget) kX11_forgetShows eX11_set_62 lX11_set_62 rfl rfl rfl rfl (Nat.le_of_ble_eq_true rfl) ⟨Nat.le_of_ble_eq_true rfl, Nat.le_of_ble_eq_true rfl⟩ ⟨Nat.le_refl _, Nat.le_refl _⟩ ?_
                          refine aw_blk oX11_set_65 (pc' := 66) (ls' := [_, _, _, _]) (st' := [_]) (cs := []) rfl trivial ?_
                          refine aw_iret eX11_set_66 rfl (Nat.le_refl _) (Nat.le_refl _) ?_
                          exact pe_i rfl rfl rfl))
                · first
                  | (exfalso; omega; done)
                  | (refine aw_blk oX11_set_48 (pc' := 53) (ls' := [_, _, _, _]) (st' := [_, _]) (cs := []) rfl trivial ?_
                     refine aw_cvV (rest := []) (c_forgetCuts (by omega) (by omega)) kX3_forgetCutsFrom eX11_set_53 lX11_set_53 rfl rfl rfl rfl (Nat.le_of_ble_eq_true rfl) ⟨Nat.le_of_ble_eq_true rfl, Nat.le_of_ble_eq_true rfl⟩ ⟨Nat.le_refl _, Nat.le_refl _⟩ ?_
                     refine aw_blk oX11_set_56 (pc' := 58) (ls' := [_, _, _, _]) (st' := [_, _]) (cs := []) rfl trivial ?_
                     refine aw_icmp_ne (tgt := 65) eX11_set_58 (by decide) (by omega) (by omega) (fun h99 => ?_) (fun h99 => ?_)
                     · first
                       | (exfalso; omega; done)
                       | (refine aw_blk oX11_set_65 (pc' := 66) (ls' := [_, _, _, _]) (st' := [_]) (cs := []) rfl trivial ?_
                          refine aw_iret eX11_set_66 rfl (Nat.le_refl _) (Nat.le_refl _) ?_
                          exact pe_i rfl rfl rfl)
                     · first
                       | (exfalso; omega; done)
                       | (refine aw_blk oX11_set_61 (pc' := 62) (ls' := [_, _, _, _]) (st' := [_]) (cs := []) rfl trivial ?_
                          refine aw_cvV (rest := []) (c_forget) kX11_forgetShows eX11_set_62 lX11_set_62 rfl rfl rfl rfl (Nat.le_of_ble_eq_true rfl) ⟨Nat.le_of_ble_eq_true rfl, Nat.le_of_ble_eq_true rfl⟩ ⟨Nat.le_refl _, Nat.le_refl _⟩ ?_
                          refine aw_blk oX11_set_65 (pc' := 66) (ls' := [_, _, _, _]) (st' := [_]) (cs := []) rfl trivial ?_
                          refine aw_iret eX11_set_66 rfl (Nat.le_refl _) (Nat.le_refl _) ?_
                          exact pe_i rfl rfl rfl)))
           · first
             | (exfalso; omega; done)
             | (refine aw_blk oX11_set_27 (pc' := 29) (ls' := [_, _, _, _]) (st' := [_]) (cs := []) rfl trivial ?_
                refine aw_iret eX11_set_29 rfl (Nat.le_refl _) (Nat.le_refl _) ?_
                exact pe_i rfl rfl rfl))
    · refine AMet.of kX12_set.1 (Nat.le_of_ble_eq_true rfl) rfl ?_
      refine aw_blk oX12_set_0 (pc' := 4) (ls' := [_, _, _, _, _]) (st' := [_, _, _]) (cs := []) rfl trivial ?_
      refine aw_ciS (rest := []) (c_X12_in (by omega) (by omega) (by omega)) kX12_in eX12_set_4 lX12_set_4 rfl rfl (Nat.le_of_ble_eq_true rfl) ⟨Nat.le_of_ble_eq_true rfl, Nat.le_of_ble_eq_true rfl⟩ ⟨Nat.le_refl _, Nat.le_refl _⟩ ?_
      refine aw_if_ne (tgt := 13) eX12_set_7 (by decide) bt_r (fun hh => have h100 := bt1 hh; ?_) (fun hh => have h100 := bt0 hh; ?_)
      · first
        | (exfalso; omega; done)
        | (refine aw_blk oX12_set_13 (pc' := 14) (ls' := [_, _, _, _, _]) (st' := [_]) (cs := []) rfl trivial ?_
           refine aw_if_ne (tgt := 22) eX12_set_14 (by decide) (by omega) (fun h101 => ?_) (fun h101 => ?_)
           · first
             | (exfalso; omega; done)
             | (refine aw_blk oX12_set_22 (pc' := 24) (ls' := [_, _, _, _, _]) (st' := [_, _]) (cs := []) rfl trivial ?_
                refine aw_icmp_ne (tgt := 33) eX12_set_24 (by decide) (by omega) (by omega) (fun h102 => ?_) (fun h102 => ?_)
                · first
                  | (exfalso; omega; done)
                  | (refine aw_blk oX12_set_33 (pc' := 35) (ls' := [_, _, _, _, _]) (st' := [_, _]) (cs := []) rfl trivial ?_
                     refine aw_icmp_ne (tgt := 43) eX12_set_35 (by decide) (by omega) (by omega) (fun h103 => ?_) (fun h103 => ?_)
                     · first
                       | (exfalso; omega; done)
                       | (refine aw_blk oX12_set_43 (pc' := 45) (ls' := [_, _, _, _, _]) (st' := [_, _]) (cs := []) rfl trivial ?_
                          refine aw_icmp_ne (tgt := 53) eX12_set_45 (by decide) (by omega) (by omega) (fun h104 => ?_) (fun h104 => ?_)
                          · first
                            | (exfalso; omega; done)
                            | (refine aw_blk oX12_set_53 (pc' := 55) (ls' := [_, _, _, _, _]) (st' := [_, _]) (cs := []) rfl trivial ?_
                               refine aw_icmp_ne (tgt := 63) eX12_set_55 (by decide) (by omega) (by omega) (fun h105 => ?_) (fun h105 => ?_)
                               · first
                                 | (exfalso; omega; done)
                                 | (refine aw_blk oX12_set_63 (pc' := 65) (ls' := [_, _, _, _, _]) (st' := [_, _]) (cs := []) rfl trivial ?_
                                    refine aw_icmp_ne (tgt := 74) eX12_set_65 (by decide) (by omega) (by omega) (fun h106 => ?_) (fun h106 => ?_)
                                    · first
                                      | (exfalso; omega; done)
                                      | (refine aw_blk oX12_set_74 (pc' := 76) (ls' := [_, _, _, _, _]) (st' := [_]) (cs := []) rfl trivial ?_
                                         refine aw_blk oX12_set_76 (pc' := 80) (ls' := [_, _, _, _, _]) (st' := [_, _, _]) (cs := []) rfl trivial ?_
                                         refine aw_icmp_eq (tgt := 89) eX12_set_80 (by decide) (by omega) (by omega) (fun h107 => ?_) (fun h107 => ?_)
                                         · first
                                           | (exfalso; omega; done)
                                           | (refine aw_blk oX12_set_89 (pc' := 94) (ls' := [_, _, _, _, _]) (st' := [_, _]) (cs := []) rfl trivial ?_
                                              refine aw_blk oX12_set_94 (pc' := 95) (ls' := [_, _, _, _, _]) (st' := [_, _, _]) (cs := []) rfl trivial ?_
                                              refine aw_ciS (rest := []) (c_X12_in (by omega) (by omega) (by omega)) kX12_in eX12_set_95 lX12_set_95 rfl rfl (Nat.le_of_ble_eq_true rfl) ⟨Nat.le_of_ble_eq_true rfl, Nat.le_of_ble_eq_true rfl⟩ ⟨Nat.le_refl _, Nat.le_refl _⟩ ?_
                                              refine aw_if_ne (tgt := 104) eX12_set_98 (by decide) bt_r (fun hh => have h108 := bt1 hh; ?_) (fun hh => have h108 := bt0 hh; ?_)
                                              · first
                                                | (exfalso; omega; done)
                                                | (refine aw_blk oX12_set_104 (pc' := 121) (ls' := [_, _, _, _, _]) (st' := [_]) (cs := [(_, _), (_, _)]) rfl (⟨⟨by omega, by omega⟩, ⟨by omega, by omega⟩, trivial⟩) ?_
                                                   refine aw_iret eX12_set_121 rfl (Nat.le_refl _) (Nat.le_refl _) ?_
                                                   exact pe_i s.1 rfl rfl)
                                              · first
                                                | (exfalso; omega; done)
                                                | (refine aw_blk oX12_set_101 (pc' := 103) (ls' := [_, _, _, _, _]) (st' := [_]) (cs := []) rfl trivial ?_
                                                   refine aw_iret eX12_set_103 rfl (Nat.le_refl _) (Nat.le_refl _) ?_
                                                   exact pe_i s.1 rfl rfl))
                                         · first
                                           | (exfalso; omega; done)
                                           | (refine aw_blk oX12_set_83 (pc' := 86) (ls' := [_, _, _, _, _]) (st' := [_, _, _]) (cs := []) rfl trivial ?_
                                              refine aw_icmp_ne (tgt := 93) eX12_set_86 (by decide) (by omega) (by omega) (fun h109 => ?_) (fun h109 => ?_)
                                              · first
                                                | (exfalso; omega; done)
                                                | (refine aw_blk oX12_set_93 (pc' := 94) (ls' := [_, _, _, _, _]) (st' := [_, _]) (cs := []) rfl trivial ?_
                                                   refine aw_blk oX12_set_94 (pc' := 95) (ls' := [_, _, _, _, _]) (st' := [_, _, _]) (cs := []) rfl trivial ?_
                                                   refine aw_ciS (rest := []) (c_X12_in (by omega) (by omega) (by omega)) kX12_in eX12_set_95 lX12_set_95 rfl rfl (Nat.le_of_ble_eq_true rfl) ⟨Nat.le_of_ble_eq_true rfl, Nat.le_of_ble_eq_true rfl⟩ ⟨Nat.le_refl _, Nat.le_refl _⟩ ?_
                                                   refine aw_if_ne (tgt := 104) eX12_set_98 (by decide) bt_r (fun hh => have h110 := bt1 hh; ?_) (fun hh => have h110 := bt0 hh; ?_)
                                                   · first
                                                     | (exfalso; omega; done)
                                                     | (refine aw_blk oX12_set_104 (pc' := 121) (ls' := [_, _, _, _, _]) (st' := [_]) (cs := [(_, _), (_, _)]) rfl (⟨⟨by omega, by omega⟩, ⟨by omega, by omega⟩, trivial⟩) ?_
                                                        refine aw_iret eX12_set_121 rfl (Nat.le_refl _) (Nat.le_refl _) ?_
                                                        exact pe_i s.1 rfl rfl)
                                                   · first
                                                     | (exfalso; omega; done)
                                                     | (refine aw_blk oX12_set_101 (pc' := 103) (ls' := [_, _, _, _, _]) (st' := [_]) (cs := []) rfl trivial ?_
                                                        refine aw_iret eX12_set_103 rfl (Nat.le_refl _) (Nat.le_refl _) ?_
                                                        exact pe_i s.1 rfl rfl))
                                              · first
                                                | (exfalso; omega; done)
                                                | (refine aw_blk oX12_set_89 (pc' := 94) (ls' := [_, _, _, _, _]) (st' := [_, _]) (cs := []) rfl trivial ?_
                                                   refine aw_blk oX12_set_94 (pc' := 95) (ls' := [_, _, _, _, _]) (st' := [_, _, _]) (cs := []) rfl trivial ?_
                                                   refine aw_ciS (rest := []) (c_X12_in (by omega) (by omega) (by omega)) kX12_in eX12_set_95 lX12_set_95 rfl rfl (Nat.le_of_ble_eq_true rfl) ⟨Nat.le_of_ble_eq_true rfl, Nat.le_of_ble_eq_true rfl⟩ ⟨Nat.le_refl _, Nat.le_refl _⟩ ?_
                                                   refine aw_if_ne (tgt := 104) eX12_set_98 (by decide) bt_r (fun hh => have h111 := bt1 hh; ?_) (fun hh => have h111 := bt0 hh; ?_)
                                                   · first
                                                     | (exfalso; omega; done)
                                                     | (refine aw_blk oX12_set_104 (pc' := 121) (ls' := [_, _, _, _, _]) (st' := [_]) (cs := [(_, _), (_, _)]) rfl (⟨⟨by omega, by omega⟩, ⟨by omega, by omega⟩, trivial⟩) ?_
                                                        refine aw_iret eX12_set_121 rfl (Nat.le_refl _) (Nat.le_refl _) ?_
                                                        exact pe_i s.1 rfl rfl)
                                                   · first
                                                     | (exfalso; omega; done)
                                                     | (refine aw_blk oX12_set_101 (pc' := 103) (ls' := [_, _, _, _, _]) (st' := [_]) (cs := []) rfl trivial ?_
                                                        refine aw_iret eX12_set_103 rfl (Nat.le_refl _) (Nat.le_refl _) ?_
                                                        exact pe_i s.1 rfl rfl))))
                                    · first
                                      | (exfalso; omega; done)
                                      | (refine aw_blk oX12_set_68 (pc' := 76) (ls' := [_, _, _, _, _]) (st' := [_]) (cs := []) rfl trivial ?_
                                         refine aw_blk oX12_set_76 (pc' := 80) (ls' := [_, _, _, _, _]) (st' := [_, _, _]) (cs := []) rfl trivial ?_
                                         refine aw_icmp_eq (tgt := 89) eX12_set_80 (by decide) (by omega) (by omega) (fun h112 => ?_) (fun h112 => ?_)
                                         · first
                                           | (exfalso; omega; done)
                                           | (refine aw_blk oX12_set_89 (pc' := 94) (ls' := [_, _, _, _, _]) (st' := [_, _]) (cs := []) rfl trivial ?_
                                              refine aw_blk oX12_set_94 (pc' := 95) (ls' := [_, _, _, _, _]) (st' := [_, _, _]) (cs := []) rfl trivial ?_
                                              refine aw_ciS (rest := []) (c_X12_in (by omega) (by omega) (by omega)) kX12_in eX12_set_95 lX12_set_95 rfl rfl (Nat.le_of_ble_eq_true rfl) ⟨Nat.le_of_ble_eq_true rfl, Nat.le_of_ble_eq_true rfl⟩ ⟨Nat.le_refl _, Nat.le_refl _⟩ ?_
                                              refine aw_if_ne (tgt := 104) eX12_set_98 (by decide) bt_r (fun hh => have h113 := bt1 hh; ?_) (fun hh => have h113 := bt0 hh; ?_)
                                              · first
                                                | (exfalso; omega; done)
                                                | (refine aw_blk oX12_set_104 (pc' := 121) (ls' := [_, _, _, _, _]) (st' := [_]) (cs := [(_, _), (_, _)]) rfl (⟨⟨by omega, by omega⟩, ⟨by omega, by omega⟩, trivial⟩) ?_
                                                   refine aw_iret eX12_set_121 rfl (Nat.le_refl _) (Nat.le_refl _) ?_
                                                   exact pe_i s.1 rfl rfl)
                                              · first
                                                | (exfalso; omega; done)
                                                | (refine aw_blk oX12_set_101 (pc' := 103) (ls' := [_, _, _, _, _]) (st' := [_]) (cs := []) rfl trivial ?_
                                                   refine aw_iret eX12_set_103 rfl (Nat.le_refl _) (Nat.le_refl _) ?_
                                                   exact pe_i s.1 rfl rfl))
                                         · first
                                           | (exfalso; omega; done)
                                           | (refine aw_blk oX12_set_83 (pc' := 86) (ls' := [_, _, _, _, _]) (st' := [_, _, _]) (cs := []) rfl trivial ?_
                                              refine aw_icmp_ne (tgt := 93) eX12_set_86 (by decide) (by omega) (by omega) (fun h114 => ?_) (fun h114 => ?_)
                                              · first
                                                | (exfalso; omega; done)
                                                | (refine aw_blk oX12_set_93 (pc' := 94) (ls' := [_, _, _, _, _]) (st' := [_, _]) (cs := []) rfl trivial ?_
                                                   refine aw_blk oX12_set_94 (pc' := 95) (ls' := [_, _, _, _, _]) (st' := [_, _, _]) (cs := []) rfl trivial ?_
                                                   refine aw_ciS (rest := []) (c_X12_in (by omega) (by omega) (by omega)) kX12_in eX12_set_95 lX12_set_95 rfl rfl (Nat.le_of_ble_eq_true rfl) ⟨Nat.le_of_ble_eq_true rfl, Nat.le_of_ble_eq_true rfl⟩ ⟨Nat.le_refl _, Nat.le_refl _⟩ ?_
                                                   refine aw_if_ne (tgt := 104) eX12_set_98 (by decide) bt_r (fun hh => have h115 := bt1 hh; ?_) (fun hh => have h115 := bt0 hh; ?_)
                                                   · first
                                                     | (exfalso; omega; done)
                                                     | (refine aw_blk oX12_set_104 (pc' := 121) (ls' := [_, _, _, _, _]) (st' := [_]) (cs := [(_, _), (_, _)]) rfl (⟨⟨by omega, by omega⟩, ⟨by omega, by omega⟩, trivial⟩) ?_
                                                        refine aw_iret eX12_set_121 rfl (Nat.le_refl _) (Nat.le_refl _) ?_
                                                        exact pe_i s.1 rfl rfl)
                                                   · first
                                                     | (exfalso; omega; done)
                                                     | (refine aw_blk oX12_set_101 (pc' := 103) (ls' := [_, _, _, _, _]) (st' := [_]) (cs := []) rfl trivial ?_
                                                        refine aw_iret eX12_set_103 rfl (Nat.le_refl _) (Nat.le_refl _) ?_
                                                        exact pe_i s.1 rfl rfl))
                                              · first
                                                | (exfalso; omega; done)
                                                | (refine aw_blk oX12_set_89 (pc' := 94) (ls' := [_, _, _, _, _]) (st' := [_, _]) (cs := []) rfl trivial ?_
                                                   refine aw_blk oX12_set_94 (pc' := 95) (ls' := [_, _, _, _, _]) (st' := [_, _, _]) (cs := []) rfl trivial ?_
                                                   refine aw_ciS (rest := []) (c_X12_in (by omega) (by omega) (by omega)) kX12_in eX12_set_95 lX12_set_95 rfl rfl (Nat.le_of_ble_eq_true rfl) ⟨Nat.le_of_ble_eq_true rfl, Nat.le_of_ble_eq_true rfl⟩ ⟨Nat.le_refl _, Nat.le_refl _⟩ ?_
                                                   refine aw_if_ne (tgt := 104) eX12_set_98 (by decide) bt_r (fun hh => have h116 := bt1 hh; ?_) (fun hh => have h116 := bt0 hh; ?_)
                                                   · first
                                                     | (exfalso; omega; done)
                                                     | (refine aw_blk oX12_set_104 (pc' := 121) (ls' := [_, _, _, _, _]) (st' := [_]) (cs := [(_, _), (_, _)]) rfl (⟨⟨by omega, by omega⟩, ⟨by omega, by omega⟩, trivial⟩) ?_
                                                        refine aw_iret eX12_set_121 rfl (Nat.le_refl _) (Nat.le_refl _) ?_
                                                        exact pe_i s.1 rfl rfl)
                                                   · first
                                                     | (exfalso; omega; done)
                                                     | (refine aw_blk oX12_set_101 (pc' := 103) (ls' := [_, _, _, _, _]) (st' := [_]) (cs := []) rfl trivial ?_
                                                        refine aw_iret eX12_set_103 rfl (Nat.le_refl _) (Nat.le_refl _) ?_
                                                        exact pe_i s.1 rfl rfl)))))
                               · first
                                 | (exfalso; omega; done)
                                 | (refine aw_blk oX12_set_58 (pc' := 76) (ls' := [_, _, _, _, _]) (st' := [_]) (cs := []) rfl trivial ?_
                                    refine aw_blk oX12_set_76 (pc' := 80) (ls' := [_, _, _, _, _]) (st' := [_, _, _]) (cs := []) rfl trivial ?_
                                    refine aw_icmp_eq (tgt := 89) eX12_set_80 (by decide) (by omega) (by omega) (fun h117 => ?_) (fun h117 => ?_)
                                    · first
                                      | (exfalso; omega; done)
                                      | (refine aw_blk oX12_set_89 (pc' := 94) (ls' := [_, _, _, _, _]) (st' := [_, _]) (cs := []) rfl trivial ?_
                                         refine aw_blk oX12_set_94 (pc' := 95) (ls' := [_, _, _, _, _]) (st' := [_, _, _]) (cs := []) rfl trivial ?_
                                         refine aw_ciS (rest := []) (c_X12_in (by omega) (by omega) (by omega)) kX12_in eX12_set_95 lX12_set_95 rfl rfl (Nat.le_of_ble_eq_true rfl) ⟨Nat.le_of_ble_eq_true rfl, Nat.le_of_ble_eq_true rfl⟩ ⟨Nat.le_refl _, Nat.le_refl _⟩ ?_
                                         refine aw_if_ne (tgt := 104) eX12_set_98 (by decide) bt_r (fun hh => have h118 := bt1 hh; ?_) (fun hh => have h118 := bt0 hh; ?_)
                                         · first
                                           | (exfalso; omega; done)
                                           | (refine aw_blk oX12_set_104 (pc' := 121) (ls' := [_, _, _, _, _]) (st' := [_]) (cs := [(_, _), (_, _)]) rfl (⟨⟨by omega, by omega⟩, ⟨by omega, by omega⟩, trivial⟩) ?_
                                              refine aw_iret eX12_set_121 rfl (Nat.le_refl _) (Nat.le_refl _) ?_
                                              exact pe_i s.1 rfl rfl)
                                         · first
                                           | (exfalso; omega; done)
                                           | (refine aw_blk oX12_set_101 (pc' := 103) (ls' := [_, _, _, _, _]) (st' := [_]) (cs := []) rfl trivial ?_
                                              refine aw_iret eX12_set_103 rfl (Nat.le_refl _) (Nat.le_refl _) ?_
                                              exact pe_i s.1 rfl rfl))
                                    · first
                                      | (exfalso; omega; done)
                                      | (refine aw_blk oX12_set_83 (pc' := 86) (ls' := [_, _, _, _, _]) (st' := [_, _, _]) (cs := []) rfl trivial ?_
                                         refine aw_icmp_ne (tgt := 93) eX12_set_86 (by decide) (by omega) (by omega) (fun h119 => ?_) (fun h119 => ?_)
                                         · first
                                           | (exfalso; omega; done)
                                           | (refine aw_blk oX12_set_93 (pc' := 94) (ls' := [_, _, _, _, _]) (st' := [_, _]) (cs := []) rfl trivial ?_
                                              refine aw_blk oX12_set_94 (pc' := 95) (ls' := [_, _, _, _, _]) (st' := [_, _, _]) (cs := []) rfl trivial ?_
                                              refine aw_ciS (rest := []) (c_X12_in (by omega) (by omega) (by omega)) kX12_in eX12_set_95 lX12_set_95 rfl rfl (Nat.le_of_ble_eq_true rfl) ⟨Nat.le_of_ble_eq_true rfl, Nat.le_of_ble_eq_true rfl⟩ ⟨Nat.le_refl _, Nat.le_refl _⟩ ?_
                                              refine aw_if_ne (tgt := 104) eX12_set_98 (by decide) bt_r (fun hh => have h120 := bt1 hh; ?_) (fun hh => have h120 := bt0 hh; ?_)
                                              · first
                                                | (exfalso; omega; done)
                                                | (refine aw_blk oX12_set_104 (pc' := 121) (ls' := [_, _, _, _, _]) (st' := [_]) (cs := [(_, _), (_, _)]) rfl (⟨⟨by omega, by omega⟩, ⟨by omega, by omega⟩, trivial⟩) ?_
                                                   refine aw_iret eX12_set_121 rfl (Nat.le_refl _) (Nat.le_refl _) ?_
                                                   exact pe_i s.1 rfl rfl)
                                              · first
                                                | (exfalso; omega; done)
                                                | (refine aw_blk oX12_set_101 (pc' := 103) (ls' := [_, _, _, _, _]) (st' := [_]) (cs := []) rfl trivial ?_
                                                   refine aw_iret eX12_set_103 rfl (Nat.le_refl _) (Nat.le_refl _) ?_
                                                   exact pe_i s.1 rfl rfl))
                                         · first
                                           | (exfalso; omega; done)
                                           | (refine aw_blk oX12_set_89 (pc' := 94) (ls' := [_, _, _, _, _]) (st' := [_, _]) (cs := []) rfl trivial ?_
                                              refine aw_blk oX12_set_94 (pc' := 95) (ls' := [_, _, _, _, _]) (st' := [_, _, _]) (cs := []) rfl trivial ?_
                                              refine aw_ciS (rest := []) (c_X12_in (by omega) (by omega) (by omega)) kX12_in eX12_set_95 lX12_set_95 rfl rfl (Nat.le_of_ble_eq_true rfl) ⟨Nat.le_of_ble_eq_true rfl, Nat.le_of_ble_eq_true rfl⟩ ⟨Nat.le_refl _, Nat.le_refl _⟩ ?_
                                              refine aw_if_ne (tgt := 104) eX12_set_98 (by decide) bt_r (fun hh => have h121 := bt1 hh; ?_) (fun hh => have h121 := bt0 hh; ?_)
                                              · first
                                                | (exfalso; omega; done)
                                                | (refine aw_blk oX12_set_104 (pc' := 121) (ls' := [_, _, _, _, _]) (st' := [_]) (cs := [(_, _), (_, _)]) rfl (⟨⟨by omega, by omega⟩, ⟨by omega, by omega⟩, trivial⟩) ?_
                                                   refine aw_iret eX12_set_121 rfl (Nat.le_refl _) (Nat.le_refl _) ?_
                                                   exact pe_i s.1 rfl rfl)
                                              · first
                                                | (exfalso; omega; done)
                                                | (refine aw_blk oX12_set_101 (pc' := 103) (ls' := [_, _, _, _, _]) (st' := [_]) (cs := []) rfl trivial ?_
                                                   refine aw_iret eX12_set_103 rfl (Nat.le_refl _) (Nat.le_refl _) ?_
                                                   exact pe_i s.1 rfl rfl)))))
                          · first
                            | (exfalso; omega; done)
                            | (refine aw_blk oX12_set_48 (pc' := 76) (ls' := [_, _, _, _, _]) (st' := [_]) (cs := []) rfl trivial ?_
                               refine aw_blk oX12_set_76 (pc' := 80) (ls' := [_, _, _, _, _]) (st' := [_, _, _]) (cs := []) rfl trivial ?_
                               refine aw_icmp_eq (tgt := 89) eX12_set_80 (by decide) (by omega) (by omega) (fun h122 => ?_) (fun h122 => ?_)
                               · first
                                 | (exfalso; omega; done)
                                 | (refine aw_blk oX12_set_89 (pc' := 94) (ls' := [_, _, _, _, _]) (st' := [_, _]) (cs := []) rfl trivial ?_
                                    refine aw_blk oX12_set_94 (pc' := 95) (ls' := [_, _, _, _, _]) (st' := [_, _, _]) (cs := []) rfl trivial ?_
                                    refine aw_ciS (rest := []) (c_X12_in (by omega) (by omega) (by omega)) kX12_in eX12_set_95 lX12_set_95 rfl rfl (Nat.le_of_ble_eq_true rfl) ⟨Nat.le_of_ble_eq_true rfl, Nat.le_of_ble_eq_true rfl⟩ ⟨Nat.le_refl _, Nat.le_refl _⟩ ?_
                                    refine aw_if_ne (tgt := 104) eX12_set_98 (by decide) bt_r (fun hh => have h123 := bt1 hh; ?_) (fun hh => have h123 := bt0 hh; ?_)
                                    · first
                                      | (exfalso; omega; done)
                                      | (refine aw_blk oX12_set_104 (pc' := 121) (ls' := [_, _, _, _, _]) (st' := [_]) (cs := [(_, _), (_, _)]) rfl (⟨⟨by omega, by omega⟩, ⟨by omega, by omega⟩, trivial⟩) ?_
                                         refine aw_iret eX12_set_121 rfl (Nat.le_refl _) (Nat.le_refl _) ?_
                                         exact pe_i s.1 rfl rfl)
                                    · first
                                      | (exfalso; omega; done)
                                      | (refine aw_blk oX12_set_101 (pc' := 103) (ls' := [_, _, _, _, _]) (st' := [_]) (cs := []) rfl trivial ?_
                                         refine aw_iret eX12_set_103 rfl (Nat.le_refl _) (Nat.le_refl _) ?_
                                         exact pe_i s.1 rfl rfl))
                               · first
                                 | (exfalso; omega; done)
                                 | (refine aw_blk oX12_set_83 (pc' := 86) (ls' := [_, _, _, _, _]) (st' := [_, _, _]) (cs := []) rfl trivial ?_
                                    refine aw_icmp_ne (tgt := 93) eX12_set_86 (by decide) (by omega) (by omega) (fun h124 => ?_) (fun h124 => ?_)
                                    · first
                                      | (exfalso; omega; done)
                                      | (refine aw_blk oX12_set_93 (pc' := 94) (ls' := [_, _, _, _, _]) (st' := [_, _]) (cs := []) rfl trivial ?_
                                         refine aw_blk oX12_set_94 (pc' := 95) (ls' := [_, _, _, _, _]) (st' := [_, _, _]) (cs := []) rfl trivial ?_
                                         refine aw_ciS (rest := []) (c_X12_in (by omega) (by omega) (by omega)) kX12_in eX12_set_95 lX12_set_95 rfl rfl (Nat.le_of_ble_eq_true rfl) ⟨Nat.le_of_ble_eq_true rfl, Nat.le_of_ble_eq_true rfl⟩ ⟨Nat.le_refl _, Nat.le_refl _⟩ ?_
                                         refine aw_if_ne (tgt := 104) eX12_set_98 (by decide) bt_r (fun hh => have h125 := bt1 hh; ?_) (fun hh => have h125 := bt0 hh; ?_)
                                         · first
                                           | (exfalso; omega; done)
                                           | (refine aw_blk oX12_set_104 (pc' := 121) (ls' := [_, _, _, _, _]) (st' := [_]) (cs := [(_, _), (_, _)]) rfl (⟨⟨by omega, by omega⟩, ⟨by omega, by omega⟩, trivial⟩) ?_
                                              refine aw_iret eX12_set_121 rfl (Nat.le_refl _) (Nat.le_refl _) ?_
                                              exact pe_i s.1 rfl rfl)
                                         · first
                                           | (exfalso; omega; done)
                                           | (refine aw_blk oX12_set_101 (pc' := 103) (ls' := [_, _, _, _, _]) (st' := [_]) (cs := []) rfl trivial ?_
                                              refine aw_iret eX12_set_103 rfl (Nat.le_refl _) (Nat.le_refl _) ?_
                                              exact pe_i s.1 rfl rfl))
                                    · first
                                      | (exfalso; omega; done)
                                      | (refine aw_blk oX12_set_89 (pc' := 94) (ls' := [_, _, _, _, _]) (st' := [_, _]) (cs := []) rfl trivial ?_
                                         refine aw_blk oX12_set_94 (pc' := 95) (ls' := [_, _, _, _, _]) (st' := [_, _, _]) (cs := []) rfl trivial ?_
                                         refine aw_ciS (rest := []) (c_X12_in (by omega) (by omega) (by omega)) kX12_in eX12_set_95 lX12_set_95 rfl rfl (Nat.le_of_ble_eq_true rfl) ⟨Nat.le_of_ble_eq_true rfl, Nat.le_of_ble_eq_true rfl⟩ ⟨Nat.le_refl _, Nat.le_refl _⟩ ?_
                                         refine aw_if_ne (tgt := 104) eX12_set_98 (by decide) bt_r (fun hh => have h126 := bt1 hh; ?_) (fun hh => have h126 := bt0 hh; ?_)
                                         · first
                                           | (exfalso; omega; done)
                                           | (refine aw_blk oX12_set_104 (pc' := 121) (ls' := [_, _, _, _, _]) (st' := [_]) (cs := [(_, _), (_, _)]) rfl (⟨⟨by omega, by omega⟩, ⟨by omega, by omega⟩, trivial⟩) ?_
                                              refine aw_iret eX12_set_121 rfl (Nat.le_refl _) (Nat.le_refl _) ?_
                                              exact pe_i s.1 rfl rfl)
                                         · first
                                           | (exfalso; omega; done)
                                           | (refine aw_blk oX12_set_101 (pc' := 103) (ls' := [_, _, _, _, _]) (st' := [_]) (cs := []) rfl trivial ?_
                                              refine aw_iret eX12_set_103 rfl (Nat.le_refl _) (Nat.le_refl _) ?_
                                              exact pe_i s.1 rfl rfl)))))
                     · first
                       | (exfalso; omega; done)
                       | (refine aw_blk oX12_set_38 (pc' := 76) (ls' := [_, _, _, _, _]) (st' := [_]) (cs := []) rfl trivial ?_
                          refine aw_blk oX12_set_76 (pc' := 80) (ls' := [_, _, _, _, _]) (st' := [_, _, _]) (cs := []) rfl trivial ?_
                          refine aw_icmp_eq (tgt := 89) eX12_set_80 (by decide) (by omega) (by omega) (fun h127 => ?_) (fun h127 => ?_)
                          · first
                            | (exfalso; omega; done)
                            | (refine aw_blk oX12_set_89 (pc' := 94) (ls' := [_, _, _, _, _]) (st' := [_, _]) (cs := []) rfl trivial ?_
                               refine aw_blk oX12_set_94 (pc' := 95) (ls' := [_, _, _, _, _]) (st' := [_, _, _]) (cs := []) rfl trivial ?_
                               refine aw_ciS (rest := []) (c_X12_in (by omega) (by omega) (by omega)) kX12_in eX12_set_95 lX12_set_95 rfl rfl (Nat.le_of_ble_eq_true rfl) ⟨Nat.le_of_ble_eq_true rfl, Nat.le_of_ble_eq_true rfl⟩ ⟨Nat.le_refl _, Nat.le_refl _⟩ ?_
                               refine aw_if_ne (tgt := 104) eX12_set_98 (by decide) bt_r (fun hh => have h128 := bt1 hh; ?_) (fun hh => have h128 := bt0 hh; ?_)
                               · first
                                 | (exfalso; omega; done)
                                 | (refine aw_blk oX12_set_104 (pc' := 121) (ls' := [_, _, _, _, _]) (st' := [_]) (cs := [(_, _), (_, _)]) rfl (⟨⟨by omega, by omega⟩, ⟨by omega, by omega⟩, trivial⟩) ?_
                                    refine aw_iret eX12_set_121 rfl (Nat.le_refl _) (Nat.le_refl _) ?_
                                    exact pe_i s.1 rfl rfl)
                               · first
                                 | (exfalso; omega; done)
                                 | (refine aw_blk oX12_set_101 (pc' := 103) (ls' := [_, _, _, _, _]) (st' := [_]) (cs := []) rfl trivial ?_
                                    refine aw_iret eX12_set_103 rfl (Nat.le_refl _) (Nat.le_refl _) ?_
                                    exact pe_i s.1 rfl rfl))
                          · first
                            | (exfalso; omega; done)
                            | (refine aw_blk oX12_set_83 (pc' := 86) (ls' := [_, _, _, _, _]) (st' := [_, _, _]) (cs := []) rfl trivial ?_
                               refine aw_icmp_ne (tgt := 93) eX12_set_86 (by decide) (by omega) (by omega) (fun h129 => ?_) (fun h129 => ?_)
                               · first
                                 | (exfalso; omega; done)
                                 | (refine aw_blk oX12_set_93 (pc' := 94) (ls' := [_, _, _, _, _]) (st' := [_, _]) (cs := []) rfl trivial ?_
                                    refine aw_blk oX12_set_94 (pc' := 95) (ls' := [_, _, _, _, _]) (st' := [_, _, _]) (cs := []) rfl trivial ?_
                                    refine aw_ciS (rest := []) (c_X12_in (by omega) (by omega) (by omega)) kX12_in eX12_set_95 lX12_set_95 rfl rfl (Nat.le_of_ble_eq_true rfl) ⟨Nat.le_of_ble_eq_true rfl, Nat.le_of_ble_eq_true rfl⟩ ⟨Nat.le_refl _, Nat.le_refl _⟩ ?_
                                    refine aw_if_ne (tgt := 104) eX12_set_98 (by decide) bt_r (fun hh => have h130 := bt1 hh; ?_) (fun hh => have h130 := bt0 hh; ?_)
                                    · first
                                      | (exfalso; omega; done)
                                      | (refine aw_blk oX12_set_104 (pc' := 121) (ls' := [_, _, _, _, _]) (st' := [_]) (cs := [(_, _), (_, _)]) rfl (⟨⟨by omega, by omega⟩, ⟨by omega, by omega⟩, trivial⟩) ?_
                                         refine aw_iret eX12_set_121 rfl (Nat.le_refl _) (Nat.le_refl _) ?_
                                         exact pe_i s.1 rfl rfl)
                                    · first
                                      | (exfalso; omega; done)
                                      | (refine aw_blk oX12_set_101 (pc' := 103) (ls' := [_, _, _, _, _]) (st' := [_]) (cs := []) rfl trivial ?_
                                         refine aw_iret eX12_set_103 rfl (Nat.le_refl _) (Nat.le_refl _) ?_
                                         exact pe_i s.1 rfl rfl))
                               · first
                                 | (exfalso; omega; done)
                                 | (refine aw_blk oX12_set_89 (pc' := 94) (ls' := [_, _, _, _, _]) (st' := [_, _]) (cs := []) rfl trivial ?_
                                    refine aw_blk oX12_set_94 (pc' := 95) (ls' := [_, _, _, _, _]) (st' := [_, _, _]) (cs := []) rfl trivial ?_
                                    refine aw_ciS (rest := []) (c_X12_in (by omega) (by omega) (by omega)) kX12_in eX12_set_95 lX12_set_95 rfl rfl (Nat.le_of_ble_eq_true rfl) ⟨Nat.le_of_ble_eq_true rfl, Nat.le_of_ble_eq_true rfl⟩ ⟨Nat.le_refl _, Nat.le_refl _⟩ ?_
                                    refine aw_if_ne (tgt := 104) eX12_set_98 (by decide) bt_r (fun hh => have h131 := bt1 hh; ?_) (fun hh => have h131 := bt0 hh; ?_)
                                    · first
                                      | (exfalso; omega; done)
                                      | (refine aw_blk oX12_set_104 (pc' := 121) (ls' := [_, _, _, _, _]) (st' := [_]) (cs := [(_, _), (_, _)]) rfl (⟨⟨by omega, by omega⟩, ⟨by omega, by omega⟩, trivial⟩) ?_
                                         refine aw_iret eX12_set_121 rfl (Nat.le_refl _) (Nat.le_refl _) ?_
                                         exact pe_i s.1 rfl rfl)
                                    · first
                                      | (exfalso; omega; done)
                                      | (refine aw_blk oX12_set_101 (pc' := 103) (ls' := [_, _, _, _, _]) (st' := [_]) (cs := []) rfl trivial ?_
                                         refine aw_iret eX12_set_103 rfl (Nat.le_refl _) (Nat.le_refl _) ?_
                                         exact pe_i s.1 rfl rfl)))))
                · first
                  | (exfalso; omega; done)
                  | (refine aw_blk oX12_set_27 (pc' := 76) (ls' := [_, _, _, _, _]) (st' := [_]) (cs := []) rfl trivial ?_
                     refine aw_blk oX12_set_76 (pc' := 80) (ls' := [_, _, _, _, _]) (st' := [_, _, _]) (cs := []) rfl trivial ?_
                     refine aw_icmp_eq (tgt := 89) eX12_set_80 (by decide) (by omega) (by omega) (fun h132 => ?_) (fun h132 => ?_)
                     · first
                       | (exfalso; omega; done)
                       | (refine aw_blk oX12_set_89 (pc' := 94) (ls' := [_, _, _, _, _]) (st' := [_, _]) (cs := []) rfl trivial ?_
                          refine aw_blk oX12_set_94 (pc' := 95) (ls' := [_, _, _, _, _]) (st' := [_, _, _]) (cs := []) rfl trivial ?_
                          refine aw_ciS (rest := []) (c_X12_in (by omega) (by omega) (by omega)) kX12_in eX12_set_95 lX12_set_95 rfl rfl (Nat.le_of_ble_eq_true rfl) ⟨Nat.le_of_ble_eq_true rfl, Nat.le_of_ble_eq_true rfl⟩ ⟨Nat.le_refl _, Nat.le_refl _⟩ ?_
                          refine aw_if_ne (tgt := 104) eX12_set_98 (by decide) bt_r (fun hh => have h133 := bt1 hh; ?_) (fun hh => have h133 := bt0 hh; ?_)
                          · first
                            | (exfalso; omega; done)
                            | (refine aw_blk oX12_set_104 (pc' := 121) (ls' := [_, _, _, _, _]) (st' := [_]) (cs := [(_, _), (_, _)]) rfl (⟨⟨by omega, by omega⟩, ⟨by omega, by omega⟩, trivial⟩) ?_
                               refine aw_iret eX12_set_121 rfl (Nat.le_refl _) (Nat.le_refl _) ?_
                               exact pe_i s.1 rfl rfl)
                          · first
                            | (exfalso; omega; done)
                            | (refine aw_blk oX12_set_101 (pc' := 103) (ls' := [_, _, _, _, _]) (st' := [_]) (cs := []) rfl trivial ?_
                               refine aw_iret eX12_set_103 rfl (Nat.le_refl _) (Nat.le_refl _) ?_
                               exact pe_i s.1 rfl rfl))
                     · first
                       | (exfalso; omega; done)
                       | (refine aw_blk oX12_set_83 (pc' := 86) (ls' := [_, _, _, _, _]) (st' := [_, _, _]) (cs := []) rfl trivial ?_
                          refine aw_icmp_ne (tgt := 93) eX12_set_86 (by decide) (by omega) (by omega) (fun h134 => ?_) (fun h134 => ?_)
                          · first
                            | (exfalso; omega; done)
                            | (refine aw_blk oX12_set_93 (pc' := 94) (ls' := [_, _, _, _, _]) (st' := [_, _]) (cs := []) rfl trivial ?_
                               refine aw_blk oX12_set_94 (pc' := 95) (ls' := [_, _, _, _, _]) (st' := [_, _, _]) (cs := []) rfl trivial ?_
                               refine aw_ciS (rest := []) (c_X12_in (by omega) (by omega) (by omega)) kX12_in eX12_set_95 lX12_set_95 rfl rfl (Nat.le_of_ble_eq_true rfl) ⟨Nat.le_of_ble_eq_true rfl, Nat.le_of_ble_eq_true rfl⟩ ⟨Nat.le_refl _, Nat.le_refl _⟩ ?_
                               refine aw_if_ne (tgt := 104) eX12_set_98 (by decide) bt_r (fun hh => have h135 := bt1 hh; ?_) (fun hh => have h135 := bt0 hh; ?_)
                               · first
                                 | (exfalso; omega; done)
                                 | (refine aw_blk oX12_set_104 (pc' := 121) (ls' := [_, _, _, _, _]) (st' := [_]) (cs := [(_, _), (_, _)]) rfl (⟨⟨by omega, by omega⟩, ⟨by omega, by omega⟩, trivial⟩) ?_
                                    refine aw_iret eX12_set_121 rfl (Nat.le_refl _) (Nat.le_refl _) ?_
                                    exact pe_i s.1 rfl rfl)
                               · first
                                 | (exfalso; omega; done)
                                 | (refine aw_blk oX12_set_101 (pc' := 103) (ls' := [_, _, _, _, _]) (st' := [_]) (cs := []) rfl trivial ?_
                                    refine aw_iret eX12_set_103 rfl (Nat.le_refl _) (Nat.le_refl _) ?_
                                    exact pe_i s.1 rfl rfl))
                          · first
                            | (exfalso; omega; done)
                            | (refine aw_blk oX12_set_89 (pc' := 94) (ls' := [_, _, _, _, _]) (st' := [_, _]) (cs := []) rfl trivial ?_
                               refine aw_blk oX12_set_94 (pc' := 95) (ls' := [_, _, _, _, _]) (st' := [_, _, _]) (cs := []) rfl trivial ?_
                               refine aw_ciS (rest := []) (c_X12_in (by omega) (by omega) (by omega)) kX12_in eX12_set_95 lX12_set_95 rfl rfl (Nat.le_of_ble_eq_true rfl) ⟨Nat.le_of_ble_eq_true rfl, Nat.le_of_ble_eq_true rfl⟩ ⟨Nat.le_refl _, Nat.le_refl _⟩ ?_
                               refine aw_if_ne (tgt := 104) eX12_set_98 (by decide) bt_r (fun hh => have h136 := bt1 hh; ?_) (fun hh => have h136 := bt0 hh; ?_)
                               · first
                                 | (exfalso; omega; done)
                                 | (refine aw_blk oX12_set_104 (pc' := 121) (ls' := [_, _, _, _, _]) (st' := [_]) (cs := [(_, _), (_, _)]) rfl (⟨⟨by omega, by omega⟩, ⟨by omega, by omega⟩, trivial⟩) ?_
                                    refine aw_iret eX12_set_121 rfl (Nat.le_refl _) (Nat.le_refl _) ?_
                                    exact pe_i s.1 rfl rfl)
                               · first
                                 | (exfalso; omega; done)
                                 | (refine aw_blk oX12_set_101 (pc' := 103) (ls' := [_, _, _, _, _]) (st' := [_]) (cs := []) rfl trivial ?_
                                    refine aw_iret eX12_set_103 rfl (Nat.le_refl _) (Nat.le_refl _) ?_
                                    exact pe_i s.1 rfl rfl)))))
           · first
             | (exfalso; omega; done)
             | (refine aw_blk oX12_set_17 (pc' := 76) (ls' := [_, _, _, _, _]) (st' := [_]) (cs := []) rfl trivial ?_
                refine aw_blk oX12_set_76 (pc' := 80) (ls' := [_, _, _, _, _]) (st' := [_, _, _]) (cs := []) rfl trivial ?_
                refine aw_icmp_eq (tgt := 89) eX12_set_80 (by decide) (by omega) (by omega) (fun h137 => ?_) (fun h137 => ?_)
                · first
                  | (exfalso; omega; done)
                  | (refine aw_blk oX12_set_89 (pc' := 94) (ls' := [_, _, _, _, _]) (st' := [_, _]) (cs := []) rfl trivial ?_
                     refine aw_blk oX12_set_94 (pc' := 95) (ls' := [_, _, _, _, _]) (st' := [_, _, _]) (cs := []) rfl trivial ?_
                     refine aw_ciS (rest := []) (c_X12_in (by omega) (by omega) (by omega)) kX12_in eX12_set_95 lX12_set_95 rfl rfl (Nat.le_of_ble_eq_true rfl) ⟨Nat.le_of_ble_eq_true rfl, Nat.le_of_ble_eq_true rfl⟩ ⟨Nat.le_refl _, Nat.le_refl _⟩ ?_
                     refine aw_if_ne (tgt := 104) eX12_set_98 (by decide) bt_r (fun hh => have h138 := bt1 hh; ?_) (fun hh => have h138 := bt0 hh; ?_)
                     · first
                       | (exfalso; omega; done)
                       | (refine aw_blk oX12_set_104 (pc' := 121) (ls' := [_, _, _, _, _]) (st' := [_]) (cs := [(_, _), (_, _)]) rfl (⟨⟨by omega, by omega⟩, ⟨by omega, by omega⟩, trivial⟩) ?_
                          refine aw_iret eX12_set_121 rfl (Nat.le_refl _) (Nat.le_refl _) ?_
                          exact pe_i s.1 rfl rfl)
                     · first
                       | (exfalso; omega; done)
                       | (refine aw_blk oX12_set_101 (pc' := 103) (ls' := [_, _, _, _, _]) (st' := [_]) (cs := []) rfl trivial ?_
                          refine aw_iret eX12_set_103 rfl (Nat.le_refl _) (Nat.le_refl _) ?_
                          exact pe_i s.1 rfl rfl))
                · first
                  | (exfalso; omega; done)
                  | (refine aw_blk oX12_set_83 (pc' := 86) (ls' := [_, _, _, _, _]) (st' := [_, _, _]) (cs := []) rfl trivial ?_
                     refine aw_icmp_ne (tgt := 93) eX12_set_86 (by decide) (by omega) (by omega) (fun h139 => ?_) (fun h139 => ?_)
                     · first
                       | (exfalso; omega; done)
                       | (refine aw_blk oX12_set_93 (pc' := 94) (ls' := [_, _, _, _, _]) (st' := [_, _]) (cs := []) rfl trivial ?_
                          refine aw_blk oX12_set_94 (pc' := 95) (ls' := [_, _, _, _, _]) (st' := [_, _, _]) (cs := []) rfl trivial ?_
                          refine aw_ciS (rest := []) (c_X12_in (by omega) (by omega) (by omega)) kX12_in eX12_set_95 lX12_set_95 rfl rfl (Nat.le_of_ble_eq_true rfl) ⟨Nat.le_of_ble_eq_true rfl, Nat.le_of_ble_eq_true rfl⟩ ⟨Nat.le_refl _, Nat.le_refl _⟩ ?_
                          refine aw_if_ne (tgt := 104) eX12_set_98 (by decide) bt_r (fun hh => have h140 := bt1 hh; ?_) (fun hh => have h140 := bt0 hh; ?_)
                          · first
                            | (exfalso; omega; done)
                            | (refine aw_blk oX12_set_104 (pc' := 121) (ls' := [_, _, _, _, _]) (st' := [_]) (cs := [(_, _), (_, _)]) rfl (⟨⟨by omega, by omega⟩, ⟨by omega, by omega⟩, trivial⟩) ?_
                               refine aw_iret eX12_set_121 rfl (Nat.le_refl _) (Nat.le_refl _) ?_
                               exact pe_i s.1 rfl rfl)
                          · first
                            | (exfalso; omega; done)
                            | (refine aw_blk oX12_set_101 (pc' := 103) (ls' := [_, _, _, _, _]) (st' := [_]) (cs := []) rfl trivial ?_
                               refine aw_iret eX12_set_103 rfl (Nat.le_refl _) (Nat.le_refl _) ?_
                               exact pe_i s.1 rfl rfl))
                     · first
                       | (exfalso; omega; done)
                       | (refine aw_blk oX12_set_89 (pc' := 94) (ls' := [_, _, _, _, _]) (st' := [_, _]) (cs := []) rfl trivial ?_
                          refine aw_blk oX12_set_94 (pc' := 95) (ls' := [_, _, _, _, _]) (st' := [_, _, _]) (cs := []) rfl trivial ?_
                          refine aw_ciS (rest := []) (c_X12_in (by omega) (by omega) (by omega)) kX12_in eX12_set_95 lX12_set_95 rfl rfl (Nat.le_of_ble_eq_true rfl) ⟨Nat.le_of_ble_eq_true rfl, Nat.le_of_ble_eq_true rfl⟩ ⟨Nat.le_refl _, Nat.le_refl _⟩ ?_
                          refine aw_if_ne (tgt := 104) eX12_set_98 (by decide) bt_r (fun hh => have h141 := bt1 hh; ?_) (fun hh => have h141 := bt0 hh; ?_)
                          · first
                            | (exfalso; omega; done)
                            | (refine aw_blk oX12_set_104 (pc' := 121) (ls' := [_, _, _, _, _]) (st' := [_]) (cs := [(_, _), (_, _)]) rfl (⟨⟨by omega, by omega⟩, ⟨by omega, by omega⟩, trivial⟩) ?_
                               refine aw_iret eX12_set_121 rfl (Nat.le_refl _) (Nat.le_refl _) ?_
                               exact pe_i s.1 rfl rfl)
                          · first
                            | (exfalso; omega; done)
                            | (refine aw_blk oX12_set_101 (pc' := 103) (ls' := [_, _, _, _, _]) (st' := [_]) (cs := []) rfl trivial ?_
                               refine aw_iret eX12_set_103 rfl (Nat.le_refl _) (Nat.le_refl _) ?_
                               exact pe_i s.1 rfl rfl)))))
      · first
        | (exfalso; omega; done)
        | (refine aw_blk oX12_set_10 (pc' := 12) (ls' := [_, _, _, _, _]) (st' := [_]) (cs := []) rfl trivial ?_
           refine aw_iret eX12_set_12 rfl (Nat.le_refl _) (Nat.le_refl _) ?_
           exact pe_i s.1 rfl rfl)
    · exact h.up (k := 1) (v := v) (by omega) (by omega) rfl rfl
    · exact ((SR.rf.put (by decide)).put (by decide))
    · intro j hj
      rfl
    · exact Or.inl ⟨rfl, rfl⟩
    · exact Or.inl ⟨rfl, rfl⟩
  · refine ⟨-2, μ, ν, μ, ?_, ?_, by decide, rfl, Or.inl rfl⟩
    · refine AMet.of kX11_set.1 (Nat.le_of_ble_eq_true rfl) rfl ?_
      refine aw_blk oX11_set_0 (pc' := 4) (ls' := [_, _, _, _]) (st' := [_, _, _]) (cs := []) rfl trivial ?_
      refine aw_ciS (rest := []) (c_X11_between (by omega) (by omega) (by omega)) kX11_between eX11_set_4 lX11_set_4 rfl rfl (Nat.le_of_ble_eq_true rfl) ⟨Nat.le_of_ble_eq_true rfl, Nat.le_of_ble_eq_true rfl⟩ ⟨Nat.le_refl _, Nat.le_refl _⟩ ?_
      refine aw_if_eq (tgt := 27) eX11_set_7 (by decide) bt_r (fun hh => have h142 := bt0 hh; ?_) (fun hh => have h142 := bt1 hh; ?_)
      · first
        | (exfalso; omega; done)
        | (refine aw_blk oX11_set_27 (pc' := 29) (ls' := [_, _, _, _]) (st' := [_]) (cs := []) rfl trivial ?_
           refine aw_iret eX11_set_29 rfl (Nat.le_refl _) (Nat.le_refl _) ?_
           exact pe_i rfl rfl rfl)
      · first
        | (exfalso; omega; done)
        | (refine aw_blk oX11_set_10 (pc' := 21) (ls' := [_, _, _, _]) (st' := [_, _, _]) (cs := [(_, _), (_, _)]) rfl (⟨⟨by omega, by omega⟩, ⟨by omega, by omega⟩, trivial⟩) ?_
           refine aw_ciS (rest := []) (c_X11_between (by omega) (by omega) (by omega)) kX11_between eX11_set_21 lX11_set_21 rfl rfl (Nat.le_of_ble_eq_true rfl) ⟨Nat.le_of_ble_eq_true rfl, Nat.le_of_ble_eq_true rfl⟩ ⟨Nat.le_refl _, Nat.le_refl _⟩ ?_
           refine aw_if_ne (tgt := 30) eX11_set_24 (by decide) bt_r (fun hh => have h143 := bt1 hh; ?_) (fun hh => have h143 := bt0 hh; ?_)
           · first
             | (exfalso; omega; done)
             | (refine aw_blk oX11_set_30 (pc' := 45) (ls' := [_, _, _, _]) (st' := [_]) (cs := [(_, _), (_, _)]) rfl (⟨⟨by omega, by omega⟩, ⟨by omega, by omega⟩, trivial⟩) ?_
                refine aw_if_ne (tgt := 56) eX11_set_45 (by decide) (by omega) (fun h144 => ?_) (fun h144 => ?_)
                · first
                  | (exfalso; omega; done)
                  | (refine aw_blk oX11_set_56 (pc' := 58) (ls' := [_, _, _, _]) (st' := [_, _]) (cs := []) rfl trivial ?_
                     refine aw_icmp_ne (tgt := 65) eX11_set_58 (by decide) (by omega) (by omega) (fun h145 => ?_) (fun h145 => ?_)
                     · first
                       | (exfalso; omega; done)
                       | (refine aw_blk oX11_set_65 (pc' := 66) (ls' := [_, _, _, _]) (st' := [_]) (cs := []) rfl trivial ?_
                          refine aw_iret eX11_set_66 rfl (Nat.le_refl _) (Nat.le_refl _) ?_
                          exact pe_i rfl rfl rfl)
                     · first
                       | (exfalso; omega; done)
                       | (refine aw_blk oX11_set_61 (pc' := 62) (ls' := [_, _, _, _]) (st' := [_]) (cs := []) rfl trivial ?_
                          refine aw_cvV (rest := []) (c_forget) kX11_forgetShows eX11_set_62 lX11_set_62 rfl rfl rfl rfl (Nat.le_of_ble_eq_true rfl) ⟨Nat.le_of_ble_eq_true rfl, Nat.le_of_ble_eq_true rfl⟩ ⟨Nat.le_refl _, Nat.le_refl _⟩ ?_
                          refine aw_blk oX11_set_65 (pc' := 66) (ls' := [_, _, _, _]) (st' := [_]) (cs := []) rfl trivial ?_
                          refine aw_iret eX11_set_66 rfl (Nat.le_refl _) (Nat.le_refl _) ?_
                          exact pe_i rfl rfl rfl))
                · first
                  | (exfalso; omega; done)
                  | (refine aw_blk oX11_set_48 (pc' := 53) (ls' := [_, _, _, _]) (st' := [_, _]) (cs := []) rfl trivial ?_
                     refine aw_cvV (rest := []) (c_forgetCuts (by omega) (by omega)) kX3_forgetCutsFrom eX11_set_53 lX11_set_53 rfl rfl rfl rfl (Nat.le_of_ble_eq_true rfl) ⟨Nat.le_of_ble_eq_true rfl, Nat.le_of_ble_eq_true rfl⟩ ⟨Nat.le_refl _, Nat.le_refl _⟩ ?_
                     refine aw_blk oX11_set_56 (pc' := 58) (ls' := [_, _, _, _]) (st' := [_, _]) (cs := []) rfl trivial ?_
                     refine aw_icmp_ne (tgt := 65) eX11_set_58 (by decide) (by omega) (by omega) (fun h146 => ?_) (fun h146 => ?_)
                     · first
                       | (exfalso; omega; done)
                       | (refine aw_blk oX11_set_65 (pc' := 66) (ls' := [_, _, _, _]) (st' := [_]) (cs := []) rfl trivial ?_
                          refine aw_iret eX11_set_66 rfl (Nat.le_refl _) (Nat.le_refl _) ?_
                          exact pe_i rfl rfl rfl)
                     · first
                       | (exfalso; omega; done)
                       | (refine aw_blk oX11_set_61 (pc' := 62) (ls' := [_, _, _, _]) (st' := [_]) (cs := []) rfl trivial ?_
                          refine aw_cvV (rest := []) (c_forget) kX11_forgetShows eX11_set_62 lX11_set_62 rfl rfl rfl rfl (Nat.le_of_ble_eq_true rfl) ⟨Nat.le_of_ble_eq_true rfl, Nat.le_of_ble_eq_true rfl⟩ ⟨Nat.le_refl _, Nat.le_refl _⟩ ?_
                          refine aw_blk oX11_set_65 (pc' := 66) (ls' := [_, _, _, _]) (st' := [_]) (cs := []) rfl trivial ?_
                          refine aw_iret eX11_set_66 rfl (Nat.le_refl _) (Nat.le_refl _) ?_
                          exact pe_i rfl rfl rfl)))
           · first
             | (exfalso; omega; done)
             | (refine aw_blk oX11_set_27 (pc' := 29) (ls' := [_, _, _, _]) (st' := [_]) (cs := []) rfl trivial ?_
                refine aw_iret eX11_set_29 rfl (Nat.le_refl _) (Nat.le_refl _) ?_
                exact pe_i rfl rfl rfl))
    · refine AMet.of kX12_set.1 (Nat.le_of_ble_eq_true rfl) rfl ?_
      refine aw_blk oX12_set_0 (pc' := 4) (ls' := [_, _, _, _, _]) (st' := [_, _, _]) (cs := []) rfl trivial ?_
      refine aw_ciS (rest := []) (c_X12_in (by omega) (by omega) (by omega)) kX12_in eX12_set_4 lX12_set_4 rfl rfl (Nat.le_of_ble_eq_true rfl) ⟨Nat.le_of_ble_eq_true rfl, Nat.le_of_ble_eq_true rfl⟩ ⟨Nat.le_refl _, Nat.le_refl _⟩ ?_
      refine aw_if_ne (tgt := 13) eX12_set_7 (by decide) bt_r (fun hh => have h147 := bt1 hh; ?_) (fun hh => have h147 := bt0 hh; ?_)
      · first
        | (exfalso; omega; done)
        | (refine aw_blk oX12_set_13 (pc' := 14) (ls' := [_, _, _, _, _]) (st' := [_]) (cs := []) rfl trivial ?_
           refine aw_if_ne (tgt := 22) eX12_set_14 (by decide) (by omega) (fun h148 => ?_) (fun h148 => ?_)
           · first
             | (exfalso; omega; done)
             | (refine aw_blk oX12_set_22 (pc' := 24) (ls' := [_, _, _, _, _]) (st' := [_, _]) (cs := []) rfl trivial ?_
                refine aw_icmp_ne (tgt := 33) eX12_set_24 (by decide) (by omega) (by omega) (fun h149 => ?_) (fun h149 => ?_)
                · first
                  | (exfalso; omega; done)
                  | (refine aw_blk oX12_set_33 (pc' := 35) (ls' := [_, _, _, _, _]) (st' := [_, _]) (cs := []) rfl trivial ?_
                     refine aw_icmp_ne (tgt := 43) eX12_set_35 (by decide) (by omega) (by omega) (fun h150 => ?_) (fun h150 => ?_)
                     · first
                       | (exfalso; omega; done)
                       | (refine aw_blk oX12_set_43 (pc' := 45) (ls' := [_, _, _, _, _]) (st' := [_, _]) (cs := []) rfl trivial ?_
                          refine aw_icmp_ne (tgt := 53) eX12_set_45 (by decide) (by omega) (by omega) (fun h151 => ?_) (fun h151 => ?_)
                          · first
                            | (exfalso; omega; done)
                            | (refine aw_blk oX12_set_53 (pc' := 55) (ls' := [_, _, _, _, _]) (st' := [_, _]) (cs := []) rfl trivial ?_
                               refine aw_icmp_ne (tgt := 63) eX12_set_55 (by decide) (by omega) (by omega) (fun h152 => ?_) (fun h152 => ?_)
                               · first
                                 | (exfalso; omega; done)
                                 | (refine aw_blk oX12_set_63 (pc' := 65) (ls' := [_, _, _, _, _]) (st' := [_, _]) (cs := []) rfl trivial ?_
                                    refine aw_icmp_ne (tgt := 74) eX12_set_65 (by decide) (by omega) (by omega) (fun h153 => ?_) (fun h153 => ?_)
                                    · first
                                      | (exfalso; omega; done)
                                      | (refine aw_blk oX12_set_74 (pc' := 76) (ls' := [_, _, _, _, _]) (st' := [_]) (cs := []) rfl trivial ?_
                                         refine aw_blk oX12_set_76 (pc' := 80) (ls' := [_, _, _, _, _]) (st' := [_, _, _]) (cs := []) rfl trivial ?_
                                         refine aw_icmp_eq (tgt := 89) eX12_set_80 (by decide) (by omega) (by omega) (fun h154 => ?_) (fun h154 => ?_)
                                         · first
                                           | (exfalso; omega; done)
                                           | (refine aw_blk oX12_set_89 (pc' := 94) (ls' := [_, _, _, _, _]) (st' := [_, _]) (cs := []) rfl trivial ?_
                                              refine aw_blk oX12_set_94 (pc' := 95) (ls' := [_, _, _, _, _]) (st' := [_, _, _]) (cs := []) rfl trivial ?_
                                              refine aw_ciS (rest := []) (c_X12_in (by omega) (by omega) (by omega)) kX12_in eX12_set_95 lX12_set_95 rfl rfl (Nat.le_of_ble_eq_true rfl) ⟨Nat.le_of_ble_eq_true rfl, Nat.le_of_ble_eq_true rfl⟩ ⟨Nat.le_refl _, Nat.le_refl _⟩ ?_
                                              refine aw_if_ne (tgt := 104) eX12_set_98 (by decide) bt_r (fun hh => have h155 := bt1 hh; ?_) (fun hh => have h155 := bt0 hh; ?_)
                                              · first
                                                | (exfalso; omega; done)
                                                | (refine aw_blk oX12_set_104 (pc' := 121) (ls' := [_, _, _, _, _]) (st' := [_]) (cs := [(_, _), (_, _)]) rfl (⟨⟨by omega, by omega⟩, ⟨by omega, by omega⟩, trivial⟩) ?_
                                                   refine aw_iret eX12_set_121 rfl (Nat.le_refl _) (Nat.le_refl _) ?_
                                                   exact pe_i rfl rfl rfl)
                                              · first
                                                | (exfalso; omega; done)
                                                | (refine aw_blk oX12_set_101 (pc' := 103) (ls' := [_, _, _, _, _]) (st' := [_]) (cs := []) rfl trivial ?_
                                                   refine aw_iret eX12_set_103 rfl (Nat.le_refl _) (Nat.le_refl _) ?_
                                                   exact pe_i rfl rfl rfl))
                                         · first
                                           | (exfalso; omega; done)
                                           | (refine aw_blk oX12_set_83 (pc' := 86) (ls' := [_, _, _, _, _]) (st' := [_, _, _]) (cs := []) rfl trivial ?_
                                              refine aw_icmp_ne (tgt := 93) eX12_set_86 (by decide) (by omega) (by omega) (fun h156 => ?_) (fun h156 => ?_)
                                              · first
                                                | (exfalso; omega; done)
                                                | (refine aw_blk oX12_set_93 (pc' := 94) (ls' := [_, _, _, _, _]) (st' := [_, _]) (cs := []) rfl trivial ?_
                                                   refine aw_blk oX12_set_94 (pc' := 95) (ls' := [_, _, _, _, _]) (st' := [_, _, _]) (cs := []) rfl trivial ?_
                                                   refine aw_ciS (rest := []) (c_X12_in (by omega) (by omega) (by omega)) kX12_in eX12_set_95 lX12_set_95 rfl rfl (Nat.le_of_ble_eq_true rfl) ⟨Nat.le_of_ble_eq_true rfl, Nat.le_of_ble_eq_true rfl⟩ ⟨Nat.le_refl _, Nat.le_refl _⟩ ?_
                                                   refine aw_if_ne (tgt := 104) eX12_set_98 (by decide) bt_r (fun hh => have h157 := bt1 hh; ?_) (fun hh => have h157 := bt0 hh; ?_)
                                                   · first
                                                     | (exfalso; omega; done)
                                                     | (refine aw_blk oX12_set_104 (pc' := 121) (ls' := [_, _, _, _, _]) (st' := [_]) (cs := [(_, _), (_, _)]) rfl (⟨⟨by omega, by omega⟩, ⟨by omega, by omega⟩, trivial⟩) ?_
                                                        refine aw_iret eX12_set_121 rfl (Nat.le_refl _) (Nat.le_refl _) ?_
                                                        exact pe_i rfl rfl rfl)
                                                   · first
                                                     | (exfalso; omega; done)
                                                     | (refine aw_blk oX12_set_101 (pc' := 103) (ls' := [_, _, _, _, _]) (st' := [_]) (cs := []) rfl trivial ?_
                                                        refine aw_iret eX12_set_103 rfl (Nat.le_refl _) (Nat.le_refl _) ?_
                                                        exact pe_i rfl rfl rfl))
                                              · first
                                                | (exfalso; omega; done)
                                                | (refine aw_blk oX12_set_89 (pc' := 94) (ls' := [_, _, _, _, _]) (st' := [_, _]) (cs := []) rfl trivial ?_
                                                   refine aw_blk oX12_set_94 (pc' := 95) (ls' := [_, _, _, _, _]) (st' := [_, _, _]) (cs := []) rfl trivial ?_
                                                   refine aw_ciS (rest := []) (c_X12_in (by omega) (by omega) (by omega)) kX12_in eX12_set_95 lX12_set_95 rfl rfl (Nat.le_of_ble_eq_true rfl) ⟨Nat.le_of_ble_eq_true rfl, Nat.le_of_ble_eq_true rfl⟩ ⟨Nat.le_refl _, Nat.le_refl _⟩ ?_
                                                   refine aw_if_ne (tgt := 104) eX12_set_98 (by decide) bt_r (fun hh => have h158 := bt1 hh; ?_) (fun hh => have h158 := bt0 hh; ?_)
                                                   · first
                                                     | (exfalso; omega; done)
                                                     | (refine aw_blk oX12_set_104 (pc' := 121) (ls' := [_, _, _, _, _]) (st' := [_]) (cs := [(_, _), (_, _)]) rfl (⟨⟨by omega, by omega⟩, ⟨by omega, by omega⟩, trivial⟩) ?_
                                                        refine aw_iret eX12_set_121 rfl (Nat.le_refl _) (Nat.le_refl _) ?_
                                                        exact pe_i rfl rfl rfl)
                                                   · first
                                                     | (exfalso; omega; done)
                                                     | (refine aw_blk oX12_set_101 (pc' := 103) (ls' := [_, _, _, _, _]) (st' := [_]) (cs := []) rfl trivial ?_
                                                        refine aw_iret eX12_set_103 rfl (Nat.le_refl _) (Nat.le_refl _) ?_
                                                        exact pe_i rfl rfl rfl))))
                                    · first
                                      | (exfalso; omega; done)
                                      | (refine aw_blk oX12_set_68 (pc' := 76) (ls' := [_, _, _, _, _]) (st' := [_]) (cs := []) rfl trivial ?_
                                         refine aw_blk oX12_set_76 (pc' := 80) (ls' := [_, _, _, _, _]) (st' := [_, _, _]) (cs := []) rfl trivial ?_
                                         refine aw_icmp_eq (tgt := 89) eX12_set_80 (by decide) (by omega) (by omega) (fun h159 => ?_) (fun h159 => ?_)
                                         · first
                                           | (exfalso; omega; done)
                                           | (refine aw_blk oX12_set_89 (pc' := 94) (ls' := [_, _, _, _, _]) (st' := [_, _]) (cs := []) rfl trivial ?_
                                              refine aw_blk oX12_set_94 (pc' := 95) (ls' := [_, _, _, _, _]) (st' := [_, _, _]) (cs := []) rfl trivial ?_
                                              refine aw_ciS (rest := []) (c_X12_in (by omega) (by omega) (by omega)) kX12_in eX12_set_95 lX12_set_95 rfl rfl (Nat.le_of_ble_eq_true rfl) ⟨Nat.le_of_ble_eq_true rfl, Nat.le_of_ble_eq_true rfl⟩ ⟨Nat.le_refl _, Nat.le_refl _⟩ ?_
                                              refine aw_if_ne (tgt := 104) eX12_set_98 (by decide) bt_r (fun hh => have h160 := bt1 hh; ?_) (fun hh => have h160 := bt0 hh; ?_)
                                              · first
                                                | (exfalso; omega; done)
                                                | (refine aw_blk oX12_set_104 (pc' := 121) (ls' := [_, _, _, _, _]) (st' := [_]) (cs := [(_, _), (_, _)]) rfl (⟨⟨by omega, by omega⟩, ⟨by omega, by omega⟩, trivial⟩) ?_
                                                   refine aw_iret eX12_set_121 rfl (Nat.le_refl _) (Nat.le_refl _) ?_
                                                   exact pe_i rfl rfl rfl)
                                              · first
                                                | (exfalso; omega; done)
                                                | (refine aw_blk oX12_set_101 (pc' := 103) (ls' := [_, _, _, _, _]) (st' := [_]) (cs := []) rfl trivial ?_
                                                   refine aw_iret eX12_set_103 rfl (Nat.le_refl _) (Nat.le_refl _) ?_
                                                   exact pe_i rfl rfl rfl))
                                         · first
                                           | (exfalso; omega; done)
                                           | (refine aw_blk oX12_set_83 (pc' := 86) (ls' := [_, _, _, _, _]) (st' := [_, _, _]) (cs := []) rfl trivial ?_
                                              refine aw_icmp_ne (tgt := 93) eX12_set_86 (by decide) (by omega) (by omega) (fun h161 => ?_) (fun h161 => ?_)
                                              · first
                                                | (exfalso; omega; done)
                                                | (refine aw_blk oX12_set_93 (pc' := 94) (ls' := [_, _, _, _, _]) (st' := [_, _]) (cs := []) rfl trivial ?_
                                                   refine aw_blk oX12_set_94 (pc' := 95) (ls' := [_, _, _, _, _]) (st' := [_, _, _]) (cs := []) rfl trivial ?_
                                                   refine aw_ciS (rest := []) (c_X12_in (by omega) (by omega) (by omega)) kX12_in eX12_set_95 lX12_set_95 rfl rfl (Nat.le_of_ble_eq_true rfl) ⟨Nat.le_of_ble_eq_true rfl, Nat.le_of_ble_eq_true rfl⟩ ⟨Nat.le_refl _, Nat.le_refl _⟩ ?_
                                                   refine aw_if_ne (tgt := 104) eX12_set_98 (by decide) bt_r (fun hh => have h162 := bt1 hh; ?_) (fun hh => have h162 := bt0 hh; ?_)
                                                   · first
                                                     | (exfalso; omega; done)
                                                     | (refine aw_blk oX12_set_104 (pc' := 121) (ls' := [_, _, _, _, _]) (st' := [_]) (cs := [(_, _), (_, _)]) rfl (⟨⟨by omega, by omega⟩, ⟨by omega, by omega⟩, trivial⟩) ?_
                                                        refine aw_iret eX12_set_121 rfl (Nat.le_refl _) (Nat.le_refl _) ?_
                                                        exact pe_i rfl rfl rfl)
                                                   · first
                                                     | (exfalso; omega; done)
                                                     | (refine aw_blk oX12_set_101 (pc' := 103) (ls' := [_, _, _, _, _]) (st' := [_]) (cs := []) rfl trivial ?_
                                                        refine aw_iret eX12_set_103 rfl (Nat.le_refl _) (Nat.le_refl _) ?_
                                                        exact pe_i rfl rfl rfl))
                                              · first
                                                | (exfalso; omega; done)
                                                | (refine aw_blk oX12_set_89 (pc' := 94) (ls' := [_, _, _, _, _]) (st' := [_, _]) (cs := []) rfl trivial ?_
                                                   refine aw_blk oX12_set_94 (pc' := 95) (ls' := [_, _, _, _, _]) (st' := [_, _, _]) (cs := []) rfl trivial ?_
                                                   refine aw_ciS (rest := []) (c_X12_in (by omega) (by omega) (by omega)) kX12_in eX12_set_95 lX12_set_95 rfl rfl (Nat.le_of_ble_eq_true rfl) ⟨Nat.le_of_ble_eq_true rfl, Nat.le_of_ble_eq_true rfl⟩ ⟨Nat.le_refl _, Nat.le_refl _⟩ ?_
                                                   refine aw_if_ne (tgt := 104) eX12_set_98 (by decide) bt_r (fun hh => have h163 := bt1 hh; ?_) (fun hh => have h163 := bt0 hh; ?_)
                                                   · first
                                                     | (exfalso; omega; done)
                                                     | (refine aw_blk oX12_set_104 (pc' := 121) (ls' := [_, _, _, _, _]) (st' := [_]) (cs := [(_, _), (_, _)]) rfl (⟨⟨by omega, by omega⟩, ⟨by omega, by omega⟩, trivial⟩) ?_
                                                        refine aw_iret eX12_set_121 rfl (Nat.le_refl _) (Nat.le_refl _) ?_
                                                        exact pe_i rfl rfl rfl)
                                                   · first
                                                     | (exfalso; omega; done)
                                                     | (refine aw_blk oX12_set_101 (pc' := 103) (ls' := [_, _, _, _, _]) (st' := [_]) (cs := []) rfl trivial ?_
                                                        refine aw_iret eX12_set_103 rfl (Nat.le_refl _) (Nat.le_refl _) ?_
                                                        exact pe_i rfl rfl rfl)))))
                               · first
                                 | (exfalso; omega; done)
                                 | (refine aw_blk oX12_set_58 (pc' := 76) (ls' := [_, _, _, _, _]) (st' := [_]) (cs := []) rfl trivial ?_
                                    refine aw_blk oX12_set_76 (pc' := 80) (ls' := [_, _, _, _, _]) (st' := [_, _, _]) (cs := []) rfl trivial ?_
                                    refine aw_icmp_eq (tgt := 89) eX12_set_80 (by decide) (by omega) (by omega) (fun h164 => ?_) (fun h164 => ?_)
                                    · first
                                      | (exfalso; omega; done)
                                      | (refine aw_blk oX12_set_89 (pc' := 94) (ls' := [_, _, _, _, _]) (st' := [_, _]) (cs := []) rfl trivial ?_
                                         refine aw_blk oX12_set_94 (pc' := 95) (ls' := [_, _, _, _, _]) (st' := [_, _, _]) (cs := []) rfl trivial ?_
                                         refine aw_ciS (rest := []) (c_X12_in (by omega) (by omega) (by omega)) kX12_in eX12_set_95 lX12_set_95 rfl rfl (Nat.le_of_ble_eq_true rfl) ⟨Nat.le_of_ble_eq_true rfl, Nat.le_of_ble_eq_true rfl⟩ ⟨Nat.le_refl _, Nat.le_refl _⟩ ?_
                                         refine aw_if_ne (tgt := 104) eX12_set_98 (by decide) bt_r (fun hh => have h165 := bt1 hh; ?_) (fun hh => have h165 := bt0 hh; ?_)
                                         · first
                                           | (exfalso; omega; done)
                                           | (refine aw_blk oX12_set_104 (pc' := 121) (ls' := [_, _, _, _, _]) (st' := [_]) (cs := [(_, _), (_, _)]) rfl (⟨⟨by omega, by omega⟩, ⟨by omega, by omega⟩, trivial⟩) ?_
                                              refine aw_iret eX12_set_121 rfl (Nat.le_refl _) (Nat.le_refl _) ?_
                                              exact pe_i rfl rfl rfl)
                                         · first
                                           | (exfalso; omega; done)
                                           | (refine aw_blk oX12_set_101 (pc' := 103) (ls' := [_, _, _, _, _]) (st' := [_]) (cs := []) rfl trivial ?_
                                              refine aw_iret eX12_set_103 rfl (Nat.le_refl _) (Nat.le_refl _) ?_
                                              exact pe_i rfl rfl rfl))
                                    · first
                                      | (exfalso; omega; done)
                                      | (refine aw_blk oX12_set_83 (pc' := 86) (ls' := [_, _, _, _, _]) (st' := [_, _, _]) (cs := []) rfl trivial ?_
                                         refine aw_icmp_ne (tgt := 93) eX12_set_86 (by decide) (by omega) (by omega) (fun h166 => ?_) (fun h166 => ?_)
                                         · first
                                           | (exfalso; omega; done)
                                           | (refine aw_blk oX12_set_93 (pc' := 94) (ls' := [_, _, _, _, _]) (st' := [_, _]) (cs := []) rfl trivial ?_
                                              refine aw_blk oX12_set_94 (pc' := 95) (ls' := [_, _, _, _, _]) (st' := [_, _, _]) (cs := []) rfl trivial ?_
                                              refine aw_ciS (rest := []) (c_X12_in (by omega) (by omega) (by omega)) kX12_in eX12_set_95 lX12_set_95 rfl rfl (Nat.le_of_ble_eq_true rfl) ⟨Nat.le_of_ble_eq_true rfl, Nat.le_of_ble_eq_true rfl⟩ ⟨Nat.le_refl _, Nat.le_refl _⟩ ?_
                                              refine aw_if_ne (tgt := 104) eX12_set_98 (by decide) bt_r (fun hh => have h167 := bt1 hh; ?_) (fun hh => have h167 := bt0 hh; ?_)
                                              · first
                                                | (exfalso; omega; done)
                                                | (refine aw_blk oX12_set_104 (pc' := 121) (ls' := [_, _, _, _, _]) (st' := [_]) (cs := [(_, _), (_, _)]) rfl (⟨⟨by omega, by omega⟩, ⟨by omega, by omega⟩, trivial⟩) ?_
                                                   refine aw_iret eX12_set_121 rfl (Nat.le_refl _) (Nat.le_refl _) ?_
                                                   exact pe_i rfl rfl rfl)
                                              · first
                                                | (exfalso; omega; done)
                                                | (refine aw_blk oX12_set_101 (pc' := 103) (ls' := [_, _, _, _, _]) (st' := [_]) (cs := []) rfl trivial ?_
                                                   refine aw_iret eX12_set_103 rfl (Nat.le_refl _) (Nat.le_refl _) ?_
                                                   exact pe_i rfl rfl rfl))
                                         · first
                                           | (exfalso; omega; done)
                                           | (refine aw_blk oX12_set_89 (pc' := 94) (ls' := [_, _, _, _, _]) (st' := [_, _]) (cs := []) rfl trivial ?_
                                              refine aw_blk oX12_set_94 (pc' := 95) (ls' := [_, _, _, _, _]) (st' := [_, _, _]) (cs := []) rfl trivial ?_
                                              refine aw_ciS (rest := []) (c_X12_in (by omega) (by omega) (by omega)) kX12_in eX12_set_95 lX12_set_95 rfl rfl (Nat.le_of_ble_eq_true rfl) ⟨Nat.le_of_ble_eq_true rfl, Nat.le_of_ble_eq_true rfl⟩ ⟨Nat.le_refl _, Nat.le_refl _⟩ ?_
                                              refine aw_if_ne (tgt := 104) eX12_set_98 (by decide) bt_r (fun hh => have h168 := bt1 hh; ?_) (fun hh => have h168 := bt0 hh; ?_)
                                              · first
                                                | (exfalso; omega; done)
                                                | (refine aw_blk oX12_set_104 (pc' := 121) (ls' := [_, _, _, _, _]) (st' := [_]) (cs := [(_, _), (_, _)]) rfl (⟨⟨by omega, by omega⟩, ⟨by omega, by omega⟩, trivial⟩) ?_
                                                   refine aw_iret eX12_set_121 rfl (Nat.le_refl _) (Nat.le_refl _) ?_
                                                   exact pe_i rfl rfl rfl)
                                              · first
                                                | (exfalso; omega; done)
                                                | (refine aw_blk oX12_set_101 (pc' := 103) (ls' := [_, _, _, _, _]) (st' := [_]) (cs := []) rfl trivial ?_
                                                   refine aw_iret eX12_set_103 rfl (Nat.le_refl _) (Nat.le_refl _) ?_
                                                   exact pe_i rfl rfl rfl)))))
                          · first
                            | (exfalso; omega; done)
                            | (refine aw_blk oX12_set_48 (pc' := 76) (ls' := [_, _, _, _, _]) (st' := [_]) (cs := []) rfl trivial ?_
                               refine aw_blk oX12_set_76 (pc' := 80) (ls' := [_, _, _, _, _]) (st' := [_, _, _]) (cs := []) rfl trivial ?_
                               refine aw_icmp_eq (tgt := 89) eX12_set_80 (by decide) (by omega) (by omega) (fun h169 => ?_) (fun h169 => ?_)
                               · first
                                 | (exfalso; omega; done)
                                 | (refine aw_blk oX12_set_89 (pc' := 94) (ls' := [_, _, _, _, _]) (st' := [_, _]) (cs := []) rfl trivial ?_
                                    refine aw_blk oX12_set_94 (pc' := 95) (ls' := [_, _, _, _, _]) (st' := [_, _, _]) (cs := []) rfl trivial ?_
                                    refine aw_ciS (rest := []) (c_X12_in (by omega) (by omega) (by omega)) kX12_in eX12_set_95 lX12_set_95 rfl rfl (Nat.le_of_ble_eq_true rfl) ⟨Nat.le_of_ble_eq_true rfl, Nat.le_of_ble_eq_true rfl⟩ ⟨Nat.le_refl _, Nat.le_refl _⟩ ?_
                                    refine aw_if_ne (tgt := 104) eX12_set_98 (by decide) bt_r (fun hh => have h170 := bt1 hh; ?_) (fun hh => have h170 := bt0 hh; ?_)
                                    · first
                                      | (exfalso; omega; done)
                                      | (refine aw_blk oX12_set_104 (pc' := 121) (ls' := [_, _, _, _, _]) (st' := [_]) (cs := [(_, _), (_, _)]) rfl (⟨⟨by omega, by omega⟩, ⟨by omega, by omega⟩, trivial⟩) ?_
                                         refine aw_iret eX12_set_121 rfl (Nat.le_refl _) (Nat.le_refl _) ?_
                                         exact pe_i rfl rfl rfl)
                                    · first
                                      | (exfalso; omega; done)
                                      | (refine aw_blk oX12_set_101 (pc' := 103) (ls' := [_, _, _, _, _]) (st' := [_]) (cs := []) rfl trivial ?_
                                         refine aw_iret eX12_set_103 rfl (Nat.le_refl _) (Nat.le_refl _) ?_
                                         exact pe_i rfl rfl rfl))
                               · first
                                 | (exfalso; omega; done)
                                 | (refine aw_blk oX12_set_83 (pc' := 86) (ls' := [_, _, _, _, _]) (st' := [_, _, _]) (cs := []) rfl trivial ?_
                                    refine aw_icmp_ne (tgt := 93) eX12_set_86 (by decide) (by omega) (by omega) (fun h171 => ?_) (fun h171 => ?_)
                                    · first
                                      | (exfalso; omega; done)
                                      | (refine aw_blk oX12_set_93 (pc' := 94) (ls' := [_, _, _, _, _]) (st' := [_, _]) (cs := []) rfl trivial ?_
                                         refine aw_blk oX12_set_94 (pc' := 95) (ls' := [_, _, _, _, _]) (st' := [_, _, _]) (cs := []) rfl trivial ?_
                                         refine aw_ciS (rest := []) (c_X12_in (by omega) (by omega) (by omega)) kX12_in eX12_set_95 lX12_set_95 rfl rfl (Nat.le_of_ble_eq_true rfl) ⟨Nat.le_of_ble_eq_true rfl, Nat.le_of_ble_eq_true rfl⟩ ⟨Nat.le_refl _, Nat.le_refl _⟩ ?_
                                         refine aw_if_ne (tgt := 104) eX12_set_98 (by decide) bt_r (fun hh => have h172 := bt1 hh; ?_) (fun hh => have h172 := bt0 hh; ?_)
                                         · first
                                           | (exfalso; omega; done)
                                           | (refine aw_blk oX12_set_104 (pc' := 121) (ls' := [_, _, _, _, _]) (st' := [_]) (cs := [(_, _), (_, _)]) rfl (⟨⟨by omega, by omega⟩, ⟨by omega, by omega⟩, trivial⟩) ?_
                                              refine aw_iret eX12_set_121 rfl (Nat.le_refl _) (Nat.le_refl _) ?_
                                              exact pe_i rfl rfl rfl)
                                         · first
                                           | (exfalso; omega; done)
                                           | (refine aw_blk oX12_set_101 (pc' := 103) (ls' := [_, _, _, _, _]) (st' := [_]) (cs := []) rfl trivial ?_
                                              refine aw_iret eX12_set_103 rfl (Nat.le_refl _) (Nat.le_refl _) ?_
                                              exact pe_i rfl rfl rfl))
                                    · first
                                      | (exfalso; omega; done)
                                      | (refine aw_blk oX12_set_89 (pc' := 94) (ls' := [_, _, _, _, _]) (st' := [_, _]) (cs := []) rfl trivial ?_
                                         refine aw_blk oX12_set_94 (pc' := 95) (ls' := [_, _, _, _, _]) (st' := [_, _, _]) (cs := []) rfl trivial ?_
                                         refine aw_ciS (rest := []) (c_X12_in (by omega) (by omega) (by omega)) kX12_in eX12_set_95 lX12_set_95 rfl rfl (Nat.le_of_ble_eq_true rfl) ⟨Nat.le_of_ble_eq_true rfl, Nat.le_of_ble_eq_true rfl⟩ ⟨Nat.le_refl _, Nat.le_refl _⟩ ?_
                                         refine aw_if_ne (tgt := 104) eX12_set_98 (by decide) bt_r (fun hh => have h173 := bt1 hh; ?_) (fun hh => have h173 := bt0 hh; ?_)
                                         · first
                                           | (exfalso; omega; done)
                                           | (refine aw_blk oX12_set_104 (pc' := 121) (ls' := [_, _, _, _, _]) (st' := [_]) (cs := [(_, _), (_, _)]) rfl (⟨⟨by omega, by omega⟩, ⟨by omega, by omega⟩, trivial⟩) ?_
                                              refine aw_iret eX12_set_121 rfl (Nat.le_refl _) (Nat.le_refl _) ?_
                                              exact pe_i rfl rfl rfl)
                                         · first
                                           | (exfalso; omega; done)
                                           | (refine aw_blk oX12_set_101 (pc' := 103) (ls' := [_, _, _, _, _]) (st' := [_]) (cs := []) rfl trivial ?_
                                              refine aw_iret eX12_set_103 rfl (Nat.le_refl _) (Nat.le_refl _) ?_
                                              exact pe_i rfl rfl rfl)))))
                     · first
                       | (exfalso; omega; done)
                       | (refine aw_blk oX12_set_38 (pc' := 76) (ls' := [_, _, _, _, _]) (st' := [_]) (cs := []) rfl trivial ?_
                          refine aw_blk oX12_set_76 (pc' := 80) (ls' := [_, _, _, _, _]) (st' := [_, _, _]) (cs := []) rfl trivial ?_
                          refine aw_icmp_eq (tgt := 89) eX12_set_80 (by decide) (by omega) (by omega) (fun h174 => ?_) (fun h174 => ?_)
                          · first
                            | (exfalso; omega; done)
                            | (refine aw_blk oX12_set_89 (pc' := 94) (ls' := [_, _, _, _, _]) (st' := [_, _]) (cs := []) rfl trivial ?_
                               refine aw_blk oX12_set_94 (pc' := 95) (ls' := [_, _, _, _, _]) (st' := [_, _, _]) (cs := []) rfl trivial ?_
                               refine aw_ciS (rest := []) (c_X12_in (by omega) (by omega) (by omega)) kX12_in eX12_set_95 lX12_set_95 rfl rfl (Nat.le_of_ble_eq_true rfl) ⟨Nat.le_of_ble_eq_true rfl, Nat.le_of_ble_eq_true rfl⟩ ⟨Nat.le_refl _, Nat.le_refl _⟩ ?_
                               refine aw_if_ne (tgt := 104) eX12_set_98 (by decide) bt_r (fun hh => have h175 := bt1 hh; ?_) (fun hh => have h175 := bt0 hh; ?_)
                               · first
                                 | (exfalso; omega; done)
                                 | (refine aw_blk oX12_set_104 (pc' := 121) (ls' := [_, _, _, _, _]) (st' := [_]) (cs := [(_, _), (_, _)]) rfl (⟨⟨by omega, by omega⟩, ⟨by omega, by omega⟩, trivial⟩) ?_
                                    refine aw_iret eX12_set_121 rfl (Nat.le_refl _) (Nat.le_refl _) ?_
                                    exact pe_i rfl rfl rfl)
                               · first
                                 | (exfalso; omega; done)
                                 | (refine aw_blk oX12_set_101 (pc' := 103) (ls' := [_, _, _, _, _]) (st' := [_]) (cs := []) rfl trivial ?_
                                    refine aw_iret eX12_set_103 rfl (Nat.le_refl _) (Nat.le_refl _) ?_
                                    exact pe_i rfl rfl rfl))
                          · first
                            | (exfalso; omega; done)
                            | (refine aw_blk oX12_set_83 (pc' := 86) (ls' := [_, _, _, _, _]) (st' := [_, _, _]) (cs := []) rfl trivial ?_
                               refine aw_icmp_ne (tgt := 93) eX12_set_86 (by decide) (by omega) (by omega) (fun h176 => ?_) (fun h176 => ?_)
                               · first
                                 | (exfalso; omega; done)
                                 | (refine aw_blk oX12_set_93 (pc' := 94) (ls' := [_, _, _, _, _]) (st' := [_, _]) (cs := []) rfl trivial ?_
                                    refine aw_blk oX12_set_94 (pc' := 95) (ls' := [_, _, _, _, _]) (st' := [_, _, _]) (cs := []) rfl trivial ?_
                                    refine aw_ciS (rest := []) (c_X12_in (by omega) (by omega) (by omega)) kX12_in eX12_set_95 lX12_set_95 rfl rfl (Nat.le_of_ble_eq_true rfl) ⟨Nat.le_of_ble_eq_true rfl, Nat.le_of_ble_eq_true rfl⟩ ⟨Nat.le_refl _, Nat.le_refl _⟩ ?_
                                    refine aw_if_ne (tgt := 104) eX12_set_98 (by decide) bt_r (fun hh => have h177 := bt1 hh; ?_) (fun hh => have h177 := bt0 hh; ?_)
                                    · first
                                      | (exfalso; omega; done)
                                      | (refine aw_blk oX12_set_104 (pc' := 121) (ls' := [_, _, _, _, _]) (st' := [_]) (cs := [(_, _), (_, _)]) rfl (⟨⟨by omega, by omega⟩, ⟨by omega, by omega⟩, trivial⟩) ?_
                                         refine aw_iret eX12_set_121 rfl (Nat.le_refl _) (Nat.le_refl _) ?_
                                         exact pe_i rfl rfl rfl)
                                    · first
                                      | (exfalso; omega; done)
                                      | (refine aw_blk oX12_set_101 (pc' := 103) (ls' := [_, _, _, _, _]) (st' := [_]) (cs := []) rfl trivial ?_
                                         refine aw_iret eX12_set_103 rfl (Nat.le_refl _) (Nat.le_refl _) ?_
                                         exact pe_i rfl rfl rfl))
                               · first
                                 | (exfalso; omega; done)
                                 | (refine aw_blk oX12_set_89 (pc' := 94) (ls' := [_, _, _, _, _]) (st' := [_, _]) (cs := []) rfl trivial ?_
                                    refine aw_blk oX12_set_94 (pc' := 95) (ls' := [_, _, _, _, _]) (st' := [_, _, _]) (cs := []) rfl trivial ?_
                                    refine aw_ciS (rest := []) (c_X12_in (by omega) (by omega) (by omega)) kX12_in eX12_set_95 lX12_set_95 rfl rfl (Nat.le_of_ble_eq_true rfl) ⟨Nat.le_of_ble_eq_true rfl, Nat.le_of_ble_eq_true rfl⟩ ⟨Nat.le_refl _, Nat.le_refl _⟩ ?_
                                    refine aw_if_ne (tgt := 104) eX12_set_98 (by decide) bt_r (fun hh => have h178 := bt1 hh; ?_) (fun hh => have h178 := bt0 hh; ?_)
                                    · first
                                      | (exfalso; omega; done)
                                      | (refine aw_blk oX12_set_104 (pc' := 121) (ls' := [_, _, _, _, _]) (st' := [_]) (cs := [(_, _), (_, _)]) rfl (⟨⟨by omega, by omega⟩, ⟨by omega, by omega⟩, trivial⟩) ?_
                                         refine aw_iret eX12_set_121 rfl (Nat.le_refl _) (Nat.le_refl _) ?_
                                         exact pe_i rfl rfl rfl)
                                    · first
                                      | (exfalso; omega; done)
                                      | (refine aw_blk oX12_set_101 (pc' := 103) (ls' := [_, _, _, _, _]) (st' := [_]) (cs := []) rfl trivial ?_
                                         refine aw_iret eX12_set_103 rfl (Nat.le_refl _) (Nat.le_refl _) ?_
                                         exact pe_i rfl rfl rfl)))))
                · first
                  | (exfalso; omega; done)
                  | (refine aw_blk oX12_set_27 (pc' := 76) (ls' := [_, _, _, _, _]) (st' := [_]) (cs := []) rfl trivial ?_
                     refine aw_blk oX12_set_76 (pc' := 80) (ls' := [_, _, _, _, _]) (st' := [_, _, _]) (cs := []) rfl trivial ?_
                     refine aw_icmp_eq (tgt := 89) eX12_set_80 (by decide) (by omega) (by omega) (fun h179 => ?_) (fun h179 => ?_)
                     · first
                       | (exfalso; omega; done)
                       | (refine aw_blk oX12_set_89 (pc' := 94) (ls' := [_, _, _, _, _]) (st' := [_, _]) (cs := []) rfl trivial ?_
                          refine aw_blk oX12_set_94 (pc' := 95) (ls' := [_, _, _, _, _]) (st' := [_, _, _]) (cs := []) rfl trivial ?_
                          refine aw_ciS (rest := []) (c_X12_in (by omega) (by omega) (by omega)) kX12_in eX12_set_95 lX12_set_95 rfl rfl (Nat.le_of_ble_eq_true rfl) ⟨Nat.le_of_ble_eq_true rfl, Nat.le_of_ble_eq_true rfl⟩ ⟨Nat.le_refl _, Nat.le_refl _⟩ ?_
                          refine aw_if_ne (tgt := 104) eX12_set_98 (by decide) bt_r (fun hh => have h180 := bt1 hh; ?_) (fun hh => have h180 := bt0 hh; ?_)
                          · first
                            | (exfalso; omega; done)
                            | (refine aw_blk oX12_set_104 (pc' := 121) (ls' := [_, _, _, _, _]) (st' := [_]) (cs := [(_, _), (_, _)]) rfl (⟨⟨by omega, by omega⟩, ⟨by omega, by omega⟩, trivial⟩) ?_
                               refine aw_iret eX12_set_121 rfl (Nat.le_refl _) (Nat.le_refl _) ?_
                               exact pe_i rfl rfl rfl)
                          · first
                            | (exfalso; omega; done)
                            | (refine aw_blk oX12_set_101 (pc' := 103) (ls' := [_, _, _, _, _]) (st' := [_]) (cs := []) rfl trivial ?_
                               refine aw_iret eX12_set_103 rfl (Nat.le_refl _) (Nat.le_refl _) ?_
                               exact pe_i rfl rfl rfl))
                     · first
                       | (exfalso; omega; done)
                       | (refine aw_blk oX12_set_83 (pc' := 86) (ls' := [_, _, _, _, _]) (st' := [_, _, _]) (cs := []) rfl trivial ?_
                          refine aw_icmp_ne (tgt := 93) eX12_set_86 (by decide) (by omega) (by omega) (fun h181 => ?_) (fun h181 => ?_)
                          · first
                            | (exfalso; omega; done)
                            | (refine aw_blk oX12_set_93 (pc' := 94) (ls' := [_, _, _, _, _]) (st' := [_, _]) (cs := []) rfl trivial ?_
                               refine aw_blk oX12_set_94 (pc' := 95) (ls' := [_, _, _, _, _]) (st' := [_, _, _]) (cs := []) rfl trivial ?_
                               refine aw_ciS (rest := []) (c_X12_in (by omega) (by omega) (by omega)) kX12_in eX12_set_95 lX12_set_95 rfl rfl (Nat.le_of_ble_eq_true rfl) ⟨Nat.le_of_ble_eq_true rfl, Nat.le_of_ble_eq_true rfl⟩ ⟨Nat.le_refl _, Nat.le_refl _⟩ ?_
                               refine aw_if_ne (tgt := 104) eX12_set_98 (by decide) bt_r (fun hh => have h182 := bt1 hh; ?_) (fun hh => have h182 := bt0 hh; ?_)
                               · first
                                 | (exfalso; omega; done)
                                 | (refine aw_blk oX12_set_104 (pc' := 121) (ls' := [_, _, _, _, _]) (st' := [_]) (cs := [(_, _), (_, _)]) rfl (⟨⟨by omega, by omega⟩, ⟨by omega, by omega⟩, trivial⟩) ?_
                                    refine aw_iret eX12_set_121 rfl (Nat.le_refl _) (Nat.le_refl _) ?_
                                    exact pe_i rfl rfl rfl)
                               · first
                                 | (exfalso; omega; done)
                                 | (refine aw_blk oX12_set_101 (pc' := 103) (ls' := [_, _, _, _, _]) (st' := [_]) (cs := []) rfl trivial ?_
                                    refine aw_iret eX12_set_103 rfl (Nat.le_refl _) (Nat.le_refl _) ?_
                                    exact pe_i rfl rfl rfl))
                          · first
                            | (exfalso; omega; done)
                            | (refine aw_blk oX12_set_89 (pc' := 94) (ls' := [_, _, _, _, _]) (st' := [_, _]) (cs := []) rfl trivial ?_
                               refine aw_blk oX12_set_94 (pc' := 95) (ls' := [_, _, _, _, _]) (st' := [_, _, _]) (cs := []) rfl trivial ?_
                               refine aw_ciS (rest := []) (c_X12_in (by omega) (by omega) (by omega)) kX12_in eX12_set_95 lX12_set_95 rfl rfl (Nat.le_of_ble_eq_true rfl) ⟨Nat.le_of_ble_eq_true rfl, Nat.le_of_ble_eq_true rfl⟩ ⟨Nat.le_refl _, Nat.le_refl _⟩ ?_
                               refine aw_if_ne (tgt := 104) eX12_set_98 (by decide) bt_r (fun hh => have h183 := bt1 hh; ?_) (fun hh => have h183 := bt0 hh; ?_)
                               · first
                                 | (exfalso; omega; done)
                                 | (refine aw_blk oX12_set_104 (pc' := 121) (ls' := [_, _, _, _, _]) (st' := [_]) (cs := [(_, _), (_, _)]) rfl (⟨⟨by omega, by omega⟩, ⟨by omega, by omega⟩, trivial⟩) ?_
                                    refine aw_iret eX12_set_121 rfl (Nat.le_refl _) (Nat.le_refl _) ?_
                                    exact pe_i rfl rfl rfl)
                               · first
                                 | (exfalso; omega; done)
                                 | (refine aw_blk oX12_set_101 (pc' := 103) (ls' := [_, _, _, _, _]) (st' := [_]) (cs := []) rfl trivial ?_
                                    refine aw_iret eX12_set_103 rfl (Nat.le_refl _) (Nat.le_refl _) ?_
                                    exact pe_i rfl rfl rfl)))))
           · first
             | (exfalso; omega; done)
             | (refine aw_blk oX12_set_17 (pc' := 76) (ls' := [_, _, _, _, _]) (st' := [_]) (cs := []) rfl trivial ?_
                refine aw_blk oX12_set_76 (pc' := 80) (ls' := [_, _, _, _, _]) (st' := [_, _, _]) (cs := []) rfl trivial ?_
                refine aw_icmp_eq (tgt := 89) eX12_set_80 (by decide) (by omega) (by omega) (fun h184 => ?_) (fun h184 => ?_)
                · first
                  | (exfalso; omega; done)
                  | (refine aw_blk oX12_set_89 (pc' := 94) (ls' := [_, _, _, _, _]) (st' := [_, _]) (cs := []) rfl trivial ?_
                     refine aw_blk oX12_set_94 (pc' := 95) (ls' := [_, _, _, _, _]) (st' := [_, _, _]) (cs := []) rfl trivial ?_
                     refine aw_ciS (rest := []) (c_X12_in (by omega) (by omega) (by omega)) kX12_in eX12_set_95 lX12_set_95 rfl rfl (Nat.le_of_ble_eq_true rfl) ⟨Nat.le_of_ble_eq_true rfl, Nat.le_of_ble_eq_true rfl⟩ ⟨Nat.le_refl _, Nat.le_refl _⟩ ?_
                     refine aw_if_ne (tgt := 104) eX12_set_98 (by decide) bt_r (fun hh => have h185 := bt1 hh; ?_) (fun hh => have h185 := bt0 hh; ?_)
                     · first
                       | (exfalso; omega; done)
                       | (refine aw_blk oX12_set_104 (pc' := 121) (ls' := [_, _, _, _, _]) (st' := [_]) (cs := [(_, _), (_, _)]) rfl (⟨⟨by omega, by omega⟩, ⟨by omega, by omega⟩, trivial⟩) ?_
                          refine aw_iret eX12_set_121 rfl (Nat.le_refl _) (Nat.le_refl _) ?_
                          exact pe_i rfl rfl rfl)
                     · first
                       | (exfalso; omega; done)
                       | (refine aw_blk oX12_set_101 (pc' := 103) (ls' := [_, _, _, _, _]) (st' := [_]) (cs := []) rfl trivial ?_
                          refine aw_iret eX12_set_103 rfl (Nat.le_refl _) (Nat.le_refl _) ?_
                          exact pe_i rfl rfl rfl))
                · first
                  | (exfalso; omega; done)
                  | (refine aw_blk oX12_set_83 (pc' := 86) (ls' := [_, _, _, _, _]) (st' := [_, _, _]) (cs := []) rfl trivial ?_
                     refine aw_icmp_ne (tgt := 93) eX12_set_86 (by decide) (by omega) (by omega) (fun h186 => ?_) (fun h186 => ?_)
                     · first
                       | (exfalso; omega; done)
                       | (refine aw_blk oX12_set_93 (pc' := 94) (ls' := [_, _, _, _, _]) (st' := [_, _]) (cs := []) rfl trivial ?_
                          refine aw_blk oX12_set_94 (pc' := 95) (ls' := [_, _, _, _, _]) (st' := [_, _, _]) (cs := []) rfl trivial ?_
                          refine aw_ciS (rest := []) (c_X12_in (by omega) (by omega) (by omega)) kX12_in eX12_set_95 lX12_set_95 rfl rfl (Nat.le_of_ble_eq_true rfl) ⟨Nat.le_of_ble_eq_true rfl, Nat.le_of_ble_eq_true rfl⟩ ⟨Nat.le_refl _, Nat.le_refl _⟩ ?_
                          refine aw_if_ne (tgt := 104) eX12_set_98 (by decide) bt_r (fun hh => have h187 := bt1 hh; ?_) (fun hh => have h187 := bt0 hh; ?_)
                          · first
                            | (exfalso; omega; done)
                            | (refine aw_blk oX12_set_104 (pc' := 121) (ls' := [_, _, _, _, _]) (st' := [_]) (cs := [(_, _), (_, _)]) rfl (⟨⟨by omega, by omega⟩, ⟨by omega, by omega⟩, trivial⟩) ?_
                               refine aw_iret eX12_set_121 rfl (Nat.le_refl _) (Nat.le_refl _) ?_
                               exact pe_i rfl rfl rfl)
                          · first
                            | (exfalso; omega; done)
                            | (refine aw_blk oX12_set_101 (pc' := 103) (ls' := [_, _, _, _, _]) (st' := [_]) (cs := []) rfl trivial ?_
                               refine aw_iret eX12_set_103 rfl (Nat.le_refl _) (Nat.le_refl _) ?_
                               exact pe_i rfl rfl rfl))
                     · first
                       | (exfalso; omega; done)
                       | (refine aw_blk oX12_set_89 (pc' := 94) (ls' := [_, _, _, _, _]) (st' := [_, _]) (cs := []) rfl trivial ?_
                          refine aw_blk oX12_set_94 (pc' := 95) (ls' := [_, _, _, _, _]) (st' := [_, _, _]) (cs := []) rfl trivial ?_
                          refine aw_ciS (rest := []) (c_X12_in (by omega) (by omega) (by omega)) kX12_in eX12_set_95 lX12_set_95 rfl rfl (Nat.le_of_ble_eq_true rfl) ⟨Nat.le_of_ble_eq_true rfl, Nat.le_of_ble_eq_true rfl⟩ ⟨Nat.le_refl _, Nat.le_refl _⟩ ?_
                          refine aw_if_ne (tgt := 104) eX12_set_98 (by decide) bt_r (fun hh => have h188 := bt1 hh; ?_) (fun hh => have h188 := bt0 hh; ?_)
                          · first
                            | (exfalso; omega; done)
                            | (refine aw_blk oX12_set_104 (pc' := 121) (ls' := [_, _, _, _, _]) (st' := [_]) (cs := [(_, _), (_, _)]) rfl (⟨⟨by omega, by omega⟩, ⟨by omega, by omega⟩, trivial⟩) ?_
                               refine aw_iret eX12_set_121 rfl (Nat.le_refl _) (Nat.le_refl _) ?_
                               exact pe_i rfl rfl rfl)
                          · first
                            | (exfalso; omega; done)
                            | (refine aw_blk oX12_set_101 (pc' := 103) (ls' := [_, _, _, _, _]) (st' := [_]) (cs := []) rfl trivial ?_
                               refine aw_iret eX12_set_103 rfl (Nat.le_refl _) (Nat.le_refl _) ?_
                               exact pe_i rfl rfl rfl)))))
      · first
        | (exfalso; omega; done)
        | (refine aw_blk oX12_set_10 (pc' := 12) (ls' := [_, _, _, _, _]) (st' := [_]) (cs := []) rfl trivial ?_
           refine aw_iret eX12_set_12 rfl (Nat.le_refl _) (Nat.le_refl _) ?_
           exact pe_i rfl rfl rfl)
theorem set_2 {κ : KX} {μ : MM} {ν : ML} {v : Int} (h : RS μ) (hc : 0 ≤ μ 2 8 ∧ μ 2 8 ≤ 10) (hv : R32 v) : LawT κ mX11_set mX12_set [aI 2, aI v] μ ν := by
  have s := h 2 (by decide) (by decide)
  have v0 : stv 0 2 = 1 := rfl
  have l0 : ((stA 0).length : Int) = 7 := rfl
  have l1 : ((stA 1).length : Int) = 7 := rfl
  have v1 : stv 1 2 = 8 := rfl
  have hc' : R32 (up μ 1 2 v 2 8) := (by omega : R32 (μ 2 8))
  by_cases c1 : 1 ≤ v ∧ v ≤ 8
  · refine ⟨μ 1 2, up (up (up μ 1 2 v) 0 11 0) 0 12 0, ν, up (up (up (up μ 1 2 v) 0 11 0) 0 12 0) 58 2 v, ?_, ?_, by omega, rfl, Or.inr ⟨?_, ?_, ?_, ?_, ?_⟩⟩
    · refine AMet.of kX11_set.1 (Nat.le_of_ble_eq_true rfl) rfl ?_
      refine aw_blk oX11_set_0 (pc' := 4) (ls' := [_, _, _, _]) (st' := [_, _, _]) (cs := []) rfl trivial ?_
      refine aw_ciS (rest := []) (c_X11_between (by omega) (by omega) (by omega)) kX11_between eX11_set_4 lX11_set_4 rfl rfl (Nat.le_of_ble_eq_true rfl) ⟨Nat.le_of_ble_eq_true rfl, Nat.le_of_ble_eq_true rfl⟩ ⟨Nat.le_refl _, Nat.le_refl _⟩ ?_
      refine aw_if_eq (tgt := 27) eX11_set_7 (by decide) bt_r (fun hh => have h189 := bt0 hh; ?_) (fun hh => have h189 := bt1 hh; ?_)
      · first
        | (exfalso; omega; done)
        | (refine aw_blk oX11_set_27 (pc' := 29) (ls' := [_, _, _, _]) (st' := [_]) (cs := []) rfl trivial ?_
           refine aw_iret eX11_set_29 rfl (Nat.le_refl _) (Nat.le_refl _) ?_
           exact pe_i rfl rfl rfl)
      · first
        | (exfalso; omega; done)
        | (refine aw_blk oX11_set_10 (pc' := 21) (ls' := [_, _, _, _]) (st' := [_, _, _]) (cs := [(_, _), (_, _)]) rfl (⟨⟨by omega, by omega⟩, ⟨by omega, by omega⟩, trivial⟩) ?_
           refine aw_ciS (rest := []) (c_X11_between (by omega) (by omega) (by omega)) kX11_between eX11_set_21 lX11_set_21 rfl rfl (Nat.le_of_ble_eq_true rfl) ⟨Nat.le_of_ble_eq_true rfl, Nat.le_of_ble_eq_true rfl⟩ ⟨Nat.le_refl _, Nat.le_refl _⟩ ?_
           refine aw_if_ne (tgt := 30) eX11_set_24 (by decide) bt_r (fun hh => have h190 := bt1 hh; ?_) (fun hh => have h190 := bt0 hh; ?_)
           · first
             | (exfalso; omega; done)
             | (refine aw_blk oX11_set_30 (pc' := 45) (ls' := [_, _, _, _]) (st' := [_]) (cs := [(_, _), (_, _)]) rfl (⟨⟨by omega, by omega⟩, ⟨by omega, by omega⟩, trivial⟩) ?_
                refine aw_if_ne (tgt := 56) eX11_set_45 (by decide) (by omega) (fun h191 => ?_) (fun h191 => ?_)
                · first
                  | (exfalso; omega; done)
                  | (refine aw_blk oX11_set_56 (pc' := 58) (ls' := [_, _, _, _]) (st' := [_, _]) (cs := []) rfl trivial ?_
                     refine aw_icmp_ne (tgt := 65) eX11_set_58 (by decide) (by omega) (by omega) (fun h192 => ?_) (fun h192 => ?_)
                     · first
                       | (exfalso; omega; done)
                       | (refine aw_blk oX11_set_65 (pc' := 66) (ls' := [_, _, _, _]) (st' := [_]) (cs := []) rfl trivial ?_
                          refine aw_iret eX11_set_66 rfl (Nat.le_refl _) (Nat.le_refl _) ?_
                          exact pe_i rfl rfl rfl)
                     · first
                       | (exfalso; omega; done)
                       | (refine aw_blk oX11_set_61 (pc' := 62) (ls' := [_, _, _, _]) (st' := [_]) (cs := []) rfl trivial ?_
                          refine aw_cvV (rest := []) (c_forget) kX11_forgetShows eX11_set_62 lX11_set_62 rfl rfl rfl rfl (Nat.le_of_ble_eq_true rfl) ⟨Nat.le_of_ble_eq_true rfl, Nat.le_of_ble_eq_true rfl⟩ ⟨Nat.le_refl _, Nat.le_refl _⟩ ?_
                          refine aw_blk oX11_set_65 (pc' := 66) (ls' := [_, _, _, _]) (st' := [_]) (cs := []) rfl trivial ?_
                          refine aw_iret eX11_set_66 rfl (Nat.le_refl _) (Nat.le_refl _) ?_
                          exact pe_i rfl rfl rfl))
                · first
                  | (exfalso; omega; done)
                  | (refine aw_blk oX11_set_48 (pc' := 53) (ls' := [_, _, _, _]) (st' := [_, _]) (cs := []) rfl trivial ?_
                     refine aw_cvV (rest := []) (c_forgetCuts (by omega) (by omega)) kX3_forgetCutsFrom eX11_set_53 lX11_set_53 rfl rfl rfl rfl (Nat.le_of_ble_eq_true rfl) ⟨Nat.le_of_ble_eq_true rfl, Nat.le_of_ble_eq_true rfl⟩ ⟨Nat.le_refl _, Nat.le_refl _⟩ ?_
                     refine aw_blk oX11_set_56 (pc' := 58) (ls' := [_, _, _, _]) (st' := [_, _]) (cs := []) rfl trivial ?_
                     refine aw_icmp_ne (tgt := 65) eX11_set_58 (by decide) (by omega) (by omega) (fun h193 => ?_) (fun h193 => ?_)
                     · first
                       | (exfalso; omega; done)
                       | (refine aw_blk oX11_set_65 (pc' := 66) (ls' := [_, _, _, _]) (st' := [_]) (cs := []) rfl trivial ?_
                          refine aw_iret eX11_set_66 rfl (Nat.le_refl _) (Nat.le_refl _) ?_
                          exact pe_i rfl rfl rfl)
                     · first
                       | (exfalso; omega; done)
                       | (refine aw_blk oX11_set_61 (pc' := 62) (ls' := [_, _, _, _]) (st' := [_]) (cs := []) rfl trivial ?_
                          refine aw_cvV (rest := []) (c_forget) kX11_forgetShows eX11_set_62 lX11_set_62 rfl rfl rfl rfl (Nat.le_of_ble_eq_true rfl) ⟨Nat.le_of_ble_eq_true rfl, Nat.le_of_ble_eq_true rfl⟩ ⟨Nat.le_refl _, Nat.le_refl _⟩ ?_
                          refine aw_blk oX11_set_65 (pc' := 66) (ls' := [_, _, _, _]) (st' := [_]) (cs := []) rfl trivial ?_
                          refine aw_iret eX11_set_66 rfl (Nat.le_refl _) (Nat.le_refl _) ?_
                          exact pe_i rfl rfl rfl)))
           · first
             | (exfalso; omega; done)
             | (refine aw_blk oX11_set_27 (pc' := 29) (ls' := [_, _, _, _]) (st' := [_]) (cs := []) rfl trivial ?_
                refine aw_iret eX11_set_29 rfl (Nat.le_refl _) (Nat.le_refl _) ?_
                exact pe_i rfl rfl rfl))
    · refine AMet.of kX12_set.1 (Nat.le_of_ble_eq_true rfl) rfl ?_
      refine aw_blk oX12_set_0 (pc' := 4) (ls' := [_, _, _, _, _]) (st' := [_, _, _]) (cs := []) rfl trivial ?_
      refine aw_ciS (rest := []) (c_X12_in (by omega) (by omega) (by omega)) kX12_in eX12_set_4 lX12_set_4 rfl rfl (Nat.le_of_ble_eq_true rfl) ⟨Nat.le_of_ble_eq_true rfl, Nat.le_of_ble_eq_true rfl⟩ ⟨Nat.le_refl _, Nat.le_refl _⟩ ?_
      refine aw_if_ne (tgt := 13) eX12_set_7 (by decide) bt_r (fun hh => have h194 := bt1 hh; ?_) (fun hh => have h194 := bt0 hh; ?_)
      · first
        | (exfalso; omega; done)
        | (refine aw_blk oX12_set_13 (pc' := 14) (ls' := [_, _, _, _, _]) (st' := [_]) (cs := []) rfl trivial ?_
           refine aw_if_ne (tgt := 22) eX12_set_14 (by decide) (by omega) (fun h195 => ?_) (fun h195 => ?_)
           · first
             | (exfalso; omega; done)
             | (refine aw_blk oX12_set_22 (pc' := 24) (ls' := [_, _, _, _, _]) (st' := [_, _]) (cs := []) rfl trivial ?_
                refine aw_icmp_ne (tgt := 33) eX12_set_24 (by decide) (by omega) (by omega) (fun h196 => ?_) (fun h196 => ?_)
                · first
                  | (exfalso; omega; done)
                  | (refine aw_blk oX12_set_33 (pc' := 35) (ls' := [_, _, _, _, _]) (st' := [_, _]) (cs := []) rfl trivial ?_
                     refine aw_icmp_ne (tgt := 43) eX12_set_35 (by decide) (by omega) (by omega) (fun h197 => ?_) (fun h197 => ?_)
                     · first
                       | (exfalso; omega; done)
                       | (refine aw_blk oX12_set_43 (pc' := 45) (ls' := [_, _, _, _, _]) (st' := [_, _]) (cs := []) rfl trivial ?_
                          refine aw_icmp_ne (tgt := 53) eX12_set_45 (by decide) (by omega) (by omega) (fun h198 => ?_) (fun h198 => ?_)
                          · first
                            | (exfalso; omega; done)
                            | (refine aw_blk oX12_set_53 (pc' := 55) (ls' := [_, _, _, _, _]) (st' := [_, _]) (cs := []) rfl trivial ?_
                               refine aw_icmp_ne (tgt := 63) eX12_set_55 (by decide) (by omega) (by omega) (fun h199 => ?_) (fun h199 => ?_)
                               · first
                                 | (exfalso; omega; done)
                                 | (refine aw_blk oX12_set_63 (pc' := 65) (ls' := [_, _, _, _, _]) (st' := [_, _]) (cs := []) rfl trivial ?_
                                    refine aw_icmp_ne (tgt := 74) eX12_set_65 (by decide) (by omega) (by omega) (fun h200 => ?_) (fun h200 => ?_)
                                    · first
                                      | (exfalso; omega; done)
                                      | (refine aw_blk oX12_set_74 (pc' := 76) (ls' := [_, _, _, _, _]) (st' := [_]) (cs := []) rfl trivial ?_
                                         refine aw_blk oX12_set_76 (pc' := 80) (ls' := [_, _, _, _, _]) (st' := [_, _, _]) (cs := []) rfl trivial ?_
                                         refine aw_icmp_eq (tgt := 89) eX12_set_80 (by decide) (by omega) (by omega) (fun h201 => ?_) (fun h201 => ?_)
                                         · first
                                           | (exfalso; omega; done)
                                           | (refine aw_blk oX12_set_89 (pc' := 94) (ls' := [_, _, _, _, _]) (st' := [_, _]) (cs := []) rfl trivial ?_
                                              refine aw_blk oX12_set_94 (pc' := 95) (ls' := [_, _, _, _, _]) (st' := [_, _, _]) (cs := []) rfl trivial ?_
                                              refine aw_ciS (rest := []) (c_X12_in (by omega) (by omega) (by omega)) kX12_in eX12_set_95 lX12_set_95 rfl rfl (Nat.le_of_ble_eq_true rfl) ⟨Nat.le_of_ble_eq_true rfl, Nat.le_of_ble_eq_true rfl⟩ ⟨Nat.le_refl _, Nat.le_refl _⟩ ?_
                                              refine aw_if_ne (tgt := 104) eX12_set_98 (by decide) bt_r (fun hh => have h202 := bt1 hh; ?_) (fun hh => have h202 := bt0 hh; ?_)
                                              · first
                                                | (exfalso; omega; done)
                                                | (refine aw_blk oX12_set_104 (pc' := 121) (ls' := [_, _, _, _, _]) (st' := [_]) (cs := [(_, _), (_, _)]) rfl (⟨⟨by omega, by omega⟩, ⟨by omega, by omega⟩, trivial⟩) ?_
                                                   refine aw_iret eX12_set_121 rfl (Nat.le_refl _) (Nat.le_refl _) ?_
                                                   exact pe_i s.1 rfl rfl)
                                              · first
                                                | (exfalso; omega; done)
                                                | (refine aw_blk oX12_set_101 (pc' := 103) (ls' := [_, _, _, _, _]) (st' := [_]) (cs := []) rfl trivial ?_
                                                   refine aw_iret eX12_set_103 rfl (Nat.le_refl _) (Nat.le_refl _) ?_
                                                   exact pe_i s.1 rfl rfl))
                                         · first
                                           | (exfalso; omega; done)
                                           | (refine aw_blk oX12_set_83 (pc' := 86) (ls' := [_, _, _, _, _]) (st' := [_, _, _]) (cs := []) rfl trivial ?_
                                              refine aw_icmp_ne (tgt := 93) eX12_set_86 (by decide) (by omega) (by omega) (fun h203 => ?_) (fun h203 => ?_)
                                              · first
                                                | (exfalso; omega; done)
                                                | (refine aw_blk oX12_set_93 (pc' := 94) (ls' := [_, _, _, _, _]) (st' := [_, _]) (cs := []) rfl trivial ?_
                                                   refine aw_blk oX12_set_94 (pc' := 95) (ls' := [_, _, _, _, _]) (st' := [_, _, _]) (cs := []) rfl trivial ?_
                                                   refine aw_ciS (rest := []) (c_X12_in (by omega) (by omega) (by omega)) kX12_in eX12_set_95 lX12_set_95 rfl rfl (Nat.le_of_ble_eq_true rfl) ⟨Nat.le_of_ble_eq_true rfl, Nat.le_of_ble_eq_true rfl⟩ ⟨Nat.le_refl _, Nat.le_refl _⟩ ?_
                                                   refine aw_if_ne (tgt := 104) eX12_set_98 (by decide) bt_r (fun hh => have h204 := bt1 hh; ?_) (fun hh => have h204 := bt0 hh; ?_)
                                                   · first
                                                     | (exfalso; omega; done)
                                                     | (refine aw_blk oX12_set_104 (pc' := 121) (ls' := [_, _, _, _, _]) (st' := [_]) (cs := [(_, _), (_, _)]) rfl (⟨⟨by omega, by omega⟩, ⟨by omega, by omega⟩, trivial⟩) ?_
                                                        refine aw_iret eX12_set_121 rfl (Nat.le_refl _) (Nat.le_refl _) ?_
                                                        exact pe_i s.1 rfl rfl)
                                                   · first
                                                     | (exfalso; omega; done)
                                                     | (refine aw_blk oX12_set_101 (pc' := 103) (ls' := [_, _, _, _, _]) (st' := [_]) (cs := []) rfl trivial ?_
                                                        refine aw_iret eX12_set_103 rfl (Nat.le_refl _) (Nat.le_refl _) ?_
                                                        exact pe_i s.1 rfl rfl))
                                              · first
                                                | (exfalso; omega; done)
                                                | (refine aw_blk oX12_set_89 (pc' := 94) (ls' := [_, _, _, _, _]) (st' := [_, _]) (cs := []) rfl trivial ?_
                                                   refine aw_blk oX12_set_94 (pc' := 95) (ls' := [_, _, _, _, _]) (st' := [_, _, _]) (cs := []) rfl trivial ?_
                                                   refine aw_ciS (rest := []) (c_X12_in (by omega) (by omega) (by omega)) kX12_in eX12_set_95 lX12_set_95 rfl rfl (Nat.le_of_ble_eq_true rfl) ⟨Nat.le_of_ble_eq_true rfl, Nat.le_of_ble_eq_true rfl⟩ ⟨Nat.le_refl _, Nat.le_refl _⟩ ?_
                                                   refine aw_if_ne (tgt := 104) eX12_set_98 (by decide) bt_r (fun hh => have h205 := bt1 hh; ?_) (fun hh => have h205 := bt0 hh; ?_)
                                                   · first
                                                     | (exfalso; omega; done)
                                                     | (refine aw_blk oX12_set_104 (pc' := 121) (ls' := [_, _, _, _, _]) (st' := [_]) (cs := [(_, _), (_, _)]) rfl (⟨⟨by omega, by omega⟩, ⟨by omega, by omega⟩, trivial⟩) ?_
                                                        refine aw_iret eX12_set_121 rfl (Nat.le_refl _) (Nat.le_refl _) ?_
                                                        exact pe_i s.1 rfl rfl)
                                                   · first
                                                     | (exfalso; omega; done)
                                                     | (refine aw_blk oX12_set_101 (pc' := 103) (ls' := [_, _, _, _, _]) (st' := [_]) (cs := []) rfl trivial ?_
                                                        refine aw_iret eX12_set_103 rfl (Nat.le_refl _) (Nat.le_refl _) ?_
                                                        exact pe_i s.1 rfl rfl))))
                                    · first
                                      | (exfalso; omega; done)
                                      | (refine aw_blk oX12_set_68 (pc' := 76) (ls' := [_, _, _, _, _]) (st' := [_]) (cs := []) rfl trivial ?_
                                         refine aw_blk oX12_set_76 (pc' := 80) (ls' := [_, _, _, _, _]) (st' := [_, _, _]) (cs := []) rfl trivial ?_
                                         refine aw_icmp_eq (tgt := 89) eX12_set_80 (by decide) (by omega) (by omega) (fun h206 => ?_) (fun h206 => ?_)
                                         · first
                                           | (exfalso; omega; done)
                                           | (refine aw_blk oX12_set_89 (pc' := 94) (ls' := [_, _, _, _, _]) (st' := [_, _]) (cs := []) rfl trivial ?_
                                              refine aw_blk oX12_set_94 (pc' := 95) (ls' := [_, _, _, _, _]) (st' := [_, _, _]) (cs := []) rfl trivial ?_
                                              refine aw_ciS (rest := []) (c_X12_in (by omega) (by omega) (by omega)) kX12_in eX12_set_95 lX12_set_95 rfl rfl (Nat.le_of_ble_eq_true rfl) ⟨Nat.le_of_ble_eq_true rfl, Nat.le_of_ble_eq_true rfl⟩ ⟨Nat.le_refl _, Nat.le_refl _⟩ ?_
                                              refine aw_if_ne (tgt := 104) eX12_set_98 (by decide) bt_r (fun hh => have h207 := bt1 hh; ?_) (fun hh => have h207 := bt0 hh; ?_)
                                              · first
                                                | (exfalso; omega; done)
                                                | (refine aw_blk oX12_set_104 (pc' := 121) (ls' := [_, _, _, _, _]) (st' := [_]) (cs := [(_, _), (_, _)]) rfl (⟨⟨by omega, by omega⟩, ⟨by omega, by omega⟩, trivial⟩) ?_
                                                   refine aw_iret eX12_set_121 rfl (Nat.le_refl _) (Nat.le_refl _) ?_
                                                   exact pe_i s.1 rfl rfl)
                                              · first
                                                | (exfalso; omega; done)
                                                | (refine aw_blk oX12_set_101 (pc' := 103) (ls' := [_, _, _, _, _]) (st' := [_]) (cs := []) rfl trivial ?_
                                                   refine aw_iret eX12_set_103 rfl (Nat.le_refl _) (Nat.le_refl _) ?_
                                                   exact pe_i s.1 rfl rfl))
                                         · first
                                           | (exfalso; omega; done)
                                           | (refine aw_blk oX12_set_83 (pc' := 86) (ls' := [_, _, _, _, _]) (st' := [_, _, _]) (cs := []) rfl trivial ?_
                                              refine aw_icmp_ne (tgt := 93) eX12_set_86 (by decide) (by omega) (by omega) (fun h208 => ?_) (fun h208 => ?_)
                                              · first
                                                | (exfalso; omega; done)
                                                | (refine aw_blk oX12_set_93 (pc' := 94) (ls' := [_, _, _, _, _]) (st' := [_, _]) (cs := []) rfl trivial ?_
                                                   refine aw_blk oX12_set_94 (pc' := 95) (ls' := [_, _, _, _, _]) (st' := [_, _, _]) (cs := []) rfl trivial ?_
                                                   refine aw_ciS (rest := []) (c_X12_in (by omega) (by omega) (by omega)) kX12_in eX12_set_95 lX12_set_95 rfl rfl (Nat.le_of_ble_eq_true rfl) ⟨Nat.le_of_ble_eq_true rfl, Nat.le_of_ble_eq_true rfl⟩ ⟨Nat.le_refl _, Nat.le_refl _⟩ ?_
                                                   refine aw_if_ne (tgt := 104) eX12_set_98 (by decide) bt_r (fun hh => have h209 := bt1 hh; ?_) (fun hh => have h209 := bt0 hh; ?_)
                                                   · first
                                                     | (exfalso; omega; done)
                                                     | (refine aw_blk oX12_set_104 (pc' := 121) (ls' := [_, _, _, _, _]) (st' := [_]) (cs := [(_, _), (_, _)]) rfl (⟨⟨by omega, by omega⟩, ⟨by omega, by omega⟩, trivial⟩) ?_
                                                        refine aw_iret eX12_set_121 rfl (Nat.le_refl _) (Nat.le_refl _) ?_
                                                        exact pe_i s.1 rfl rfl)
                                                   · first
                                                     | (exfalso; omega; done)
                                                     | (refine aw_blk oX12_set_101 (pc' := 103) (ls' := [_, _, _, _, _]) (st' := [_]) (cs := []) rfl trivial ?_
                                                        refine aw_iret eX12_set_103 rfl (Nat.le_refl _) (Nat.le_refl _) ?_
                                                        exact pe_i s.1 rfl rfl))
                                              · first
                                                | (exfalso; omega; done)
                                                | (refine aw_blk oX12_set_89 (pc' := 94) (ls' := [_, _, _, _, _]) (st' := [_, _]) (cs := []) rfl trivial ?_
                                                   refine aw_blk oX12_set_94 (pc' := 95) (ls' := [_, _, _, _, _]) (st' := [_, _, _]) (cs := []) rfl trivial ?_
                                                   refine aw_ciS (rest := []) (c_X12_in (by omega) (by omega) (by omega)) kX12_in eX12_set_95 lX12_set_95 rfl rfl (Nat.le_of_ble_eq_true rfl) ⟨Nat.le_of_ble_eq_true rfl, Nat.le_of_ble_eq_true rfl⟩ ⟨Nat.le_refl _, Nat.le_refl _⟩ ?_
                                                   refine aw_if_ne (tgt := 104) eX12_set_98 (by decide) bt_r (fun hh => have h210 := bt1 hh; ?_) (fun hh => have h210 := bt0 hh; ?_)
                                                   · first
                                                     | (exfalso; omega; done)
                                                     | (refine aw_blk oX12_set_104 (pc' := 121) (ls' := [_, _, _, _, _]) (st' := [_]) (cs := [(_, _), (_, _)]) rfl (⟨⟨by omega, by omega⟩, ⟨by omega, by omega⟩, trivial⟩) ?_
                                                        refine aw_iret eX12_set_121 rfl (Nat.le_refl _) (Nat.le_refl _) ?_
                                                        exact pe_i s.1 rfl rfl)
                                                   · first
                                                     | (exfalso; omega; done)
                                                     | (refine aw_blk oX12_set_101 (pc' := 103) (ls' := [_, _, _, _, _]) (st' := [_]) (cs := []) rfl trivial ?_
                                                        refine aw_iret eX12_set_103 rfl (Nat.le_refl _) (Nat.le_refl _) ?_
                                                        exact pe_i s.1 rfl rfl)))))
                               · first
                                 | (exfalso; omega; done)
                                 | (refine aw_blk oX12_set_58 (pc' := 76) (ls' := [_, _, _, _, _]) (st' := [_]) (cs := []) rfl trivial ?_
                                    refine aw_blk oX12_set_76 (pc' := 80) (ls' := [_, _, _, _, _]) (st' := [_, _, _]) (cs := []) rfl trivial ?_
                                    refine aw_icmp_eq (tgt := 89) eX12_set_80 (by decide) (by omega) (by omega) (fun h211 => ?_) (fun h211 => ?_)
                                    · first
                                      | (exfalso; omega; done)
                                      | (refine aw_blk oX12_set_89 (pc' := 94) (ls' := [_, _, _, _, _]) (st' := [_, _]) (cs := []) rfl trivial ?_
                                         refine aw_blk oX12_set_94 (pc' := 95) (ls' := [_, _, _, _, _]) (st' := [_, _, _]) (cs := []) rfl trivial ?_
                                         refine aw_ciS (rest := []) (c_X12_in (by omega) (by omega) (by omega)) kX12_in eX12_set_95 lX12_set_95 rfl rfl (Nat.le_of_ble_eq_true rfl) ⟨Nat.le_of_ble_eq_true rfl, Nat.le_of_ble_eq_true rfl⟩ ⟨Nat.le_refl _, Nat.le_refl _⟩ ?_
                                         refine aw_if_ne (tgt := 104) eX12_set_98 (by decide) bt_r (fun hh => have h212 := bt1 hh; ?_) (fun hh => have h212 := bt0 hh; ?_)
                                         · first
                                           | (exfalso; omega; done)
                                           | (refine aw_blk oX12_set_104 (pc' := 121) (ls' := [_, _, _, _, _]) (st' := [_]) (cs := [(_, _), (_, _)]) rfl (⟨⟨by omega, by omega⟩, ⟨by omega, by omega⟩, trivial⟩) ?_
                                              refine aw_iret eX12_set_121 rfl (Nat.le_refl _) (Nat.le_refl _) ?_
                                              exact pe_i s.1 rfl rfl)
                                         · first
                                           | (exfalso; omega; done)
                                           | (refine aw_blk oX12_set_101 (pc' := 103) (ls' := [_, _, _, _, _]) (st' := [_]) (cs := []) rfl trivial ?_
                                              refine aw_iret eX12_set_103 rfl (Nat.le_refl _) (Nat.le_refl _) ?_
                                              exact pe_i s.1 rfl rfl))
                                    · first
                                      | (exfalso; omega; done)
                                      | (refine aw_blk oX12_set_83 (pc' := 86) (ls' := [_, _, _, _, _]) (st' := [_, _, _]) (cs := []) rfl trivial ?_
                                         refine aw_icmp_ne (tgt := 93) eX12_set_86 (by decide) (by omega) (by omega) (fun h213 => ?_) (fun h213 => ?_)
                                         · first
                                           | (exfalso; omega; done)
                                           | (refine aw_blk oX12_set_93 (pc' := 94) (ls' := [_, _, _, _, _]) (st' := [_, _]) (cs := []) rfl trivial ?_
                                              refine aw_blk oX12_set_94 (pc' := 95) (ls' := [_, _, _, _, _]) (st' := [_, _, _]) (cs := []) rfl trivial ?_
                                              refine aw_ciS (rest := []) (c_X12_in (by omega) (by omega) (by omega)) kX12_in eX12_set_95 lX12_set_95 rfl rfl (Nat.le_of_ble_eq_true rfl) ⟨Nat.le_of_ble_eq_true rfl, Nat.le_of_ble_eq_true rfl⟩ ⟨Nat.le_refl _, Nat.le_refl _⟩ ?_
                                              refine aw_if_ne (tgt := 104) eX12_set_98 (by decide) bt_r (fun hh => have h214 := bt1 hh; ?_) (fun hh => have h214 := bt0 hh; ?_)
                                              · first
                                                | (exfalso; omega; done)
                                                | (refine aw_blk oX12_set_104 (pc' := 121) (ls' := [_, _, _, _, _]) (st' := [_]) (cs := [(_, _), (_, _)]) rfl (⟨⟨by omega, by omega⟩, ⟨by omega, by omega⟩, trivial⟩) ?_
                                                   refine aw_iret eX12_set_121 rfl (Nat.le_refl _) (Nat.le_refl _) ?_
                                                   exact pe_i s.1 rfl rfl)
                                              · first
                                                | (exfalso; omega; done)
                                                | (refine aw_blk oX12_set_101 (pc' := 103) (ls' := [_, _, _, _, _]) (st' := [_]) (cs := []) rfl trivial ?_
                                                   refine aw_iret eX12_set_103 rfl (Nat.le_refl _) (Nat.le_refl _) ?_
                                                   exact pe_i s.1 rfl rfl))
                                         · first
                                           | (exfalso; omega; done)
                                           | (refine aw_blk oX12_set_89 (pc' := 94) (ls' := [_, _, _, _, _]) (st' := [_, _]) (cs := []) rfl trivial ?_
                                              refine aw_blk oX12_set_94 (pc' := 95) (ls' := [_, _, _, _, _]) (st' := [_, _, _]) (cs := []) rfl trivial ?_
                                              refine aw_ciS (rest := []) (c_X12_in (by omega) (by omega) (by omega)) kX12_in eX12_set_95 lX12_set_95 rfl rfl (Nat.le_of_ble_eq_true rfl) ⟨Nat.le_of_ble_eq_true rfl, Nat.le_of_ble_eq_true rfl⟩ ⟨Nat.le_refl _, Nat.le_refl _⟩ ?_
                                              refine aw_if_ne (tgt := 104) eX12_set_98 (by decide) bt_r (fun hh => have h215 := bt1 hh; ?_) (fun hh => have h215 := bt0 hh; ?_)
                                              · first
                                                | (exfalso; omega; done)
                                                | (refine aw_blk oX12_set_104 (pc' := 121) (ls' := [_, _, _, _, _]) (st' := [_]) (cs := [(_, _), (_, _)]) rfl (⟨⟨by omega, by omega⟩, ⟨by omega, by omega⟩, trivial⟩) ?_
                                                   refine aw_iret eX12_set_121 rfl (Nat.le_refl _) (Nat.le_refl _) ?_
                                                   exact pe_i s.1 rfl rfl)
                                              · first
                                                | (exfalso; omega; done)
                                                | (refine aw_blk oX12_set_101 (pc' := 103) (ls' := [_, _, _, _, _]) (st' := [_]) (cs := []) rfl trivial ?_
                                                   refine aw_iret eX12_set_103 rfl (Nat.le_refl _) (Nat.le_refl _) ?_
                                                   exact pe_i s.1 rfl rfl)))))
                          · first
                            | (exfalso; omega; done)
                            | (refine aw_blk oX12_set_48 (pc' := 76) (ls' := [_, _, _, _, _]) (st' := [_]) (cs := []) rfl trivial ?_
                               refine aw_blk oX12_set_76 (pc' := 80) (ls' := [_, _, _, _, _]) (st' := [_, _, _]) (cs := []) rfl trivial ?_
                               refine aw_icmp_eq (tgt := 89) eX12_set_80 (by decide) (by omega) (by omega) (fun h216 => ?_) (fun h216 => ?_)
                               · first
                                 | (exfalso; omega; done)
                                 | (refine aw_blk oX12_set_89 (pc' := 94) (ls' := [_, _, _, _, _]) (st' := [_, _]) (cs := []) rfl trivial ?_
                                    refine aw_blk oX12_set_94 (pc' := 95) (ls' := [_, _, _, _, _]) (st' := [_, _, _]) (cs := []) rfl trivial ?_
                                    refine aw_ciS (rest := []) (c_X12_in (by omega) (by omega) (by omega)) kX12_in eX12_set_95 lX12_set_95 rfl rfl (Nat.le_of_ble_eq_true rfl) ⟨Nat.le_of_ble_eq_true rfl, Nat.le_of_ble_eq_true rfl⟩ ⟨Nat.le_refl _, Nat.le_refl _⟩ ?_
                                    refine aw_if_ne (tgt := 104) eX12_set_98 (by decide) bt_r (fun hh => have h217 := bt1 hh; ?_) (fun hh => have h217 := bt0 hh; ?_)
                                    · first
                                      | (exfalso; omega; done)
                                      | (refine aw_blk oX12_set_104 (pc' := 121) (ls' := [_, _, _, _, _]) (st' := [_]) (cs := [(_, _), (_, _)]) rfl (⟨⟨by omega, by omega⟩, ⟨by omega, by omega⟩, trivial⟩) ?_
                                         refine aw_iret eX12_set_121 rfl (Nat.le_refl _) (Nat.le_refl _) ?_
                                         exact pe_i s.1 rfl rfl)
                                    · first
                                      | (exfalso; omega; done)
                                      | (refine aw_blk oX12_set_101 (pc' := 103) (ls' := [_, _, _, _, _]) (st' := [_]) (cs := []) rfl trivial ?_
                                         refine aw_iret eX12_set_103 rfl (Nat.le_refl _) (Nat.le_refl _) ?_
                                         exact pe_i s.1 rfl rfl))
                               · first
                                 | (exfalso; omega; done)
                                 | (refine aw_blk oX12_set_83 (pc' := 86) (ls' := [_, _, _, _, _]) (st' := [_, _, _]) (cs := []) rfl trivial ?_
                                    refine aw_icmp_ne (tgt := 93) eX12_set_86 (by decide) (by omega) (by omega) (fun h218 => ?_) (fun h218 => ?_)
                                    · first
                                      | (exfalso; omega; done)
                                      | (refine aw_blk oX12_set_93 (pc' := 94) (ls' := [_, _, _, _, _]) (st' := [_, _]) (cs := []) rfl trivial ?_
                                         refine aw_blk oX12_set_94 (pc' := 95) (ls' := [_, _, _, _, _]) (st' := [_, _, _]) (cs := []) rfl trivial ?_
                                         refine aw_ciS (rest := []) (c_X12_in (by omega) (by omega) (by omega)) kX12_in eX12_set_95 lX12_set_95 rfl rfl (Nat.le_of_ble_eq_true rfl) ⟨Nat.le_of_ble_eq_true rfl, Nat.le_of_ble_eq_true rfl⟩ ⟨Nat.le_refl _, Nat.le_refl _⟩ ?_
                                         refine aw_if_ne (tgt := 104) eX12_set_98 (by decide) bt_r (fun hh => have h219 := bt1 hh; ?_) (fun hh => have h219 := bt0 hh; ?_)
                                         · first
                                           | (exfalso; omega; done)
                                           | (refine aw_blk oX12_set_104 (pc' := 121) (ls' := [_, _, _, _, _]) (st' := [_]) (cs := [(_, _), (_, _)]) rfl (⟨⟨by omega, by omega⟩, ⟨by omega, by omega⟩, trivial⟩) ?_
                                              refine aw_iret eX12_set_121 rfl (Nat.le_refl _) (Nat.le_refl _) ?_
                                              exact pe_i s.1 rfl rfl)
                                         · first
                                           | (exfalso; omega; done)
                                           | (refine aw_blk oX12_set_101 (pc' := 103) (ls' := [_, _, _, _, _]) (st' := [_]) (cs := []) rfl trivial ?_
                                              refine aw_iret eX12_set_103 rfl (Nat.le_refl _) (Nat.le_refl _) ?_
                                              exact pe_i s.1 rfl rfl))
                                    · first
                                      | (exfalso; omega; done)
                                      | (refine aw_blk oX12_set_89 (pc' := 94) (ls' := [_, _, _, _, _]) (st' := [_, _]) (cs := []) rfl trivial ?_
                                         refine aw_blk oX12_set_94 (pc' := 95) (ls' := [_, _, _, _, _]) (st' := [_, _, _]) (cs := []) rfl trivial ?_
                                         refine aw_ciS (rest := []) (c_X12_in (by omega) (by omega) (by omega)) kX12_in eX12_set_95 lX12_set_95 rfl rfl (Nat.le_of_ble_eq_true rfl) ⟨Nat.le_of_ble_eq_true rfl, Nat.le_of_ble_eq_true rfl⟩ ⟨Nat.le_refl _, Nat.le_refl _⟩ ?_
                                         refine aw_if_ne (tgt := 104) eX12_set_98 (by decide) bt_r (fun hh => have h220 := bt1 hh; ?_) (fun hh => have h220 := bt0 hh; ?_)
                                         · first
                                           | (exfalso; omega; done)
                                           | (refine aw_blk oX12_set_104 (pc' := 121) (ls' := [_, _, _, _, _]) (st' := [_]) (cs := [(_, _), (_, _)]) rfl (⟨⟨by omega, by omega⟩, ⟨by omega, by omega⟩, trivial⟩) ?_
                                              refine aw_iret eX12_set_121 rfl (Nat.le_refl _) (Nat.le_refl _) ?_
                                              exact pe_i s.1 rfl rfl)
                                         · first
                                           | (exfalso; omega; done)
                                           | (refine aw_blk oX12_set_101 (pc' := 103) (ls' := [_, _, _, _, _]) (st' := [_]) (cs := []) rfl trivial ?_
                                              refine aw_iret eX12_set_103 rfl (Nat.le_refl _) (Nat.le_refl _) ?_
                                              exact pe_i s.1 rfl rfl)))))
                     · first
                       | (exfalso; omega; done)
                       | (refine aw_blk oX12_set_38 (pc' := 76) (ls' := [_, _, _, _, _]) (st' := [_]) (cs := []) rfl trivial ?_
                          refine aw_blk oX12_set_76 (pc' := 80) (ls' := [_, _, _, _, _]) (st' := [_, _, _]) (cs := []) rfl trivial ?_
                          refine aw_icmp_eq (tgt := 89) eX12_set_80 (by decide) (by omega) (by omega) (fun h221 => ?_) (fun h221 => ?_)
                          · first
                            | (exfalso; omega; done)
                            | (refine aw_blk oX12_set_89 (pc' := 94) (ls' := [_, _, _, _, _]) (st' := [_, _]) (cs := []) rfl trivial ?_
                               refine aw_blk oX12_set_94 (pc' := 95) (ls' := [_, _, _, _, _]) (st' := [_, _, _]) (cs := []) rfl trivial ?_
                               refine aw_ciS (rest := []) (c_X12_in (by omega) (by omega) (by omega)) kX12_in eX12_set_95 lX12_set_95 rfl rfl (Nat.le_of_ble_eq_true rfl) ⟨Nat.le_of_ble_eq_true rfl, Nat.le_of_ble_eq_true rfl⟩ ⟨Nat.le_refl _, Nat.le_refl _⟩ ?_
                               refine aw_if_ne (tgt := 104) eX12_set_98 (by decide) bt_r (fun hh => have h222 := bt1 hh; ?_) (fun hh => have h222 := bt0 hh; ?_)
                               · first
                                 | (exfalso; omega; done)
                                 | (refine aw_blk oX12_set_104 (pc' := 121) (ls' := [_, _, _, _, _]) (st' := [_]) (cs := [(_, _), (_, _)]) rfl (⟨⟨by omega, by omega⟩, ⟨by omega, by omega⟩, trivial⟩) ?_
                                    refine aw_iret eX12_set_121 rfl (Nat.le_refl _) (Nat.le_refl _) ?_
                                    exact pe_i s.1 rfl rfl)
                               · first
                                 | (exfalso; omega; done)
                                 | (refine aw_blk oX12_set_101 (pc' := 103) (ls' := [_, _, _, _, _]) (st' := [_]) (cs := []) rfl trivial ?_
                                    refine aw_iret eX12_set_103 rfl (Nat.le_refl _) (Nat.le_refl _) ?_
                                    exact pe_i s.1 rfl rfl))
                          · first
                            | (exfalso; omega; done)
                            | (refine aw_blk oX12_set_83 (pc' := 86) (ls' := [_, _, _, _, _]) (st' := [_, _, _]) (cs := []) rfl trivial ?_
                               refine aw_icmp_ne (tgt := 93) eX12_set_86 (by decide) (by omega) (by omega) (fun h223 => ?_) (fun h223 => ?_)
                               · first
                                 | (exfalso; omega; done)
                                 | (refine aw_blk oX12_set_93 (pc' := 94) (ls' := [_, _, _, _, _]) (st' := [_, _]) (cs := []) rfl trivial ?_
                                    refine aw_blk oX12_set_94 (pc' := 95) (ls' := [_, _, _, _, _]) (st' := [_, _, _]) (cs := []) rfl trivial ?_
                                    refine aw_ciS (rest := []) (c_X12_in (by omega) (by omega) (by omega)) kX12_in eX12_set_95 lX12_set_95 rfl rfl (Nat.le_of_ble_eq_true rfl) ⟨Nat.le_of_ble_eq_true rfl, Nat.le_of_ble_eq_true rfl⟩ ⟨Nat.le_refl _, Nat.le_refl _⟩ ?_
                                    refine aw_if_ne (tgt := 104) eX12_set_98 (by decide) bt_r (fun hh => have h224 := bt1 hh; ?_) (fun hh => have h224 := bt0 hh; ?_)
                                    · first
                                      | (exfalso; omega; done)
                                      | (refine aw_blk oX12_set_104 (pc' := 121) (ls' := [_, _, _, _, _]) (st' := [_]) (cs := [(_, _), (_, _)]) rfl (⟨⟨by omega, by omega⟩, ⟨by omega, by omega⟩, trivial⟩) ?_
                                         refine aw_iret eX12_set_121 rfl (Nat.le_refl _) (Nat.le_refl _) ?_
                                         exact pe_i s.1 rfl rfl)
                                    · first
                                      | (exfalso; omega; done)
                                      | (refine aw_blk oX12_set_101 (pc' := 103) (ls' := [_, _, _, _, _]) (st' := [_]) (cs := []) rfl trivial ?_
                                         refine aw_iret eX12_set_103 rfl (Nat.le_refl _) (Nat.le_refl _) ?_
                                         exact pe_i s.1 rfl rfl))
                               · first
                                 | (exfalso; omega; done)
                                 | (refine aw_blk oX12_set_89 (pc' := 94) (ls' := [_, _, _, _, _]) (st' := [_, _]) (cs := []) rfl trivial ?_
                                    refine aw_blk oX12_set_94 (pc' := 95) (ls' := [_, _, _, _, _]) (st' := [_, _, _]) (cs := []) rfl trivial ?_
                                    refine aw_ciS (rest := []) (c_X12_in (by omega) (by omega) (by omega)) kX12_in eX12_set_95 lX12_set_95 rfl rfl (Nat.le_of_ble_eq_true rfl) ⟨Nat.le_of_ble_eq_true rfl, Nat.le_of_ble_eq_true rfl⟩ ⟨Nat.le_refl _, Nat.le_refl _⟩ ?_
                                    refine aw_if_ne (tgt := 104) eX12_set_98 (by decide) bt_r (fun hh => have h225 := bt1 hh; ?_) (fun hh => have h225 := bt0 hh; ?_)
                                    · first
                                      | (exfalso; omega; done)
                                      | (refine aw_blk oX12_set_104 (pc' := 121) (ls' := [_, _, _, _, _]) (st' := [_]) (cs := [(_, _), (_, _)]) rfl (⟨⟨by omega, by omega⟩, ⟨by omega, by omega⟩, trivial⟩) ?_
                                         refine aw_iret eX12_set_121 rfl (Nat.le_refl _) (Nat.le_refl _) ?_
                                         exact pe_i s.1 rfl rfl)
                                    · first
                                      | (exfalso; omega; done)
                                      | (refine aw_blk oX12_set_101 (pc' := 103) (ls' := [_, _, _, _, _]) (st' := [_]) (cs := []) rfl trivial ?_
                                         refine aw_iret eX12_set_103 rfl (Nat.le_refl _) (Nat.le_refl _) ?_
                                         exact pe_i s.1 rfl rfl)))))
                · first
                  | (exfalso; omega; done)
                  | (refine aw_blk oX12_set_27 (pc' := 76) (ls' := [_, _, _, _, _]) (st' := [_]) (cs := []) rfl trivial ?_
                     refine aw_blk oX12_set_76 (pc' := 80) (ls' := [_, _, _, _, _]) (st' := [_, _, _]) (cs := []) rfl trivial ?_
                     refine aw_icmp_eq (tgt := 89) eX12_set_80 (by decide) (by omega) (by omega) (fun h226 => ?_) (fun h226 => ?_)
                     · first
                       | (exfalso; omega; done)
                       | (refine aw_blk oX12_set_89 (pc' := 94) (ls' := [_, _, _, _, _]) (st' := [_, _]) (cs := []) rfl trivial ?_
                          refine aw_blk oX12_set_94 (pc' := 95) (ls' := [_, _, _, _, _]) (st' := [_, _, _]) (cs := []) rfl trivial ?_
                          refine aw_ciS (rest := []) (c_X12_in (by omega) (by omega) (by omega)) kX12_in eX12_set_95 lX12_set_95 rfl rfl (Nat.le_of_ble_eq_true rfl) ⟨Nat.le_of_ble_eq_true rfl, Nat.le_of_ble_eq_true rfl⟩ ⟨Nat.le_refl _, Nat.le_refl _⟩ ?_
                          refine aw_if_ne (tgt := 104) eX12_set_98 (by decide) bt_r (fun hh => have h227 := bt1 hh; ?_) (fun hh => have h227 := bt0 hh; ?_)
                          · first
                            | (exfalso; omega; done)
                            | (refine aw_blk oX12_set_104 (pc' := 121) (ls' := [_, _, _, _, _]) (st' := [_]) (cs := [(_, _), (_, _)]) rfl (⟨⟨by omega, by omega⟩, ⟨by omega, by omega⟩, trivial⟩) ?_
                               refine aw_iret eX12_set_121 rfl (Nat.le_refl _) (Nat.le_refl _) ?_
                               exact pe_i s.1 rfl rfl)
                          · first
                            | (exfalso; omega; done)
                            | (refine aw_blk oX12_set_101 (pc' := 103) (ls' := [_, _, _, _, _]) (st' := [_]) (cs := []) rfl trivial ?_
                               refine aw_iret eX12_set_103 rfl (Nat.le_refl _) (Nat.le_refl _) ?_
                               exact pe_i s.1 rfl rfl))
                     · first
                       | (exfalso; omega; done)
                       | (refine aw_blk oX12_set_83 (pc' := 86) (ls' := [_, _, _, _, _]) (st' := [_, _, _]) (cs := []) rfl trivial ?_
                          refine aw_icmp_ne (tgt := 93) eX12_set_86 (by decide) (by omega) (by omega) (fun h228 => ?_) (fun h228 => ?_)
                          · first
                            | (exfalso; omega; done)
                            | (refine aw_blk oX12_set_93 (pc' := 94) (ls' := [_, _, _, _, _]) (st' := [_, _]) (cs := []) rfl trivial ?_
                               refine aw_blk oX12_set_94 (pc' := 95) (ls' := [_, _, _, _, _]) (st' := [_, _, _]) (cs := []) rfl trivial ?_
                               refine aw_ciS (rest := []) (c_X12_in (by omega) (by omega) (by omega)) kX12_in eX12_set_95 lX12_set_95 rfl rfl (Nat.le_of_ble_eq_true rfl) ⟨Nat.le_of_ble_eq_true rfl, Nat.le_of_ble_eq_true rfl⟩ ⟨Nat.le_refl _, Nat.le_refl _⟩ ?_
                               refine aw_if_ne (tgt := 104) eX12_set_98 (by decide) bt_r (fun hh => have h229 := bt1 hh; ?_) (fun hh => have h229 := bt0 hh; ?_)
                               · first
                                 | (exfalso; omega; done)
                                 | (refine aw_blk oX12_set_104 (pc' := 121) (ls' := [_, _, _, _, _]) (st' := [_]) (cs := [(_, _), (_, _)]) rfl (⟨⟨by omega, by omega⟩, ⟨by omega, by omega⟩, trivial⟩) ?_
                                    refine aw_iret eX12_set_121 rfl (Nat.le_refl _) (Nat.le_refl _) ?_
                                    exact pe_i s.1 rfl rfl)
                               · first
                                 | (exfalso; omega; done)
                                 | (refine aw_blk oX12_set_101 (pc' := 103) (ls' := [_, _, _, _, _]) (st' := [_]) (cs := []) rfl trivial ?_
                                    refine aw_iret eX12_set_103 rfl (Nat.le_refl _) (Nat.le_refl _) ?_
                                    exact pe_i s.1 rfl rfl))
                          · first
                            | (exfalso; omega; done)
                            | (refine aw_blk oX12_set_89 (pc' := 94) (ls' := [_, _, _, _, _]) (st' := [_, _]) (cs := []) rfl trivial ?_
                               refine aw_blk oX12_set_94 (pc' := 95) (ls' := [_, _, _, _, _]) (st' := [_, _, _]) (cs := []) rfl trivial ?_
                               refine aw_ciS (rest := []) (c_X12_in (by omega) (by omega) (by omega)) kX12_in eX12_set_95 lX12_set_95 rfl rfl (Nat.le_of_ble_eq_true rfl) ⟨Nat.le_of_ble_eq_true rfl, Nat.le_of_ble_eq_true rfl⟩ ⟨Nat.le_refl _, Nat.le_refl _⟩ ?_
                               refine aw_if_ne (tgt := 104) eX12_set_98 (by decide) bt_r (fun hh => have h230 := bt1 hh; ?_) (fun hh => have h230 := bt0 hh; ?_)
                               · first
                                 | (exfalso; omega; done)
                                 | (refine aw_blk oX12_set_104 (pc' := 121) (ls' := [_, _, _, _, _]) (st' := [_]) (cs := [(_, _), (_, _)]) rfl (⟨⟨by omega, by omega⟩, ⟨by omega, by omega⟩, trivial⟩) ?_
                                    refine aw_iret eX12_set_121 rfl (Nat.le_refl _) (Nat.le_refl _) ?_
                                    exact pe_i s.1 rfl rfl)
                               · first
                                 | (exfalso; omega; done)
                                 | (refine aw_blk oX12_set_101 (pc' := 103) (ls' := [_, _, _, _, _]) (st' := [_]) (cs := []) rfl trivial ?_
                                    refine aw_iret eX12_set_103 rfl (Nat.le_refl _) (Nat.le_refl _) ?_
                                    exact pe_i s.1 rfl rfl)))))
           · first
             | (exfalso; omega; done)
             | (refine aw_blk oX12_set_17 (pc' := 76) (ls' := [_, _, _, _, _]) (st' := [_]) (cs := []) rfl trivial ?_
                refine aw_blk oX12_set_76 (pc' := 80) (ls' := [_, _, _, _, _]) (st' := [_, _, _]) (cs := []) rfl trivial ?_
                refine aw_icmp_eq (tgt := 89) eX12_set_80 (by decide) (by omega) (by omega) (fun h231 => ?_) (fun h231 => ?_)
                · first
                  | (exfalso; omega; done)
                  | (refine aw_blk oX12_set_89 (pc' := 94) (ls' := [_, _, _, _, _]) (st' := [_, _]) (cs := []) rfl trivial ?_
                     refine aw_blk oX12_set_94 (pc' := 95) (ls' := [_, _, _, _, _]) (st' := [_, _, _]) (cs := []) rfl trivial ?_
                     refine aw_ciS (rest := []) (c_X12_in (by omega) (by omega) (by omega)) kX12_in eX12_set_95 lX12_set_95 rfl rfl (Nat.le_of_ble_eq_true rfl) ⟨Nat.le_of_ble_eq_true rfl, Nat.le_of_ble_eq_true rfl⟩ ⟨Nat.le_refl _, Nat.le_refl _⟩ ?_
                     refine aw_if_ne (tgt := 104) eX12_set_98 (by decide) bt_r (fun hh => have h232 := bt1 hh; ?_) (fun hh => have h232 := bt0 hh; ?_)
                     · first
                       | (exfalso; omega; done)
                       | (refine aw_blk oX12_set_104 (pc' := 121) (ls' := [_, _, _, _, _]) (st' := [_]) (cs := [(_, _), (_, _)]) rfl (⟨⟨by omega, by omega⟩, ⟨by omega, by omega⟩, trivial⟩) ?_
                          refine aw_iret eX12_set_121 rfl (Nat.le_refl _) (Nat.le_refl _) ?_
                          exact pe_i s.1 rfl rfl)
                     · first
                       | (exfalso; omega; done)
                       | (refine aw_blk oX12_set_101 (pc' := 103) (ls' := [_, _, _, _, _]) (st' := [_]) (cs := []) rfl trivial ?_
                          refine aw_iret eX12_set_103 rfl (Nat.le_refl _) (Nat.le_refl _) ?_
                          exact pe_i s.1 rfl rfl))
                · first
                  | (exfalso; omega; done)
                  | (refine aw_blk oX12_set_83 (pc' := 86) (ls' := [_, _, _, _, _]) (st' := [_, _, _]) (cs := []) rfl trivial ?_
                     refine aw_icmp_ne (tgt := 93) eX12_set_86 (by decide) (by omega) (by omega) (fun h233 => ?_) (fun h233 => ?_)
                     · first
                       | (exfalso; omega; done)
                       | (refine aw_blk oX12_set_93 (pc' := 94) (ls' := [_, _, _, _, _]) (st' := [_, _]) (cs := []) rfl trivial ?_
                          refine aw_blk oX12_set_94 (pc' := 95) (ls' := [_, _, _, _, _]) (st' := [_, _, _]) (cs := []) rfl trivial ?_
                          refine aw_ciS (rest := []) (c_X12_in (by omega) (by omega) (by omega)) kX12_in eX12_set_95 lX12_set_95 rfl rfl (Nat.le_of_ble_eq_true rfl) ⟨Nat.le_of_ble_eq_true rfl, Nat.le_of_ble_eq_true rfl⟩ ⟨Nat.le_refl _, Nat.le_refl _⟩ ?_
                          refine aw_if_ne (tgt := 104) eX12_set_98 (by decide) bt_r (fun hh => have h234 := bt1 hh; ?_) (fun hh => have h234 := bt0 hh; ?_)
                          · first
                            | (exfalso; omega; done)
                            | (refine aw_blk oX12_set_104 (pc' := 121) (ls' := [_, _, _, _, _]) (st' := [_]) (cs := [(_, _), (_, _)]) rfl (⟨⟨by omega, by omega⟩, ⟨by omega, by omega⟩, trivial⟩) ?_
                               refine aw_iret eX12_set_121 rfl (Nat.le_refl _) (Nat.le_refl _) ?_
                               exact pe_i s.1 rfl rfl)
                          · first
                            | (exfalso; omega; done)
                            | (refine aw_blk oX12_set_101 (pc' := 103) (ls' := [_, _, _, _, _]) (st' := [_]) (cs := []) rfl trivial ?_
                               refine aw_iret eX12_set_103 rfl (Nat.le_refl _) (Nat.le_refl _) ?_
                               exact pe_i s.1 rfl rfl))
                     · first
                       | (exfalso; omega; done)
                       | (refine aw_blk oX12_set_89 (pc' := 94) (ls' := [_, _, _, _, _]) (st' := [_, _]) (cs := []) rfl trivial ?_
                          refine aw_blk oX12_set_94 (pc' := 95) (ls' := [_, _, _, _, _]) (st' := [_, _, _]) (cs := []) rfl trivial ?_
                          refine aw_ciS (rest := []) (c_X12_in (by omega) (by omega) (by omega)) kX12_in eX12_set_95 lX12_set_95 rfl rfl (Nat.le_of_ble_eq_true rfl) ⟨Nat.le_of_ble_eq_true rfl, Nat.le_of_ble_eq_true rfl⟩ ⟨Nat.le_refl _, Nat.le_refl _⟩ ?_
                          refine aw_if_ne (tgt := 104) eX12_set_98 (by decide) bt_r (fun hh => have h235 := bt1 hh; ?_) (fun hh => have h235 := bt0 hh; ?_)
                          · first
                            | (exfalso; omega; done)
                            | (refine aw_blk oX12_set_104 (pc' := 121) (ls' := [_, _, _, _, _]) (st' := [_]) (cs := [(_, _), (_, _)]) rfl (⟨⟨by omega, by omega⟩, ⟨by omega, by omega⟩, trivial⟩) ?_
                               refine aw_iret eX12_set_121 rfl (Nat.le_refl _) (Nat.le_refl _) ?_
                               exact pe_i s.1 rfl rfl)
                          · first
                            | (exfalso; omega; done)
                            | (refine aw_blk oX12_set_101 (pc' := 103) (ls' := [_, _, _, _, _]) (st' := [_]) (cs := []) rfl trivial ?_
                               refine aw_iret eX12_set_103 rfl (Nat.le_refl _) (Nat.le_refl _) ?_
                               exact pe_i s.1 rfl rfl)))))
      · first
        | (exfalso; omega; done)
        | (refine aw_blk oX12_set_10 (pc' := 12) (ls' := [_, _, _, _, _]) (st' := [_]) (cs := []) rfl trivial ?_
           refine aw_iret eX12_set_12 rfl (Nat.le_refl _) (Nat.le_refl _) ?_
           exact pe_i s.1 rfl rfl)
    · exact h.up (k := 2) (v := v) (by omega) (by omega) rfl rfl
    · exact ((((SR.rf.put (by decide)).put (by decide)).put (by decide)).put (by decide))
    · intro j hj
      rfl
    · exact Or.inl ⟨rfl, rfl⟩
    · exact Or.inr ⟨rfl, rfl⟩
  · refine ⟨-2, μ, ν, μ, ?_, ?_, by decide, rfl, Or.inl rfl⟩
    · refine AMet.of kX11_set.1 (Nat.le_of_ble_eq_true rfl) rfl ?_
      refine aw_blk oX11_set_0 (pc' := 4) (ls' := [_, _, _, _]) (st' := [_, _, _]) (cs := []) rfl trivial ?_
      refine aw_ciS (rest := []) (c_X11_between (by omega) (by omega) (by omega)) kX11_between eX11_set_4 lX11_set_4 rfl rfl (Nat.le_of_ble_eq_true rfl) ⟨Nat.le_of_ble_eq_true rfl, Nat.le_of_ble_eq_true rfl⟩ ⟨Nat.le_refl _, Nat.le_refl _⟩ ?_
      refine aw_if_eq (tgt := 27) eX11_set_7 (by decide) bt_r (fun hh => have h236 := bt0 hh; ?_) (fun hh => have h236 := bt1 hh; ?_)
      · first
        | (exfalso; omega; done)
        | (refine aw_blk oX11_set_27 (pc' := 29) (ls' := [_, _, _, _]) (st' := [_]) (cs := []) rfl trivial ?_
           refine aw_iret eX11_set_29 rfl (Nat.le_refl _) (Nat.le_refl _) ?_
           exact pe_i rfl rfl rfl)
      · first
        | (exfalso; omega; done)
        | (refine aw_blk oX11_set_10 (pc' := 21) (ls' := [_, _, _, _]) (st' := [_, _, _]) (cs := [(_, _), (_, _)]) rfl (⟨⟨by omega, by omega⟩, ⟨by omega, by omega⟩, trivial⟩) ?_
           refine aw_ciS (rest := []) (c_X11_between (by omega) (by omega) (by omega)) kX11_between eX11_set_21 lX11_set_21 rfl rfl (Nat.le_of_ble_eq_true rfl) ⟨Nat.le_of_ble_eq_true rfl, Nat.le_of_ble_eq_true rfl⟩ ⟨Nat.le_refl _, Nat.le_refl _⟩ ?_
           refine aw_if_ne (tgt := 30) eX11_set_24 (by decide) bt_r (fun hh => have h237 := bt1 hh; ?_) (fun hh => have h237 := bt0 hh; ?_)
           · first
             | (exfalso; omega; done)
             | (refine aw_blk oX11_set_30 (pc' := 45) (ls' := [_, _, _, _]) (st' := [_]) (cs := [(_, _), (_, _)]) rfl (⟨⟨by omega, by omega⟩, ⟨by omega, by omega⟩, trivial⟩) ?_
                refine aw_if_ne (tgt := 56) eX11_set_45 (by decide) (by omega) (fun h238 => ?_) (fun h238 => ?_)
                · first
                  | (exfalso; omega; done)
                  | (refine aw_blk oX11_set_56 (pc' := 58) (ls' := [_, _, _, _]) (st' := [_, _]) (cs := []) rfl trivial ?_
                     refine aw_icmp_ne (tgt := 65) eX11_set_58 (by decide) (by omega) (by omega) (fun h239 => ?_) (fun h239 => ?_)
                     · first
                       | (exfalso; omega; done)
                       | (refine aw_blk oX11_set_65 (pc' := 66) (ls' := [_, _, _, _]) (st' := [_]) (cs := []) rfl trivial ?_
                          refine aw_iret eX11_set_66 rfl (Nat.le_refl _) (Nat.le_refl _) ?_
                          exact pe_i rfl rfl rfl)
                     · first
                       | (exfalso; omega; done)
                       | (refine aw_blk oX11_set_61 (pc' := 62) (ls' := [_, _, _, _]) (st' := [_]) (cs := []) rfl trivial ?_
                          refine aw_cvV (rest := []) (c_forget) kX11_forgetShows eX11_set_62 lX11_set_62 rfl rfl rfl rfl (Nat.le_of_ble_eq_true rfl) ⟨Nat.le_of_ble_eq_true rfl, Nat.le_of_ble_eq_true rfl⟩ ⟨Nat.le_refl _, Nat.le_refl _⟩ ?_
                          refine aw_blk oX11_set_65 (pc' := 66) (ls' := [_, _, _, _]) (st' := [_]) (cs := []) rfl trivial ?_
                          refine aw_iret eX11_set_66 rfl (Nat.le_refl _) (Nat.le_refl _) ?_
                          exact pe_i rfl rfl rfl))
                · first
                  | (exfalso; omega; done)
                  | (refine aw_blk oX11_set_48 (pc' := 53) (ls' := [_, _, _, _]) (st' := [_, _]) (cs := []) rfl trivial ?_
                     refine aw_cvV (rest := []) (c_forgetCuts (by omega) (by omega)) kX3_forgetCutsFrom eX11_set_53 lX11_set_53 rfl rfl rfl rfl (Nat.le_of_ble_eq_true rfl) ⟨Nat.le_of_ble_eq_true rfl, Nat.le_of_ble_eq_true rfl⟩ ⟨Nat.le_refl _, Nat.le_refl _⟩ ?_
                     refine aw_blk oX11_set_56 (pc' := 58) (ls' := [_, _, _, _]) (st' := [_, _]) (cs := []) rfl trivial ?_
                     refine aw_icmp_ne (tgt := 65) eX11_set_58 (by decide) (by omega) (by omega) (fun h240 => ?_) (fun h240 => ?_)
                     · first
                       | (exfalso; omega; done)
                       | (refine aw_blk oX11_set_65 (pc' := 66) (ls' := [_, _, _, _]) (st' := [_]) (cs := []) rfl trivial ?_
                          refine aw_iret eX11_set_66 rfl (Nat.le_refl _) (Nat.le_refl _) ?_
                          exact pe_i rfl rfl rfl)
                     · first
                       | (exfalso; omega; done)
                       | (refine aw_blk oX11_set_61 (pc' := 62) (ls' := [_, _, _, _]) (st' := [_]) (cs := []) rfl trivial ?_
                          refine aw_cvV (rest := []) (c_forget) kX11_forgetShows eX11_set_62 lX11_set_62 rfl rfl rfl rfl (Nat.le_of_ble_eq_true rfl) ⟨Nat.le_of_ble_eq_true rfl, Nat.le_of_ble_eq_true rfl⟩ ⟨Nat.le_refl _, Nat.le_refl _⟩ ?_
                          refine aw_blk oX11_set_65 (pc' := 66) (ls' := [_, _, _, _]) (st' := [_]) (cs := []) rfl trivial ?_
                          refine aw_iret eX11_set_66 rfl (Nat.le_refl _) (Nat.le_refl _) ?_
                          exact pe_i rfl rfl rfl)))
           · first
             | (exfalso; omega; done)
             | (refine aw_blk oX11_set_27 (pc' := 29) (ls' := [_, _, _, _]) (st' := [_]) (cs := []) rfl trivial ?_
                refine aw_iret eX11_set_29 rfl (Nat.le_refl _) (Nat.le_refl _) ?_
                exact pe_i rfl rfl rfl))
    · refine AMet.of kX12_set.1 (Nat.le_of_ble_eq_true rfl) rfl ?_
      refine aw_blk oX12_set_0 (pc' := 4) (ls' := [_, _, _, _, _]) (st' := [_, _, _]) (cs := []) rfl trivial ?_
      refine aw_ciS (rest := []) (c_X12_in (by omega) (by omega) (by omega)) kX12_in eX12_set_4 lX12_set_4 rfl rfl (Nat.le_of_ble_eq_true rfl) ⟨Nat.le_of_ble_eq_true rfl, Nat.le_of_ble_eq_true rfl⟩ ⟨Nat.le_refl _, Nat.le_refl _⟩ ?_
      refine aw_if_ne (tgt := 13) eX12_set_7 (by decide) bt_r (fun hh => have h241 := bt1 hh; ?_) (fun hh => have h241 := bt0 hh; ?_)
      · first
        | (exfalso; omega; done)
        | (refine aw_blk oX12_set_13 (pc' := 14) (ls' := [_, _, _, _, _]) (st' := [_]) (cs := []) rfl trivial ?_
           refine aw_if_ne (tgt := 22) eX12_set_14 (by decide) (by omega) (fun h242 => ?_) (fun h242 => ?_)
           · first
             | (exfalso; omega; done)
             | (refine aw_blk oX12_set_22 (pc' := 24) (ls' := [_, _, _, _, _]) (st' := [_, _]) (cs := []) rfl trivial ?_
                refine aw_icmp_ne (tgt := 33) eX12_set_24 (by decide) (by omega) (by omega) (fun h243 => ?_) (fun h243 => ?_)
                · first
                  | (exfalso; omega; done)
                  | (refine aw_blk oX12_set_33 (pc' := 35) (ls' := [_, _, _, _, _]) (st' := [_, _]) (cs := []) rfl trivial ?_
                     refine aw_icmp_ne (tgt := 43) eX12_set_35 (by decide) (by omega) (by omega) (fun h244 => ?_) (fun h244 => ?_)
                     · first
                       | (exfalso; omega; done)
                       | (refine aw_blk oX12_set_43 (pc' := 45) (ls' := [_, _, _, _, _]) (st' := [_, _]) (cs := []) rfl trivial ?_
                          refine aw_icmp_ne (tgt := 53) eX12_set_45 (by decide) (by omega) (by omega) (fun h245 => ?_) (fun h245 => ?_)
                          · first
                            | (exfalso; omega; done)
                            | (refine aw_blk oX12_set_53 (pc' := 55) (ls' := [_, _, _, _, _]) (st' := [_, _]) (cs := []) rfl trivial ?_
                               refine aw_icmp_ne (tgt := 63) eX12_set_55 (by decide) (by omega) (by omega) (fun h246 => ?_) (fun h246 => ?_)
                               · first
                                 | (exfalso; omega; done)
                                 | (refine aw_blk oX12_set_63 (pc' := 65) (ls' := [_, _, _, _, _]) (st' := [_, _]) (cs := []) rfl trivial ?_
                                    refine aw_icmp_ne (tgt := 74) eX12_set_65 (by decide) (by omega) (by omega) (fun h247 => ?_) (fun h247 => ?_)
                                    · first
                                      | (exfalso; omega; done)
                                      | (refine aw_blk oX12_set_74 (pc' := 76) (ls' := [_, _, _, _, _]) (st' := [_]) (cs := []) rfl trivial ?_
                                         refine aw_blk oX12_set_76 (pc' := 80) (ls' := [_, _, _, _, _]) (st' := [_, _, _]) (cs := []) rfl trivial ?_
                                         refine aw_icmp_eq (tgt := 89) eX12_set_80 (by decide) (by omega) (by omega) (fun h248 => ?_) (fun h248 => ?_)
                                         · first
                                           | (exfalso; omega; done)
                                           | (refine aw_blk oX12_set_89 (pc' := 94) (ls' := [_, _, _, _, _]) (st' := [_, _]) (cs := []) rfl trivial ?_
                                              refine aw_blk oX12_set_94 (pc' := 95) (ls' := [_, _, _, _, _]) (st' := [_, _, _]) (cs := []) rfl trivial ?_
                                              refine aw_ciS (rest := []) (c_X12_in (by omega) (by omega) (by omega)) kX12_in eX12_set_95 lX12_set_95 rfl rfl (Nat.le_of_ble_eq_true rfl) ⟨Nat.le_of_ble_eq_true rfl, Nat.le_of_ble_eq_true rfl⟩ ⟨Nat.le_refl _, Nat.le_refl _⟩ ?_
                                              refine aw_if_ne (tgt := 104) eX12_set_98 (by decide) bt_r (fun hh => have h249 := bt1 hh; ?_) (fun hh => have h249 := bt0 hh; ?_)
                                              · first
                                                | (exfalso; omega; done)
                                                | (refine aw_blk oX12_set_104 (pc' := 121) (ls' := [_, _, _, _, _]) (st' := [_]) (cs := [(_, _), (_, _)]) rfl (⟨⟨by omega, by omega⟩, ⟨by omega, by omega⟩, trivial⟩) ?_
                                                   refine aw_iret eX12_set_121 rfl (Nat.le_refl _) (Nat.le_refl _) ?_
                                                   exact pe_i rfl rfl rfl)
                                              · first
                                                | (exfalso; omega; done)
                                                | (refine aw_blk oX12_set_101 (pc' := 103) (ls' := [_, _, _, _, _]) (st' := [_]) (cs := []) rfl trivial ?_
                                                   refine aw_iret eX12_set_103 rfl (Nat.le_refl _) (Nat.le_refl _) ?_
                                                   exact pe_i rfl rfl rfl))
                                         · first
                                           | (exfalso; omega; done)
                                           | (refine aw_blk oX12_set_83 (pc' := 86) (ls' := [_, _, _, _, _]) (st' := [_, _, _]) (cs := []) rfl trivial ?_
                                              refine aw_icmp_ne (tgt := 93) eX12_set_86 (by decide) (by omega) (by omega) (fun h250 => ?_) (fun h250 => ?_)
                                              · first
                                                | (exfalso; omega; done)
                                                | (refine aw_blk oX12_set_93 (pc' := 94) (ls' := [_, _, _, _, _]) (st' := [_, _]) (cs := []) rfl trivial ?_
                                                   refine aw_blk oX12_set_94 (pc' := 95) (ls' := [_, _, _, _, _]) (st' := [_, _, _]) (cs := []) rfl trivial ?_
                                                   refine aw_ciS (rest := []) (c_X12_in (by omega) (by omega) (by omega)) kX12_in eX12_set_95 lX12_set_95 rfl rfl (Nat.le_of_ble_eq_true rfl) ⟨Nat.le_of_ble_eq_true rfl, Nat.le_of_ble_eq_true rfl⟩ ⟨Nat.le_refl _, Nat.le_refl _⟩ ?_
                                                   refine aw_if_ne (tgt := 104) eX12_set_98 (by decide) bt_r (fun hh => have h251 := bt1 hh; ?_) (fun hh => have h251 := bt0 hh; ?_)
                                                   · first
                                                     | (exfalso; omega; done)
                                                     | (refine aw_blk oX12_set_104 (pc' := 121) (ls' := [_, _, _, _, _]) (st' := [_]) (cs := [(_, _), (_, _)]) rfl (⟨⟨by omega, by omega⟩, ⟨by omega, by omega⟩, trivial⟩) ?_
                                                        refine aw_iret eX12_set_121 rfl (Nat.le_refl _) (Nat.le_refl _) ?_
                                                        exact pe_i rfl rfl rfl)
                                                   · first
                                                     | (exfalso; omega; done)
                                                     | (refine aw_blk oX12_set_101 (pc' := 103) (ls' := [_, _, _, _, _]) (st' := [_]) (cs := []) rfl trivial ?_
                                                        refine aw_iret eX12_set_103 rfl (Nat.le_refl _) (Nat.le_refl _) ?_
                                                        exact pe_i rfl rfl rfl))
                                              · first
                                                | (exfalso; omega; done)
                                                | (refine aw_blk oX12_set_89 (pc' := 94) (ls' := [_, _, _, _, _]) (st' := [_, _]) (cs := []) rfl trivial ?_
                                                   refine aw_blk oX12_set_94 (pc' := 95) (ls' := [_, _, _, _, _]) (st' := [_, _, _]) (cs := []) rfl trivial ?_
                                                   refine aw_ciS (rest := []) (c_X12_in (by omega) (by omega) (by omega)) kX12_in eX12_set_95 lX12_set_95 rfl rfl (Nat.le_of_ble_eq_true rfl) ⟨Nat.le_of_ble_eq_true rfl, Nat.le_of_ble_eq_true rfl⟩ ⟨Nat.le_refl _, Nat.le_refl _⟩ ?_
                                                   refine aw_if_ne (tgt := 104) eX12_set_98 (by decide) bt_r (fun hh => have h252 := bt1 hh; ?_) (fun hh => have h252 := bt0 hh; ?_)
                                                   · first
                                                     | (exfalso; omega; done)
                                                     | (refine aw_blk oX12_set_104 (pc' := 121) (ls' := [_, _, _, _, _]) (st' := [_]) (cs := [(_, _), (_, _)]) rfl (⟨⟨by omega, by omega⟩, ⟨by omega, by omega⟩, trivial⟩) ?_
                                                        refine aw_iret eX12_set_121 rfl (Nat.le_refl _) (Nat.le_refl _) ?_
                                                        exact pe_i rfl rfl rfl)
                                                   · first
                                                     | (exfalso; omega; done)
                                                     | (refine aw_blk oX12_set_101 (pc' := 103) (ls' := [_, _, _, _, _]) (st' := [_]) (cs := []) rfl trivial ?_
                                                        refine aw_iret eX12_set_103 rfl (Nat.le_refl _) (Nat.le_refl _) ?_
                                                        exact pe_i rfl rfl rfl))))
                                    · first
                                      | (exfalso; omega; done)
                                      | (refine aw_blk oX12_set_68 (pc' := 76) (ls' := [_, _, _, _, _]) (st' := [_]) (cs := []) rfl trivial ?_
                                         refine aw_blk oX12_set_76 (pc' := 80) (ls' := [_, _, _, _, _]) (st' := [_, _, _]) (cs := []) rfl trivial ?_
                                         refine aw_icmp_eq (tgt := 89) eX12_set_80 (by decide) (by omega) (by omega) (fun h253 => ?_) (fun h253 => ?_)
                                         · first
                                           | (exfalso; omega; done)
                                           | (refine aw_blk oX12_set_89 (pc' := 94) (ls' := [_, _, _, _, _]) (st' := [_, _]) (cs := []) rfl trivial ?_
                                              refine aw_blk oX12_set_94 (pc' := 95) (ls' := [_, _, _, _, _]) (st' := [_, _, _]) (cs := []) rfl trivial ?_
                                              refine aw_ciS (rest := []) (c_X12_in (by omega) (by omega) (by omega)) kX12_in eX12_set_95 lX12_set_95 rfl rfl (Nat.le_of_ble_eq_true rfl) ⟨Nat.le_of_ble_eq_true rfl, Nat.le_of_ble_eq_true rfl⟩ ⟨Nat.le_refl _, Nat.le_refl _⟩ ?_
                                              refine aw_if_ne (tgt := 104) eX12_set_98 (by decide) bt_r (fun hh => have h254 := bt1 hh; ?_) (fun hh => have h254 := bt0 hh; ?_)
                                              · first
                                                | (exfalso; omega; done)
                                                | (refine aw_blk oX12_set_104 (pc' := 121) (ls' := [_, _, _, _, _]) (st' := [_]) (cs := [(_, _), (_, _)]) rfl (⟨⟨by omega, by omega⟩, ⟨by omega, by omega⟩, trivial⟩) ?_
                                                   refine aw_iret eX12_set_121 rfl (Nat.le_refl _) (Nat.le_refl _) ?_
                                                   exact pe_i rfl rfl rfl)
                                              · first
                                                | (exfalso; omega; done)
                                                | (refine aw_blk oX12_set_101 (pc' := 103) (ls' := [_, _, _, _, _]) (st' := [_]) (cs := []) rfl trivial ?_
                                                   refine aw_iret eX12_set_103 rfl (Nat.le_refl _) (Nat.le_refl _) ?_
                                                   exact pe_i rfl rfl rfl))
                                         · first
                                           | (exfalso; omega; done)
                                           | (refine aw_blk oX12_set_83 (pc' := 86) (ls' := [_, _, _, _, _]) (st' := [_, _, _]) (cs := []) rfl trivial ?_
                                              refine aw_icmp_ne (tgt := 93) eX12_set_86 (by decide) (by omega) (by omega) (fun h255 => ?_) (fun h255 => ?_)
                                              · first
                                                | (exfalso; omega; done)
                                                | (refine aw_blk oX12_set_93 (pc' := 94) (ls' := [_, _, _, _, _]) (st' := [_, _]) (cs := []) rfl trivial ?_
                                                   refine aw_blk oX12_set_94 (pc' := 95) (ls' := [_, _, _, _, _]) (st' := [_, _, _]) (cs := []) rfl trivial ?_
                                                   refine aw_ciS (rest := []) (c_X12_in (by omega) (by omega) (by omega)) kX12_in eX12_set_95 lX12_set_95 rfl rfl (Nat.le_of_ble_eq_true rfl) ⟨Nat.le_of_ble_eq_true rfl, Nat.le_of_ble_eq_true rfl⟩ ⟨Nat.le_refl _, Nat.le_refl _⟩ ?_
                                                   refine aw_if_ne (tgt := 104) eX12_set_98 (by decide) bt_r (fun hh => have h256 := bt1 hh; ?_) (fun hh => have h256 := bt0 hh; ?_)
                                                   · first
                                                     | (exfalso; omega; done)
                                                     | (refine aw_blk oX12_set_104 (pc' := 121) (ls' := [_, _, _, _, _]) (st' := [_]) (cs := [(_, _), (_, _)]) rfl (⟨⟨by omega, by omega⟩, ⟨by omega, by omega⟩, trivial⟩) ?_
                                                        refine aw_iret eX12_set_121 rfl (Nat.le_refl _) (Nat.le_refl _) ?_
                                                        exact pe_i rfl rfl rfl)
                                                   · first
                                                     | (exfalso; omega; done)
                                                     | (refine aw_blk oX12_set_101 (pc' := 103) (ls' := [_, _, _, _, _]) (st' := [_]) (cs := []) rfl trivial ?_
                                                        refine aw_iret eX12_set_103 rfl (Nat.le_refl _) (Nat.le_refl _) ?_
                                                        exact pe_i rfl rfl rfl))
                                              · first
                                                | (exfalso; omega; done)
                                                | (refine aw_blk oX12_set_89 (pc' := 94) (ls' := [_, _, _, _, _]) (st' := [_, _]) (cs := []) rfl trivial ?_
                                                   refine aw_blk oX12_set_94 (pc' := 95) (ls' := [_, _, _, _, _]) (st' := [_, _, _]) (cs := []) rfl trivial ?_
                                                   refine aw_ciS (rest := []) (c_X12_in (by omega) (by omega) (by omega)) kX12_in eX12_set_95 lX12_set_95 rfl rfl (Nat.le_of_ble_eq_true rfl) ⟨Nat.le_of_ble_eq_true rfl, Nat.le_of_ble_eq_true rfl⟩ ⟨Nat.le_refl _, Nat.le_refl _⟩ ?_
                                                   refine aw_if_ne (tgt := 104) eX12_set_98 (by decide) bt_r (fun hh => have h257 := bt1 hh; ?_) (fun hh => have h257 := bt0 hh; ?_)
                                                   · first
                                                     | (exfalso; omega; done)
                                                     | (refine aw_blk oX12_set_104 (pc' := 121) (ls' := [_, _, _, _, _]) (st' := [_]) (cs := [(_, _), (_, _)]) rfl (⟨⟨by omega, by omega⟩, ⟨by omega, by omega⟩, trivial⟩) ?_
                                                        refine aw_iret eX12_set_121 rfl (Nat.le_refl _) (Nat.le_refl _) ?_
                                                        exact pe_i rfl rfl rfl)
                                                   · first
                                                     | (exfalso; omega; done)
                                                     | (refine aw_blk oX12_set_101 (pc' := 103) (ls' := [_, _, _, _, _]) (st' := [_]) (cs := []) rfl trivial ?_
                                                        refine aw_iret eX12_set_103 rfl (Nat.le_refl _) (Nat.le_refl _) ?_
                                                        exact pe_i rfl rfl rfl)))))
                               · first
                                 | (exfalso; omega; done)
                                 | (refine aw_blk oX12_set_58 (pc' := 76) (ls' := [_, _, _, _, _]) (st' := [_]) (cs := []) rfl trivial ?_
                                    refine aw_blk oX12_set_76 (pc' := 80) (ls' := [_, _, _, _, _]) (st' := [_, _, _]) (cs := []) rfl trivial ?_
                                    refine aw_icmp_eq (tgt := 89) eX12_set_80 (by decide) (by omega) (by omega) (fun h258 => ?_) (fun h258 => ?_)
                                    · first
                                      | (exfalso; omega; done)
                                      | (refine aw_blk oX12_set_89 (pc' := 94) (ls' := [_, _, _, _, _]) (st' := [_, _]) (cs := []) rfl trivial ?_
                                         refine aw_blk oX12_set_94 (pc' := 95) (ls' := [_, _, _, _, _]) (st' := [_, _, _]) (cs := []) rfl trivial ?_
                                         refine aw_ciS (rest := []) (c_X12_in (by omega) (by omega) (by omega)) kX12_in eX12_set_95 lX12_set_95 rfl rfl (Nat.le_of_ble_eq_true rfl) ⟨Nat.le_of_ble_eq_true rfl, Nat.le_of_ble_eq_true rfl⟩ ⟨Nat.le_refl _, Nat.le_refl _⟩ ?_
                                         refine aw_if_ne (tgt := 104) eX12_set_98 (by decide) bt_r (fun hh => have h259 := bt1 hh; ?_) (fun hh => have h259 := bt0 hh; ?_)
                                         · first
                                           | (exfalso; omega; done)
                                           | (refine aw_blk oX12_set_104 (pc' := 121) (ls' := [_, _, _, _, _]) (st' := [_]) (cs := [(_, _), (_, _)]) rfl (⟨⟨by omega, by omega⟩, ⟨by omega, by omega⟩, trivial⟩) ?_
                                              refine aw_iret eX12_set_121 rfl (Nat.le_refl _) (Nat.le_refl _) ?_
                                              exact pe_i rfl rfl rfl)
                                         · first
                                           | (exfalso; omega; done)
                                           | (refine aw_blk oX12_set_101 (pc' := 103) (ls' := [_, _, _, _, _]) (st' := [_]) (cs := []) rfl trivial ?_
                                              refine aw_iret eX12_set_103 rfl (Nat.le_refl _) (Nat.le_refl _) ?_
                                              exact pe_i rfl rfl rfl))
                                    · first
                                      | (exfalso; omega; done)
                                      | (refine aw_blk oX12_set_83 (pc' := 86) (ls' := [_, _, _, _, _]) (st' := [_, _, _]) (cs := []) rfl trivial ?_
                                         refine aw_icmp_ne (tgt := 93) eX12_set_86 (by decide) (by omega) (by omega) (fun h260 => ?_) (fun h260 => ?_)
                                         · first
                                           | (exfalso; omega; done)
                                           | (refine aw_blk oX12_set_93 (pc' := 94) (ls' := [_, _, _, _, _]) (st' := [_, _]) (cs := []) rfl trivial ?_
                                              refine aw_blk oX12_set_94 (pc' := 95) (ls' := [_, _, _, _, _]) (st' := [_, _, _]) (cs := []) rfl trivial ?_
                                              refine aw_ciS (rest := []) (c_X12_in (by omega) (by omega) (by omega)) kX12_in eX12_set_95 lX12_set_95 rfl rfl (Nat.le_of_ble_eq_true rfl) ⟨Nat.le_of_ble_eq_true rfl, Nat.le_of_ble_eq_true rfl⟩ ⟨Nat.le_refl _, Nat.le_refl _⟩ ?_
                                              refine aw_if_ne (tgt := 104) eX12_set_98 (by decide) bt_r (fun hh => have h261 := bt1 hh; ?_) (fun hh => have h261 := bt0 hh; ?_)
                                              · first
                                                | (exfalso; omega; done)
                                                | (refine aw_blk oX12_set_104 (pc' := 121) (ls' := [_, _, _, _, _]) (st' := [_]) (cs := [(_, _), (_, _)]) rfl (⟨⟨by omega, by omega⟩, ⟨by omega, by omega⟩, trivial⟩) ?_
                                                   refine aw_iret eX12_set_121 rfl (Nat.le_refl _) (Nat.le_refl _) ?_
                                                   exact pe_i rfl rfl rfl)
                                              · first
                                                | (exfalso; omega; done)
                                                | (refine aw_blk oX12_set_101 (pc' := 103) (ls' := [_, _, _, _, _]) (st' := [_]) (cs := []) rfl trivial ?_
                                                   refine aw_iret eX12_set_103 rfl (Nat.le_refl _) (Nat.le_refl _) ?_
                                                   exact pe_i rfl rfl rfl))
                                         · first
                                           | (exfalso; omega; done)
                                           | (refine aw_blk oX12_set_89 (pc' := 94) (ls' := [_, _, _, _, _]) (st' := [_, _]) (cs := []) rfl trivial ?_
                                              refine aw_blk oX12_set_94 (pc' := 95) (ls' := [_, _, _, _, _]) (st' := [_, _, _]) (cs := []) rfl trivial ?_
                                              refine aw_ciS (rest := []) (c_X12_in (by omega) (by omega) (by omega)) kX12_in eX12_set_95 lX12_set_95 rfl rfl (Nat.le_of_ble_eq_true rfl) ⟨Nat.le_of_ble_eq_true rfl, Nat.le_of_ble_eq_true rfl⟩ ⟨Nat.le_refl _, Nat.le_refl _⟩ ?_
                                              refine aw_if_ne (tgt := 104) eX12_set_98 (by decide) bt_r (fun hh => have h262 := bt1 hh; ?_) (fun hh => have h262 := bt0 hh; ?_)
                                              · first
                                                | (exfalso; omega; done)
                                                | (refine aw_blk oX12_set_104 (pc' := 121) (ls' := [_, _, _, _, _]) (st' := [_]) (cs := [(_, _), (_, _)]) rfl (⟨⟨by omega, by omega⟩, ⟨by omega, by omega⟩, trivial⟩) ?_
                                                   refine aw_iret eX12_set_121 rfl (Nat.le_refl _) (Nat.le_refl _) ?_
                                                   exact pe_i rfl rfl rfl)
                                              · first
                                                | (exfalso; omega; done)
                                                | (refine aw_blk oX12_set_101 (pc' := 103) (ls' := [_, _, _, _, _]) (st' := [_]) (cs := []) rfl trivial ?_
                                                   refine aw_iret eX12_set_103 rfl (Nat.le_refl _) (Nat.le_refl _) ?_
                                                   exact pe_i rfl rfl rfl)))))
                          · first
                            | (exfalso; omega; done)
                            | (refine aw_blk oX12_set_48 (pc' := 76) (ls' := [_, _, _, _, _]) (st' := [_]) (cs := []) rfl trivial ?_
                               refine aw_blk oX12_set_76 (pc' := 80) (ls' := [_, _, _, _, _]) (st' := [_, _, _]) (cs := []) rfl trivial ?_
                               refine aw_icmp_eq (tgt := 89) eX12_set_80 (by decide) (by omega) (by omega) (fun h263 => ?_) (fun h263 => ?_)
                               · first
                                 | (exfalso; omega; done)
                                 | (refine aw_blk oX12_set_89 (pc' := 94) (ls' := [_, _, _, _, _]) (st' := [_, _]) (cs := []) rfl trivial ?_
                                    refine aw_blk oX12_set_94 (pc' := 95) (ls' := [_, _, _, _, _]) (st' := [_, _, _]) (cs := []) rfl trivial ?_
                                    refine aw_ciS (rest := []) (c_X12_in (by omega) (by omega) (by omega)) kX12_in eX12_set_95 lX12_set_95 rfl rfl (Nat.le_of_ble_eq_true rfl) ⟨Nat.le_of_ble_eq_true rfl, Nat.le_of_ble_eq_true rfl⟩ ⟨Nat.le_refl _, Nat.le_refl _⟩ ?_
                                    refine aw_if_ne (tgt := 104) eX12_set_98 (by decide) bt_r (fun hh => have h264 := bt1 hh; ?_) (fun hh => have h264 := bt0 hh; ?_)
                                    · first
                                      | (exfalso; omega; done)
                                      | (refine aw_blk oX12_set_104 (pc' := 121) (ls' := [_, _, _, _, _]) (st' := [_]) (cs := [(_, _), (_, _)]) rfl (⟨⟨by omega, by omega⟩, ⟨by omega, by omega⟩, trivial⟩) ?_
                                         refine aw_iret eX12_set_121 rfl (Nat.le_refl _) (Nat.le_refl _) ?_
                                         exact pe_i rfl rfl rfl)
                                    · first
                                      | (exfalso; omega; done)
                                      | (refine aw_blk oX12_set_101 (pc' := 103) (ls' := [_, _, _, _, _]) (st' := [_]) (cs := []) rfl trivial ?_
                                         refine aw_iret eX12_set_103 rfl (Nat.le_refl _) (Nat.le_refl _) ?_
                                         exact pe_i rfl rfl rfl))
                               · first
                                 | (exfalso; omega; done)
                                 | (refine aw_blk oX12_set_83 (pc' := 86) (ls' := [_, _, _, _, _]) (st' := [_, _, _]) (cs := []) rfl trivial ?_
                                    refine aw_icmp_ne (tgt := 93) eX12_set_86 (by decide) (by omega) (by omega) (fun h265 => ?_) (fun h265 => ?_)
                                    · first
                                      | (exfalso; omega; done)
                                      | (refine aw_blk oX12_set_93 (pc' := 94) (ls' := [_, _, _, _, _]) (st' := [_, _]) (cs := []) rfl trivial ?_
                                         refine aw_blk oX12_set_94 (pc' := 95) (ls' := [_, _, _, _, _]) (st' := [_, _, _]) (cs := []) rfl trivial ?_
                                         refine aw_ciS (rest := []) (c_X12_in (by omega) (by omega) (by omega)) kX12_in eX12_set_95 lX12_set_95 rfl rfl (Nat.le_of_ble_eq_true rfl) ⟨Nat.le_of_ble_eq_true rfl, Nat.le_of_ble_eq_true rfl⟩ ⟨Nat.le_refl _, Nat.le_refl _⟩ ?_
                                         refine aw_if_ne (tgt := 104) eX12_set_98 (by decide) bt_r (fun hh => have h266 := bt1 hh; ?_) (fun hh => have h266 := bt0 hh; ?_)
                                         · first
                                           | (exfalso; omega; done)
                                           | (refine aw_blk oX12_set_104 (pc' := 121) (ls' := [_, _, _, _, _]) (st' := [_]) (cs := [(_, _), (_, _)]) rfl (⟨⟨by omega, by omega⟩, ⟨by omega, by omega⟩, trivial⟩) ?_
                                              refine aw_iret eX12_set_121 rfl (Nat.le_refl _) (Nat.le_refl _) ?_
                                              exact pe_i rfl rfl rfl)
                                         · first
                                           | (exfalso; omega; done)
                                           | (refine aw_blk oX12_set_101 (pc' := 103) (ls' := [_, _, _, _, _]) (st' := [_]) (cs := []) rfl trivial ?_
                                              refine aw_iret eX12_set_103 rfl (Nat.le_refl _) (Nat.le_refl _) ?_
                                              exact pe_i rfl rfl rfl))
                                    · first
                                      | (exfalso; omega; done)
                                      | (refine aw_blk oX12_set_89 (pc' := 94) (ls' := [_, _, _, _, _]) (st' := [_, _]) (cs := []) rfl trivial ?_
                                         refine aw_blk oX12_set_94 (pc' := 95) (ls' := [_, _, _, _, _]) (st' := [_, _, _]) (cs := []) rfl trivial ?_
                                         refine aw_ciS (rest := []) (c_X12_in (by omega) (by omega) (by omega)) kX12_in eX12_set_95 lX12_set_95 rfl rfl (Nat.le_of_ble_eq_true rfl) ⟨Nat.le_of_ble_eq_true rfl, Nat.le_of_ble_eq_true rfl⟩ ⟨Nat.le_refl _, Nat.le_refl _⟩ ?_
                                         refine aw_if_ne (tgt := 104) eX12_set_98 (by decide) bt_r (fun hh => have h267 := bt1 hh; ?_) (fun hh => have h267 := bt0 hh; ?_)
                                         · first
                                           | (exfalso; omega; done)
                                           | (refine aw_blk oX12_set_104 (pc' := 121) (ls' := [_, _, _, _, _]) (st' := [_]) (cs := [(_, _), (_, _)]) rfl (⟨⟨by omega, by omega⟩, ⟨by omega, by omega⟩, trivial⟩) ?_
                                              refine aw_iret eX12_set_121 rfl (Nat.le_refl _) (Nat.le_refl _) ?_
                                              exact pe_i rfl rfl rfl)
                                         · first
                                           | (exfalso; omega; done)
                                           | (refine aw_blk oX12_set_101 (pc' := 103) (ls' := [_, _, _, _, _]) (st' := [_]) (cs := []) rfl trivial ?_
                                              refine aw_iret eX12_set_103 rfl (Nat.le_refl _) (Nat.le_refl _) ?_
                                              exact pe_i rfl rfl rfl)))))
                     · first
                       | (exfalso; omega; done)
                       | (refine aw_blk oX12_set_38 (pc' := 76) (ls' := [_, _, _, _, _]) (st' := [_]) (cs := []) rfl trivial ?_
                          refine aw_blk oX12_set_76 (pc' := 80) (ls' := [_, _, _, _, _]) (st' := [_, _, _]) (cs := []) rfl trivial ?_
                          refine aw_icmp_eq (tgt := 89) eX12_set_80 (by decide) (by omega) (by omega) (fun h268 => ?_) (fun h268 => ?_)
                          · first
                            | (exfalso; omega; done)
                            | (refine aw_blk oX12_set_89 (pc' := 94) (ls' := [_, _, _, _, _]) (st' := [_, _]) (cs := []) rfl trivial ?_
                               refine aw_blk oX12_set_94 (pc' := 95) (ls' := [_, _, _, _, _]) (st' := [_, _, _]) (cs := []) rfl trivial ?_
                               refine aw_ciS (rest := []) (c_X12_in (by omega) (by omega) (by omega)) kX12_in eX12_set_95 lX12_set_95 rfl rfl (Nat.le_of_ble_eq_true rfl) ⟨Nat.le_of_ble_eq_true rfl, Nat.le_of_ble_eq_true rfl⟩ ⟨Nat.le_refl _, Nat.le_refl _⟩ ?_
                               refine aw_if_ne (tgt := 104) eX12_set_98 (by decide) bt_r (fun hh => have h269 := bt1 hh; ?_) (fun hh => have h269 := bt0 hh; ?_)
                               · first
                                 | (exfalso; omega; done)
                                 | (refine aw_blk oX12_set_104 (pc' := 121) (ls' := [_, _, _, _, _]) (st' := [_]) (cs := [(_, _), (_, _)]) rfl (⟨⟨by omega, by omega⟩, ⟨by omega, by omega⟩, trivial⟩) ?_
                                    refine aw_iret eX12_set_121 rfl (Nat.le_refl _) (Nat.le_refl _) ?_
                                    exact pe_i rfl rfl rfl)
                               · first
                                 | (exfalso; omega; done)
                                 | (refine aw_blk oX12_set_101 (pc' := 103) (ls' := [_, _, _, _, _]) (st' := [_]) (cs := []) rfl trivial ?_
                                    refine aw_iret eX12_set_103 rfl (Nat.le_refl _) (Nat.le_refl _) ?_
                                    exact pe_i rfl rfl rfl))
                          · first
                            | (exfalso; omega; done)
                            | (refine aw_blk oX12_set_83 (pc' := 86) (ls' := [_, _, _, _, _]) (st' := [_, _, _]) (cs := []) rfl trivial ?_
                               refine aw_icmp_ne (tgt := 93) eX12_set_86 (by decide) (by omega) (by omega) (fun h270 => ?_) (fun h270 => ?_)
                               · first
                                 | (exfalso; omega; done)
                                 | (refine aw_blk oX12_set_93 (pc' := 94) (ls' := [_, _, _, _, _]) (st' := [_, _]) (cs := []) rfl trivial ?_
                                    refine aw_blk oX12_set_94 (pc' := 95) (ls' := [_, _, _, _, _]) (st' := [_, _, _]) (cs := []) rfl trivial ?_
                                    refine aw_ciS (rest := []) (c_X12_in (by omega) (by omega) (by omega)) kX12_in eX12_set_95 lX12_set_95 rfl rfl (Nat.le_of_ble_eq_true rfl) ⟨Nat.le_of_ble_eq_true rfl, Nat.le_of_ble_eq_true rfl⟩ ⟨Nat.le_refl _, Nat.le_refl _⟩ ?_
                                    refine aw_if_ne (tgt := 104) eX12_set_98 (by decide) bt_r (fun hh => have h271 := bt1 hh; ?_) (fun hh => have h271 := bt0 hh; ?_)
                                    · first
                                      | (exfalso; omega; done)
                                      | (refine aw_blk oX12_set_104 (pc' := 121) (ls' := [_, _, _, _, _]) (st' := [_]) (cs := [(_, _), (_, _)]) rfl (⟨⟨by omega, by omega⟩, ⟨by omega, by omega⟩, trivial⟩) ?_
                                         refine aw_iret eX12_set_121 rfl (Nat.le_refl _) (Nat.le_refl _) ?_
                                         exact pe_i rfl rfl rfl)
                                    · first
                                      | (exfalso; omega; done)
                                      | (refine aw_blk oX12_set_101 (pc' := 103) (ls' := [_, _, _, _, _]) (st' := [_]) (cs := []) rfl trivial ?_
                                         refine aw_iret eX12_set_103 rfl (Nat.le_refl _) (Nat.le_refl _) ?_
                                         exact pe_i rfl rfl rfl))
                               · first
                                 | (exfalso; omega; done)
                                 | (refine aw_blk oX12_set_89 (pc' := 94) (ls' := [_, _, _, _, _]) (st' := [_, _]) (cs := []) rfl trivial ?_
                                    refine aw_blk oX12_set_94 (pc' := 95) (ls' := [_, _, _, _, _]) (st' := [_, _, _]) (cs := []) rfl trivial ?_
                                    refine aw_ciS (rest := []) (c_X12_in (by omega) (by omega) (by omega)) kX12_in eX12_set_95 lX12_set_95 rfl rfl (Nat.le_of_ble_eq_true rfl) ⟨Nat.le_of_ble_eq_true rfl, Nat.le_of_ble_eq_true rfl⟩ ⟨Nat.le_refl _, Nat.le_refl _⟩ ?_
                                    refine aw_if_ne (tgt := 104) eX12_set_98 (by decide) bt_r (fun hh => have h272 := bt1 hh; ?_) (fun hh => have h272 := bt0 hh; ?_)
                                    · first
                                      | (exfalso; omega; done)
                                      | (refine aw_blk oX12_set_104 (pc' := 121) (ls' := [_, _, _, _, _]) (st' := [_]) (cs := [(_, _), (_, _)]) rfl (⟨⟨by omega, by omega⟩, ⟨by omega, by omega⟩, trivial⟩) ?_
                                         refine aw_iret eX12_set_121 rfl (Nat.le_refl _) (Nat.le_refl _) ?_
                                         exact pe_i rfl rfl rfl)
                                    · first
                                      | (exfalso; omega; done)
                                      | (refine aw_blk oX12_set_101 (pc' := 103) (ls' := [_, _, _, _, _]) (st' := [_]) (cs := []) rfl trivial ?_
                                         refine aw_iret eX12_set_103 rfl (Nat.le_refl _) (Nat.le_refl _) ?_
                                         exact pe_i rfl rfl rfl)))))
                · first
                  | (exfalso; omega; done)
                  | (refine aw_blk oX12_set_27 (pc' := 76) (ls' := [_, _, _, _, _]) (st' := [_]) (cs := []) rfl trivial ?_
                     refine aw_blk oX12_set_76 (pc' := 80) (ls' := [_, _, _, _, _]) (st' := [_, _, _]) (cs := []) rfl trivial ?_
                     refine aw_icmp_eq (tgt := 89) eX12_set_80 (by decide) (by omega) (by omega) (fun h273 => ?_) (fun h273 => ?_)
                     · first
                       | (exfalso; omega; done)
                       | (refine aw_blk oX12_set_89 (pc' := 94) (ls' := [_, _, _, _, _]) (st' := [_, _]) (cs := []) rfl trivial ?_
                          refine aw_blk oX12_set_94 (pc' := 95) (ls' := [_, _, _, _, _]) (st' := [_, _, _]) (cs := []) rfl trivial ?_
                          refine aw_ciS (rest := []) (c_X12_in (by omega) (by omega) (by omega)) kX12_in eX12_set_95 lX12_set_95 rfl rfl (Nat.le_of_ble_eq_true rfl) ⟨Nat.le_of_ble_eq_true rfl, Nat.le_of_ble_eq_true rfl⟩ ⟨Nat.le_refl _, Nat.le_refl _⟩ ?_
                          refine aw_if_ne (tgt := 104) eX12_set_98 (by decide) bt_r (fun hh => have h274 := bt1 hh; ?_) (fun hh => have h274 := bt0 hh; ?_)
                          · first
                            | (exfalso; omega; done)
                            | (refine aw_blk oX12_set_104 (pc' := 121) (ls' := [_, _, _, _, _]) (st' := [_]) (cs := [(_, _), (_, _)]) rfl (⟨⟨by omega, by omega⟩, ⟨by omega, by omega⟩, trivial⟩) ?_
                               refine aw_iret eX12_set_121 rfl (Nat.le_refl _) (Nat.le_refl _) ?_
                               exact pe_i rfl rfl rfl)
                          · first
                            | (exfalso; omega; done)
                            | (refine aw_blk oX12_set_101 (pc' := 103) (ls' := [_, _, _, _, _]) (st' := [_]) (cs := []) rfl trivial ?_
                               refine aw_iret eX12_set_103 rfl (Nat.le_refl _) (Nat.le_refl _) ?_
                               exact pe_i rfl rfl rfl))
                     · first
                       | (exfalso; omega; done)
                       | (refine aw_blk oX12_set_83 (pc' := 86) (ls' := [_, _, _, _, _]) (st' := [_, _, _]) (cs := []) rfl trivial ?_
                          refine aw_icmp_ne (tgt := 93) eX12_set_86 (by decide) (by omega) (by omega) (fun h275 => ?_) (fun h275 => ?_)
                          · first
                            | (exfalso; omega; done)
                            | (refine aw_blk oX12_set_93 (pc' := 94) (ls' := [_, _, _, _, _]) (st' := [_, _]) (cs := []) rfl trivial ?_
                               refine aw_blk oX12_set_94 (pc' := 95) (ls' := [_, _, _, _, _]) (st' := [_, _, _]) (cs := []) rfl trivial ?_
                               refine aw_ciS (rest := []) (c_X12_in (by omega) (by omega) (by omega)) kX12_in eX12_set_95 lX12_set_95 rfl rfl (Nat.le_of_ble_eq_true rfl) ⟨Nat.le_of_ble_eq_true rfl, Nat.le_of_ble_eq_true rfl⟩ ⟨Nat.le_refl _, Nat.le_refl _⟩ ?_
                               refine aw_if_ne (tgt := 104) eX12_set_98 (by decide) bt_r (fun hh => have h276 := bt1 hh; ?_) (fun hh => have h276 := bt0 hh; ?_)
                               · first
                                 | (exfalso; omega; done)
                                 | (refine aw_blk oX12_set_104 (pc' := 121) (ls' := [_, _, _, _, _]) (st' := [_]) (cs := [(_, _), (_, _)]) rfl (⟨⟨by omega, by omega⟩, ⟨by omega, by omega⟩, trivial⟩) ?_
                                    refine aw_iret eX12_set_121 rfl (Nat.le_refl _) (Nat.le_refl _) ?_
                                    exact pe_i rfl rfl rfl)
                               · first
                                 | (exfalso; omega; done)
                                 | (refine aw_blk oX12_set_101 (pc' := 103) (ls' := [_, _, _, _, _]) (st' := [_]) (cs := []) rfl trivial ?_
                                    refine aw_iret eX12_set_103 rfl (Nat.le_refl _) (Nat.le_refl _) ?_
                                    exact pe_i rfl rfl rfl))
                          · first
                            | (exfalso; omega; done)
                            | (refine aw_blk oX12_set_89 (pc' := 94) (ls' := [_, _, _, _, _]) (st' := [_, _]) (cs := []) rfl trivial ?_
                               refine aw_blk oX12_set_94 (pc' := 95) (ls' := [_, _, _, _, _]) (st' := [_, _, _]) (cs := []) rfl trivial ?_
                               refine aw_ciS (rest := []) (c_X12_in (by omega) (by omega) (by omega)) kX12_in eX12_set_95 lX12_set_95 rfl rfl (Nat.le_of_ble_eq_true rfl) ⟨Nat.le_of_ble_eq_true rfl, Nat.le_of_ble_eq_true rfl⟩ ⟨Nat.le_refl _, Nat.le_refl _⟩ ?_
                               refine aw_if_ne (tgt := 104) eX12_set_98 (by decide) bt_r (fun hh => have h277 := bt1 hh; ?_) (fun hh => have h277 := bt0 hh; ?_)
                               · first
                                 | (exfalso; omega; done)
                                 | (refine aw_blk oX12_set_104 (pc' := 121) (ls' := [_, _, _, _, _]) (st' := [_]) (cs := [(_, _), (_, _)]) rfl (⟨⟨by omega, by omega⟩, ⟨by omega, by omega⟩, trivial⟩) ?_
                                    refine aw_iret eX12_set_121 rfl (Nat.le_refl _) (Nat.le_refl _) ?_
                                    exact pe_i rfl rfl rfl)
                               · first
                                 | (exfalso; omega; done)
                                 | (refine aw_blk oX12_set_101 (pc' := 103) (ls' := [_, _, _, _, _]) (st' := [_]) (cs := []) rfl trivial ?_
                                    refine aw_iret eX12_set_103 rfl (Nat.le_refl _) (Nat.le_refl _) ?_
                                    exact pe_i rfl rfl rfl)))))
           · first
             | (exfalso; omega; done)
             | (refine aw_blk oX12_set_17 (pc' := 76) (ls' := [_, _, _, _, _]) (st' := [_]) (cs := []) rfl trivial ?_
                refine aw_blk oX12_set_76 (pc' := 80) (ls' := [_, _, _, _, _]) (st' := [_, _, _]) (cs := []) rfl trivial ?_
                refine aw_icmp_eq (tgt := 89) eX12_set_80 (by decide) (by omega) (by omega) (fun h278 => ?_) (fun h278 => ?_)
                · first
                  | (exfalso; omega; done)
                  | (refine aw_blk oX12_set_89 (pc' := 94) (ls' := [_, _, _, _, _]) (st' := [_, _]) (cs := []) rfl trivial ?_
                     refine aw_blk oX12_set_94 (pc' := 95) (ls' := [_, _, _, _, _]) (st' := [_, _, _]) (cs := []) rfl trivial ?_
                     refine aw_ciS (rest := []) (c_X12_in (by omega) (by omega) (by omega)) kX12_in eX12_set_95 lX12_set_95 rfl rfl (Nat.le_of_ble_eq_true rfl) ⟨Nat.le_of_ble_eq_true rfl, Nat.le_of_ble_eq_true rfl⟩ ⟨Nat.le_refl _, Nat.le_refl _⟩ ?_
                     refine aw_if_ne (tgt := 104) eX12_set_98 (by decide) bt_r (fun hh => have h279 := bt1 hh; ?_) (fun hh => have h279 := bt0 hh; ?_)
                     · first
                       | (exfalso; omega; done)
                       | (refine aw_blk oX12_set_104 (pc' := 121) (ls' := [_, _, _, _, _]) (st' := [_]) (cs := [(_, _), (_, _)]) rfl (⟨⟨by omega, by omega⟩, ⟨by omega, by omega⟩, trivial⟩) ?_
                          refine aw_iret eX12_set_121 rfl (Nat.le_refl _) (Nat.le_refl _) ?_
                          exact pe_i rfl rfl rfl)
                     · first
                       | (exfalso; omega; done)
                       | (refine aw_blk oX12_set_101 (pc' := 103) (ls' := [_, _, _, _, _]) (st' := [_]) (cs := []) rfl trivial ?_
                          refine aw_iret eX12_set_103 rfl (Nat.le_refl _) (Nat.le_refl _) ?_
                          exact pe_i rfl rfl rfl))
                · first
                  | (exfalso; omega; done)
                  | (refine aw_blk oX12_set_83 (pc' := 86) (ls' := [_, _, _, _, _]) (st' := [_, _, _]) (cs := []) rfl trivial ?_
                     refine aw_icmp_ne (tgt := 93) eX12_set_86 (by decide) (by omega) (by omega) (fun h280 => ?_) (fun h280 => ?_)
                     · first
                       | (exfalso; omega; done)
                       | (refine aw_blk oX12_set_93 (pc' := 94) (ls' := [_, _, _, _, _]) (st' := [_, _]) (cs := []) rfl trivial ?_
                          refine aw_blk oX12_set_94 (pc' := 95) (ls' := [_, _, _, _, _]) (st' := [_, _, _]) (cs := []) rfl trivial ?_
                          refine aw_ciS (rest := []) (c_X12_in (by omega) (by omega) (by omega)) kX12_in eX12_set_95 lX12_set_95 rfl rfl (Nat.le_of_ble_eq_true rfl) ⟨Nat.le_of_ble_eq_true rfl, Nat.le_of_ble_eq_true rfl⟩ ⟨Nat.le_refl _, Nat.le_refl _⟩ ?_
                          refine aw_if_ne (tgt := 104) eX12_set_98 (by decide) bt_r (fun hh => have h281 := bt1 hh; ?_) (fun hh => have h281 := bt0 hh; ?_)
                          · first
                            | (exfalso; omega; done)
                            | (refine aw_blk oX12_set_104 (pc' := 121) (ls' := [_, _, _, _, _]) (st' := [_]) (cs := [(_, _), (_, _)]) rfl (⟨⟨by omega, by omega⟩, ⟨by omega, by omega⟩, trivial⟩) ?_
                               refine aw_iret eX12_set_121 rfl (Nat.le_refl _) (Nat.le_refl _) ?_
                               exact pe_i rfl rfl rfl)
                          · first
                            | (exfalso; omega; done)
                            | (refine aw_blk oX12_set_101 (pc' := 103) (ls' := [_, _, _, _, _]) (st' := [_]) (cs := []) rfl trivial ?_
                               refine aw_iret eX12_set_103 rfl (Nat.le_refl _) (Nat.le_refl _) ?_
                               exact pe_i rfl rfl rfl))
                     · first
                       | (exfalso; omega; done)
                       | (refine aw_blk oX12_set_89 (pc' := 94) (ls' := [_, _, _, _, _]) (st' := [_, _]) (cs := []) rfl trivial ?_
                          refine aw_blk oX12_set_94 (pc' := 95) (ls' := [_, _, _, _, _]) (st' := [_, _, _]) (cs := []) rfl trivial ?_
                          refine aw_ciS (rest := []) (c_X12_in (by omega) (by omega) (by omega)) kX12_in eX12_set_95 lX12_set_95 rfl rfl (Nat.le_of_ble_eq_true rfl) ⟨Nat.le_of_ble_eq_true rfl, Nat.le_of_ble_eq_true rfl⟩ ⟨Nat.le_refl _, Nat.le_refl _⟩ ?_
                          refine aw_if_ne (tgt := 104) eX12_set_98 (by decide) bt_r (fun hh => have h282 := bt1 hh; ?_) (fun hh => have h282 := bt0 hh; ?_)
                          · first
                            | (exfalso; omega; done)
                            | (refine aw_blk oX12_set_104 (pc' := 121) (ls' := [_, _, _, _, _]) (st' := [_]) (cs := [(_, _), (_, _)]) rfl (⟨⟨by omega, by omega⟩, ⟨by omega, by omega⟩, trivial⟩) ?_
                               refine aw_iret eX12_set_121 rfl (Nat.le_refl _) (Nat.le_refl _) ?_
                               exact pe_i rfl rfl rfl)
                          · first
                            | (exfalso; omega; done)
                            | (refine aw_blk oX12_set_101 (pc' := 103) (ls' := [_, _, _, _, _]) (st' := [_]) (cs := []) rfl trivial ?_
                               refine aw_iret eX12_set_103 rfl (Nat.le_refl _) (Nat.le_refl _) ?_
                               exact pe_i rfl rfl rfl)))))
      · first
        | (exfalso; omega; done)
        | (refine aw_blk oX12_set_10 (pc' := 12) (ls' := [_, _, _, _, _]) (st' := [_]) (cs := []) rfl trivial ?_
           refine aw_iret eX12_set_12 rfl (Nat.le_refl _) (Nat.le_refl _) ?_
           exact pe_i rfl rfl rfl)
theorem set_3 {κ : KX} {μ : MM} {ν : ML} {v : Int} (h : RS μ) (hc : 0 ≤ μ 2 8 ∧ μ 2 8 ≤ 10) (hv : R32 v) : LawT κ mX11_set mX12_set [aI 3, aI v] μ ν := by
  have s := h 3 (by decide) (by decide)
  have v0 : stv 0 3 = 0 := rfl
  have l0 : ((stA 0).length : Int) = 7 := rfl
  have l1 : ((stA 1).length : Int) = 7 := rfl
  have v1 : stv 1 3 = 100 := rfl
  have hc' : R32 (up μ 1 3 v 2 8) := (by omega : R32 (μ 2 8))
  by_cases c1 : 0 ≤ v ∧ v ≤ 100
  · refine ⟨μ 1 3, up μ 1 3 v, ν, up (up μ 1 3 v) 58 3 v, ?_, ?_, by omega, rfl, Or.inr ⟨?_, ?_, ?_, ?_, ?_⟩⟩
    · refine AMet.of kX11_set.1 (Nat.le_of_ble_eq_true rfl) rfl ?_
      refine aw_blk oX11_set_0 (pc' := 4) (ls' := [_, _, _, _]) (st' := [_, _, _]) (cs := []) rfl trivial ?_
      refine aw_ciS (rest := []) (c_X11_between (by omega) (by omega) (by omega)) kX11_between eX11_set_4 lX11_set_4 rfl rfl (Nat.le_of_ble_eq_true rfl) ⟨Nat.le_of_ble_eq_true rfl, Nat.le_of_ble_eq_true rfl⟩ ⟨Nat.le_refl _, Nat.le_refl _⟩ ?_
      refine aw_if_eq (tgt := 27) eX11_set_7 (by decide) bt_r (fun hh => have h283 := bt0 hh; ?_) (fun hh => have h283 := bt1 hh; ?_)
      · first
        | (exfalso; omega; done)
        | (refine aw_blk oX11_set_27 (pc' := 29) (ls' := [_, _, _, _]) (st' := [_]) (cs := []) rfl trivial ?_
           refine aw_iret eX11_set_29 rfl (Nat.le_refl _) (Nat.le_refl _) ?_
           exact pe_i rfl rfl rfl)
      · first
        | (exfalso; omega; done)
        | (refine aw_blk oX11_set_10 (pc' := 21) (ls' := [_, _, _, _]) (st' := [_, _, _]) (cs := [(_, _), (_, _)]) rfl (⟨⟨by omega, by omega⟩, ⟨by omega, by omega⟩, trivial⟩) ?_
           refine aw_ciS (rest := []) (c_X11_between (by omega) (by omega) (by omega)) kX11_between eX11_set_21 lX11_set_21 rfl rfl (Nat.le_of_ble_eq_true rfl) ⟨Nat.le_of_ble_eq_true rfl, Nat.le_of_ble_eq_true rfl⟩ ⟨Nat.le_refl _, Nat.le_refl _⟩ ?_
           refine aw_if_ne (tgt := 30) eX11_set_24 (by decide) bt_r (fun hh => have h284 := bt1 hh; ?_) (fun hh => have h284 := bt0 hh; ?_)
           · first
             | (exfalso; omega; done)
             | (refine aw_blk oX11_set_30 (pc' := 45) (ls' := [_, _, _, _]) (st' := [_]) (cs := [(_, _), (_, _)]) rfl (⟨⟨by omega, by omega⟩, ⟨by omega, by omega⟩, trivial⟩) ?_
                refine aw_if_ne (tgt := 56) eX11_set_45 (by decide) (by omega) (fun h285 => ?_) (fun h285 => ?_)
                · first
                  | (exfalso; omega; done)
                  | (refine aw_blk oX11_set_56 (pc' := 58) (ls' := [_, _, _, _]) (st' := [_, _]) (cs := []) rfl trivial ?_
                     refine aw_icmp_ne (tgt := 65) eX11_set_58 (by decide) (by omega) (by omega) (fun h286 => ?_) (fun h286 => ?_)
                     · first
                       | (exfalso; omega; done)
                       | (refine aw_blk oX11_set_65 (pc' := 66) (ls' := [_, _, _, _]) (st' := [_]) (cs := []) rfl trivial ?_
                          refine aw_iret eX11_set_66 rfl (Nat.le_refl _) (Nat.le_refl _) ?_
                          exact pe_i rfl rfl rfl)
                     · first
                       | (exfalso; omega; done)
                       | (refine aw_blk oX11_set_61 (pc' := 62) (ls' := [_, _, _, _]) (st' := [_]) (cs := []) rfl trivial ?_
                          refine aw_cvV (rest := []) (c_forget) kX11_forgetShows eX11_set_62 lX11_set_62 rfl rfl rfl rfl (Nat.le_of_ble_eq_true rfl) ⟨Nat.le_of_ble_eq_true rfl, Nat.le_of_ble_eq_true rfl⟩ ⟨Nat.le_refl _, Nat.le_refl _⟩ ?_
                          refine aw_blk oX11_set_65 (pc' := 66) (ls' := [_, _, _, _]) (st' := [_]) (cs := []) rfl trivial ?_
                          refine aw_iret eX11_set_66 rfl (Nat.le_refl _) (Nat.le_refl _) ?_
                          exact pe_i rfl rfl rfl))
                · first
                  | (exfalso; omega; done)
                  | (refine aw_blk oX11_set_48 (pc' := 53) (ls' := [_, _, _, _]) (st' := [_, _]) (cs := []) rfl trivial ?_
                     refine aw_cvV (rest := []) (c_forgetCuts (by omega) (by omega)) kX3_forgetCutsFrom eX11_set_53 lX11_set_53 rfl rfl rfl rfl (Nat.le_of_ble_eq_true rfl) ⟨Nat.le_of_ble_eq_true rfl, Nat.le_of_ble_eq_true rfl⟩ ⟨Nat.le_refl _, Nat.le_refl _⟩ ?_
                     refine aw_blk oX11_set_56 (pc' := 58) (ls' := [_, _, _, _]) (st' := [_, _]) (cs := []) rfl trivial ?_
                     refine aw_icmp_ne (tgt := 65) eX11_set_58 (by decide) (by omega) (by omega) (fun h287 => ?_) (fun h287 => ?_)
                     · first
                       | (exfalso; omega; done)
                       | (refine aw_blk oX11_set_65 (pc' := 66) (ls' := [_, _, _, _]) (st' := [_]) (cs := []) rfl trivial ?_
                          refine aw_iret eX11_set_66 rfl (Nat.le_refl _) (Nat.le_refl _) ?_
                          exact pe_i rfl rfl rfl)
                     · first
                       | (exfalso; omega; done)
                       | (refine aw_blk oX11_set_61 (pc' := 62) (ls' := [_, _, _, _]) (st' := [_]) (cs := []) rfl trivial ?_
                          refine aw_cvV (rest := []) (c_forget) kX11_forgetShows eX11_set_62 lX11_set_62 rfl rfl rfl rfl (Nat.le_of_ble_eq_true rfl) ⟨Nat.le_of_ble_eq_true rfl, Nat.le_of_ble_eq_true rfl⟩ ⟨Nat.le_refl _, Nat.le_refl _⟩ ?_
                          refine aw_blk oX11_set_65 (pc' := 66) (ls' := [_, _, _, _]) (st' := [_]) (cs := []) rfl trivial ?_
                          refine aw_iret eX11_set_66 rfl (Nat.le_refl _) (Nat.le_refl _) ?_
                          exact pe_i rfl rfl rfl)))
           · first
             | (exfalso; omega; done)
             | (refine aw_blk oX11_set_27 (pc' := 29) (ls' := [_, _, _, _]) (st' := [_]) (cs := []) rfl trivial ?_
                refine aw_iret eX11_set_29 rfl (Nat.le_refl _) (Nat.le_refl _) ?_
                exact pe_i rfl rfl rfl))
    · refine AMet.of kX12_set.1 (Nat.le_of_ble_eq_true rfl) rfl ?_
      refine aw_blk oX12_set_0 (pc' := 4) (ls' := [_, _, _, _, _]) (st' := [_, _, _]) (cs := []) rfl trivial ?_
      refine aw_ciS (rest := []) (c_X12_in (by omega) (by omega) (by omega)) kX12_in eX12_set_4 lX12_set_4 rfl rfl (Nat.le_of_ble_eq_true rfl) ⟨Nat.le_of_ble_eq_true rfl, Nat.le_of_ble_eq_true rfl⟩ ⟨Nat.le_refl _, Nat.le_refl _⟩ ?_
      refine aw_if_ne (tgt := 13) eX12_set_7 (by decide) bt_r (fun hh => have h288 := bt1 hh; ?_) (fun hh => have h288 := bt0 hh; ?_)
      · first
        | (exfalso; omega; done)
        | (refine aw_blk oX12_set_13 (pc' := 14) (ls' := [_, _, _, _, _]) (st' := [_]) (cs := []) rfl trivial ?_
           refine aw_if_ne (tgt := 22) eX12_set_14 (by decide) (by omega) (fun h289 => ?_) (fun h289 => ?_)
           · first
             | (exfalso; omega; done)
             | (refine aw_blk oX12_set_22 (pc' := 24) (ls' := [_, _, _, _, _]) (st' := [_, _]) (cs := []) rfl trivial ?_
                refine aw_icmp_ne (tgt := 33) eX12_set_24 (by decide) (by omega) (by omega) (fun h290 => ?_) (fun h290 => ?_)
                · first
                  | (exfalso; omega; done)
                  | (refine aw_blk oX12_set_33 (pc' := 35) (ls' := [_, _, _, _, _]) (st' := [_, _]) (cs := []) rfl trivial ?_
                     refine aw_icmp_ne (tgt := 43) eX12_set_35 (by decide) (by omega) (by omega) (fun h291 => ?_) (fun h291 => ?_)
                     · first
                       | (exfalso; omega; done)
                       | (refine aw_blk oX12_set_43 (pc' := 45) (ls' := [_, _, _, _, _]) (st' := [_, _]) (cs := []) rfl trivial ?_
                          refine aw_icmp_ne (tgt := 53) eX12_set_45 (by decide) (by omega) (by omega) (fun h292 => ?_) (fun h292 => ?_)
                          · first
                            | (exfalso; omega; done)
                            | (refine aw_blk oX12_set_53 (pc' := 55) (ls' := [_, _, _, _, _]) (st' := [_, _]) (cs := []) rfl trivial ?_
                               refine aw_icmp_ne (tgt := 63) eX12_set_55 (by decide) (by omega) (by omega) (fun h293 => ?_) (fun h293 => ?_)
                               · first
                                 | (exfalso; omega; done)
                                 | (refine aw_blk oX12_set_63 (pc' := 65) (ls' := [_, _, _, _, _]) (st' := [_, _]) (cs := []) rfl trivial ?_
                                    refine aw_icmp_ne (tgt := 74) eX12_set_65 (by decide) (by omega) (by omega) (fun h294 => ?_) (fun h294 => ?_)
                                    · first
                                      | (exfalso; omega; done)
                                      | (refine aw_blk oX12_set_74 (pc' := 76) (ls' := [_, _, _, _, _]) (st' := [_]) (cs := []) rfl trivial ?_
                                         refine aw_blk oX12_set_76 (pc' := 80) (ls' := [_, _, _, _, _]) (st' := [_, _, _]) (cs := []) rfl trivial ?_
                                         refine aw_icmp_eq (tgt := 89) eX12_set_80 (by decide) (by omega) (by omega) (fun h295 => ?_) (fun h295 => ?_)
                                         · first
                                           | (exfalso; omega; done)
                                           | (refine aw_blk oX12_set_89 (pc' := 94) (ls' := [_, _, _, _, _]) (st' := [_, _]) (cs := []) rfl trivial ?_
                                              refine aw_blk oX12_set_94 (pc' := 95) (ls' := [_, _, _, _, _]) (st' := [_, _, _]) (cs := []) rfl trivial ?_
                                              refine aw_ciS (rest := []) (c_X12_in (by omega) (by omega) (by omega)) kX12_in eX12_set_95 lX12_set_95 rfl rfl (Nat.le_of_ble_eq_true rfl) ⟨Nat.le_of_ble_eq_true rfl, Nat.le_of_ble_eq_true rfl⟩ ⟨Nat.le_refl _, Nat.le_refl _⟩ ?_
                                              refine aw_if_ne (tgt := 104) eX12_set_98 (by decide) bt_r (fun hh => have h296 := bt1 hh; ?_) (fun hh => have h296 := bt0 hh; ?_)
                                              · first
                                                | (exfalso; omega; done)
                                                | (refine aw_blk oX12_set_104 (pc' := 121) (ls' := [_, _, _, _, _]) (st' := [_]) (cs := [(_, _), (_, _)]) rfl (⟨⟨by omega, by omega⟩, ⟨by omega, by omega⟩, trivial⟩) ?_
                                                   refine aw_iret eX12_set_121 rfl (Nat.le_refl _) (Nat.le_refl _) ?_
                                                   exact pe_i s.1 rfl rfl)
                                              · first
                                                | (exfalso; omega; done)
                                                | (refine aw_blk oX12_set_101 (pc' := 103) (ls' := [_, _, _, _, _]) (st' := [_]) (cs := []) rfl trivial ?_
                                                   refine aw_iret eX12_set_103 rfl (Nat.le_refl _) (Nat.le_refl _) ?_
                                                   exact pe_i s.1 rfl rfl))
                                         · first
                                           | (exfalso; omega; done)
                                           | (refine aw_blk oX12_set_83 (pc' := 86) (ls' := [_, _, _, _, _]) (st' := [_, _, _]) (cs := []) rfl trivial ?_
                                              refine aw_icmp_ne (tgt := 93) eX12_set_86 (by decide) (by omega) (by omega) (fun h297 => ?_) (fun h297 => ?_)
                                              · first
                                                | (exfalso; omega; done)
                                                | (refine aw_blk oX12_set_93 (pc' := 94) (ls' := [_, _, _, _, _]) (st' := [_, _]) (cs := []) rfl trivial ?_
                                                   refine aw_blk oX12_set_94 (pc' := 95) (ls' := [_, _, _, _, _]) (st' := [_, _, _]) (cs := []) rfl trivial ?_
                                                   refine aw_ciS (rest := []) (c_X12_in (by omega) (by omega) (by omega)) kX12_in eX12_set_95 lX12_set_95 rfl rfl (Nat.le_of_ble_eq_true rfl) ⟨Nat.le_of_ble_eq_true rfl, Nat.le_of_ble_eq_true rfl⟩ ⟨Nat.le_refl _, Nat.le_refl _⟩ ?_
                                                   refine aw_if_ne (tgt := 104) eX12_set_98 (by decide) bt_r (fun hh => have h298 := bt1 hh; ?_) (fun hh => have h298 := bt0 hh; ?_)
                                                   · first
                                                     | (exfalso; omega; done)
                                                     | (refine aw_blk oX12_set_104 (pc' := 121) (ls' := [_, _, _, _, _]) (st' := [_]) (cs := [(_, _), (_, _)]) rfl (⟨⟨by omega, by omega⟩, ⟨by omega, by omega⟩, trivial⟩) ?_
                                                        refine aw_iret eX12_set_121 rfl (Nat.le_refl _) (Nat.le_refl _) ?_
                                                        exact pe_i s.1 rfl rfl)
                                                   · first
                                                     | (exfalso; omega; done)
                                                     | (refine aw_blk oX12_set_101 (pc' := 103) (ls' := [_, _, _, _, _]) (st' := [_]) (cs := []) rfl trivial ?_
                                                        refine aw_iret eX12_set_103 rfl (Nat.le_refl _) (Nat.le_refl _) ?_
                                                        exact pe_i s.1 rfl rfl))
                                              · first
                                                | (exfalso; omega; done)
                                                | (refine aw_blk oX12_set_89 (pc' := 94) (ls' := [_, _, _, _, _]) (st' := [_, _]) (cs := []) rfl trivial ?_
                                                   refine aw_blk oX12_set_94 (pc' := 95) (ls' := [_, _, _, _, _]) (st' := [_, _, _]) (cs := []) rfl trivial ?_
                                                   refine aw_ciS (rest := []) (c_X12_in (by omega) (by omega) (by omega)) kX12_in eX12_set_95 lX12_set_95 rfl rfl (Nat.le_of_ble_eq_true rfl) ⟨Nat.le_of_ble_eq_true rfl, Nat.le_of_ble_eq_true rfl⟩ ⟨Nat.le_refl _, Nat.le_refl _⟩ ?_
                                                   refine aw_if_ne (tgt := 104) eX12_set_98 (by decide) bt_r (fun hh => have h299 := bt1 hh; ?_) (fun hh => have h299 := bt0 hh; ?_)
                                                   · first
                                                     | (exfalso; omega; done)
                                                     | (refine aw_blk oX12_set_104 (pc' := 121) (ls' := [_, _, _, _, _]) (st' := [_]) (cs := [(_, _), (_, _)]) rfl (⟨⟨by omega, by omega⟩, ⟨by omega, by omega⟩, trivial⟩) ?_
                                                        refine aw_iret eX12_set_121 rfl (Nat.le_refl _) (Nat.le_refl _) ?_
                                                        exact pe_i s.1 rfl rfl)
                                                   · first
                                                     | (exfalso; omega; done)
                                                     | (refine aw_blk oX12_set_101 (pc' := 103) (ls' := [_, _, _, _, _]) (st' := [_]) (cs := []) rfl trivial ?_
                                                        refine aw_iret eX12_set_103 rfl (Nat.le_refl _) (Nat.le_refl _) ?_
                                                        exact pe_i s.1 rfl rfl))))
                                    · first
                                      | (exfalso; omega; done)
                                      | (refine aw_blk oX12_set_68 (pc' := 76) (ls' := [_, _, _, _, _]) (st' := [_]) (cs := []) rfl trivial ?_
                                         refine aw_blk oX12_set_76 (pc' := 80) (ls' := [_, _, _, _, _]) (st' := [_, _, _]) (cs := []) rfl trivial ?_
                                         refine aw_icmp_eq (tgt := 89) eX12_set_80 (by decide) (by omega) (by omega) (fun h300 => ?_) (fun h300 => ?_)
                                         · first
                                           | (exfalso; omega; done)
                                           | (refine aw_blk oX12_set_89 (pc' := 94) (ls' := [_, _, _, _, _]) (st' := [_, _]) (cs := []) rfl trivial ?_
                                              refine aw_blk oX12_set_94 (pc' := 95) (ls' := [_, _, _, _, _]) (st' := [_, _, _]) (cs := []) rfl trivial ?_
                                              refine aw_ciS (rest := []) (c_X12_in (by omega) (by omega) (by omega)) kX12_in eX12_set_95 lX12_set_95 rfl rfl (Nat.le_of_ble_eq_true rfl) ⟨Nat.le_of_ble_eq_true rfl, Nat.le_of_ble_eq_true rfl⟩ ⟨Nat.le_refl _, Nat.le_refl _⟩ ?_
                                              refine aw_if_ne (tgt := 104) eX12_set_98 (by decide) bt_r (fun hh => have h301 := bt1 hh; ?_) (fun hh => have h301 := bt0 hh; ?_)
                                              · first
                                                | (exfalso; omega; done)
                                                | (refine aw_blk oX12_set_104 (pc' := 121) (ls' := [_, _, _, _, _]) (st' := [_]) (cs := [(_, _), (_, _)]) rfl (⟨⟨by omega, by omega⟩, ⟨by omega, by omega⟩, trivial⟩) ?_
                                                   refine aw_iret eX12_set_121 rfl (Nat.le_refl _) (Nat.le_refl _) ?_
                                                   exact pe_i s.1 rfl rfl)
                                              · first
                                                | (exfalso; omega; done)
                                                | (refine aw_blk oX12_set_101 (pc' := 103) (ls' := [_, _, _, _, _]) (st' := [_]) (cs := []) rfl trivial ?_
                                                   refine aw_iret eX12_set_103 rfl (Nat.le_refl _) (Nat.le_refl _) ?_
                                                   exact pe_i s.1 rfl rfl))
                                         · first
                                           | (exfalso; omega; done)
                                           | (refine aw_blk oX12_set_83 (pc' := 86) (ls' := [_, _, _, _, _]) (st' := [_, _, _]) (cs := []) rfl trivial ?_
                                              refine aw_icmp_ne (tgt := 93) eX12_set_86 (by decide) (by omega) (by omega) (fun h302 => ?_) (fun h302 => ?_)
                                              · first
                                                | (exfalso; omega; done)
                                                | (refine aw_blk oX12_set_93 (pc' := 94) (ls' := [_, _, _, _, _]) (st' := [_, _]) (cs := []) rfl trivial ?_
                                                   refine aw_blk oX12_set_94 (pc' := 95) (ls' := [_, _, _, _, _]) (st' := [_, _, _]) (cs := []) rfl trivial ?_
                                                   refine aw_ciS (rest := []) (c_X12_in (by omega) (by omega) (by omega)) kX12_in eX12_set_95 lX12_set_95 rfl rfl (Nat.le_of_ble_eq_true rfl) ⟨Nat.le_of_ble_eq_true rfl, Nat.le_of_ble_eq_true rfl⟩ ⟨Nat.le_refl _, Nat.le_refl _⟩ ?_
                                                   refine aw_if_ne (tgt := 104) eX12_set_98 (by decide) bt_r (fun hh => have h303 := bt1 hh; ?_) (fun hh => have h303 := bt0 hh; ?_)
                                                   · first
                                                     | (exfalso; omega; done)
                                                     | (refine aw_blk oX12_set_104 (pc' := 121) (ls' := [_, _, _, _, _]) (st' := [_]) (cs := [(_, _), (_, _)]) rfl (⟨⟨by omega, by omega⟩, ⟨by omega, by omega⟩, trivial⟩) ?_
                                                        refine aw_iret eX12_set_121 rfl (Nat.le_refl _) (Nat.le_refl _) ?_
                                                        exact pe_i s.1 rfl rfl)
                                                   · first
                                                     | (exfalso; omega; done)
                                                     | (refine aw_blk oX12_set_101 (pc' := 103) (ls' := [_, _, _, _, _]) (st' := [_]) (cs := []) rfl trivial ?_
                                                        refine aw_iret eX12_set_103 rfl (Nat.le_refl _) (Nat.le_refl _) ?_
                                                        exact pe_i s.1 rfl rfl))
                                              · first
                                                | (exfalso; omega; done)
                                                | (refine aw_blk oX12_set_89 (pc' := 94) (ls' := [_, _, _, _, _]) (st' := [_, _]) (cs := []) rfl trivial ?_
                                                   refine aw_blk oX12_set_94 (pc' := 95) (ls' := [_, _, _, _, _]) (st' := [_, _, _]) (cs := []) rfl trivial ?_
                                                   refine aw_ciS (rest := []) (c_X12_in (by omega) (by omega) (by omega)) kX12_in eX12_set_95 lX12_set_95 rfl rfl (Nat.le_of_ble_eq_true rfl) ⟨Nat.le_of_ble_eq_true rfl, Nat.le_of_ble_eq_true rfl⟩ ⟨Nat.le_refl _, Nat.le_refl _⟩ ?_
                                                   refine aw_if_ne (tgt := 104) eX12_set_98 (by decide) bt_r (fun hh => have h304 := bt1 hh; ?_) (fun hh => have h304 := bt0 hh; ?_)
                                                   · first
                                                     | (exfalso; omega; done)
                                                     | (refine aw_blk oX12_set_104 (pc' := 121) (ls' := [_, _, _, _, _]) (st' := [_]) (cs := [(_, _), (_, _)]) rfl (⟨⟨by omega, by omega⟩, ⟨by omega, by omega⟩, trivial⟩) ?_
                                                        refine aw_iret eX12_set_121 rfl (Nat.le_refl _) (Nat.le_refl _) ?_
                                                        exact pe_i s.1 rfl rfl)
                                                   · first
                                                     | (exfalso; omega; done)
                                                     | (refine aw_blk oX12_set_101 (pc' := 103) (ls' := [_, _, _, _, _]) (st' := [_]) (cs := []) rfl trivial ?_
                                                        refine aw_iret eX12_set_103 rfl (Nat.le_refl _) (Nat.le_refl _) ?_
                                                        exact pe_i s.1 rfl rfl)))))
                               · first
                                 | (exfalso; omega; done)
                                 | (refine aw_blk oX12_set_58 (pc' := 76) (ls' := [_, _, _, _, _]) (st' := [_]) (cs := []) rfl trivial ?_
                                    refine aw_blk oX12_set_76 (pc' := 80) (ls' := [_, _, _, _, _]) (st' := [_, _, _]) (cs := []) rfl trivial ?_
                                    refine aw_icmp_eq (tgt := 89) eX12_set_80 (by decide) (by omega) (by omega) (fun h305 => ?_) (fun h305 => ?_)
                                    · first
                                      | (exfalso; omega; done)
                                      | (refine aw_blk oX12_set_89 (pc' := 94) (ls' := [_, _, _, _, _]) (st' := [_, _]) (cs := []) rfl trivial ?_
                                         refine aw_blk oX12_set_94 (pc' := 95) (ls' := [_, _, _, _, _]) (st' := [_, _, _]) (cs := []) rfl trivial ?_
                                         refine aw_ciS (rest := []) (c_X12_in (by omega) (by omega) (by omega)) kX12_in eX12_set_95 lX12_set_95 rfl rfl (Nat.le_of_ble_eq_true rfl) ⟨Nat.le_of_ble_eq_true rfl, Nat.le_of_ble_eq_true rfl⟩ ⟨Nat.le_refl _, Nat.le_refl _⟩ ?_
                                         refine aw_if_ne (tgt := 104) eX12_set_98 (by decide) bt_r (fun hh => have h306 := bt1 hh; ?_) (fun hh => have h306 := bt0 hh; ?_)
                                         · first
                                           | (exfalso; omega; done)
                                           | (refine aw_blk oX12_set_104 (pc' := 121) (ls' := [_, _, _, _, _]) (st' := [_]) (cs := [(_, _), (_, _)]) rfl (⟨⟨by omega, by omega⟩, ⟨by omega, by omega⟩, trivial⟩) ?_
                                              refine aw_iret eX12_set_121 rfl (Nat.le_refl _) (Nat.le_refl _) ?_
                                              exact pe_i s.1 rfl rfl)
                                         · first
                                           | (exfalso; omega; done)
                                           | (refine aw_blk oX12_set_101 (pc' := 103) (ls' := [_, _, _, _, _]) (st' := [_]) (cs := []) rfl trivial ?_
                                              refine aw_iret eX12_set_103 rfl (Nat.le_refl _) (Nat.le_refl _) ?_
                                              exact pe_i s.1 rfl rfl))
                                    · first
                                      | (exfalso; omega; done)
                                      | (refine aw_blk oX12_set_83 (pc' := 86) (ls' := [_, _, _, _, _]) (st' := [_, _, _]) (cs := []) rfl trivial ?_
                                         refine aw_icmp_ne (tgt := 93) eX12_set_86 (by decide) (by omega) (by omega) (fun h307 => ?_) (fun h307 => ?_)
                                         · first
                                           | (exfalso; omega; done)
                                           | (refine aw_blk oX12_set_93 (pc' := 94) (ls' := [_, _, _, _, _]) (st' := [_, _]) (cs := []) rfl trivial ?_
                                              refine aw_blk oX12_set_94 (pc' := 95) (ls' := [_, _, _, _, _]) (st' := [_, _, _]) (cs := []) rfl trivial ?_
                                              refine aw_ciS (rest := []) (c_X12_in (by omega) (by omega) (by omega)) kX12_in eX12_set_95 lX12_set_95 rfl rfl (Nat.le_of_ble_eq_true rfl) ⟨Nat.le_of_ble_eq_true rfl, Nat.le_of_ble_eq_true rfl⟩ ⟨Nat.le_refl _, Nat.le_refl _⟩ ?_
                                              refine aw_if_ne (tgt := 104) eX12_set_98 (by decide) bt_r (fun hh => have h308 := bt1 hh; ?_) (fun hh => have h308 := bt0 hh; ?_)
                                              · first
                                                | (exfalso; omega; done)
                                                | (refine aw_blk oX12_set_104 (pc' := 121) (ls' := [_, _, _, _, _]) (st' := [_]) (cs := [(_, _), (_, _)]) rfl (⟨⟨by omega, by omega⟩, ⟨by omega, by omega⟩, trivial⟩) ?_
                                                   refine aw_iret eX12_set_121 rfl (Nat.le_refl _) (Nat.le_refl _) ?_
                                                   exact pe_i s.1 rfl rfl)
                                              · first
                                                | (exfalso; omega; done)
                                                | (refine aw_blk oX12_set_101 (pc' := 103) (ls' := [_, _, _, _, _]) (st' := [_]) (cs := []) rfl trivial ?_
                                                   refine aw_iret eX12_set_103 rfl (Nat.le_refl _) (Nat.le_refl _) ?_
                                                   exact pe_i s.1 rfl rfl))
                                         · first
                                           | (exfalso; omega; done)
                                           | (refine aw_blk oX12_set_89 (pc' := 94) (ls' := [_, _, _, _, _]) (st' := [_, _]) (cs := []) rfl trivial ?_
                                              refine aw_blk oX12_set_94 (pc' := 95) (ls' := [_, _, _, _, _]) (st' := [_, _, _]) (cs := []) rfl trivial ?_
                                              refine aw_ciS (rest := []) (c_X12_in (by omega) (by omega) (by omega)) kX12_in eX12_set_95 lX12_set_95 rfl rfl (Nat.le_of_ble_eq_true rfl) ⟨Nat.le_of_ble_eq_true rfl, Nat.le_of_ble_eq_true rfl⟩ ⟨Nat.le_refl _, Nat.le_refl _⟩ ?_
                                              refine aw_if_ne (tgt := 104) eX12_set_98 (by decide) bt_r (fun hh => have h309 := bt1 hh; ?_) (fun hh => have h309 := bt0 hh; ?_)
                                              · first
                                                | (exfalso; omega; done)
                                                | (refine aw_blk oX12_set_104 (pc' := 121) (ls' := [_, _, _, _, _]) (st' := [_]) (cs := [(_, _), (_, _)]) rfl (⟨⟨by omega, by omega⟩, ⟨by omega, by omega⟩, trivial⟩) ?_
                                                   refine aw_iret eX12_set_121 rfl (Nat.le_refl _) (Nat.le_refl _) ?_
                                                   exact pe_i s.1 rfl rfl)
                                              · first
                                                | (exfalso; omega; done)
                                                | (refine aw_blk oX12_set_101 (pc' := 103) (ls' := [_, _, _, _, _]) (st' := [_]) (cs := []) rfl trivial ?_
                                                   refine aw_iret eX12_set_103 rfl (Nat.le_refl _) (Nat.le_refl _) ?_
                                                   exact pe_i s.1 rfl rfl)))))
                          · first
                            | (exfalso; omega; done)
                            | (refine aw_blk oX12_set_48 (pc' := 76) (ls' := [_, _, _, _, _]) (st' := [_]) (cs := []) rfl trivial ?_
                               refine aw_blk oX12_set_76 (pc' := 80) (ls' := [_, _, _, _, _]) (st' := [_, _, _]) (cs := []) rfl trivial ?_
                               refine aw_icmp_eq (tgt := 89) eX12_set_80 (by decide) (by omega) (by omega) (fun h310 => ?_) (fun h310 => ?_)
                               · first
                                 | (exfalso; omega; done)
                                 | (refine aw_blk oX12_set_89 (pc' := 94) (ls' := [_, _, _, _, _]) (st' := [_, _]) (cs := []) rfl trivial ?_
                                    refine aw_blk oX12_set_94 (pc' := 95) (ls' := [_, _, _, _, _]) (st' := [_, _, _]) (cs := []) rfl trivial ?_
                                    refine aw_ciS (rest := []) (c_X12_in (by omega) (by omega) (by omega)) kX12_in eX12_set_95 lX12_set_95 rfl rfl (Nat.le_of_ble_eq_true rfl) ⟨Nat.le_of_ble_eq_true rfl, Nat.le_of_ble_eq_true rfl⟩ ⟨Nat.le_refl _, Nat.le_refl _⟩ ?_
                                    refine aw_if_ne (tgt := 104) eX12_set_98 (by decide) bt_r (fun hh => have h311 := bt1 hh; ?_) (fun hh => have h311 := bt0 hh; ?_)
                                    · first
                                      | (exfalso; omega; done)
                                      | (refine aw_blk oX12_set_104 (pc' := 121) (ls' := [_, _, _, _, _]) (st' := [_]) (cs := [(_, _), (_, _)]) rfl (⟨⟨by omega, by omega⟩, ⟨by omega, by omega⟩, trivial⟩) ?_
                                         refine aw_iret eX12_set_121 rfl (Nat.le_refl _) (Nat.le_refl _) ?_
                                         exact pe_i s.1 rfl rfl)
                                    · first
                                      | (exfalso; omega; done)
                                      | (refine aw_blk oX12_set_101 (pc' := 103) (ls' := [_, _, _, _, _]) (st' := [_]) (cs := []) rfl trivial ?_
                                         refine aw_iret eX12_set_103 rfl (Nat.le_refl _) (Nat.le_refl _) ?_
                                         exact pe_i s.1 rfl rfl))
                               · first
                                 | (exfalso; omega; done)
                                 | (refine aw_blk oX12_set_83 (pc' := 86) (ls' := [_, _, _, _, _]) (st' := [_, _, _]) (cs := []) rfl trivial ?_
                                    refine aw_icmp_ne (tgt := 93) eX12_set_86 (by decide) (by omega) (by omega) (fun h312 => ?_) (fun h312 => ?_)
                                    · first
                                      | (exfalso; omega; done)
                                      | (refine aw_blk oX12_set_93 (pc' := 94) (ls' := [_, _, _, _, _]) (st' := [_, _]) (cs := []) rfl trivial ?_
                                         refine aw_blk oX12_set_94 (pc' := 95) (ls' := [_, _, _, _, _]) (st' := [_, _, _]) (cs := []) rfl trivial ?_
                                         refine aw_ciS (rest := []) (c_X12_in (by omega) (by omega) (by omega)) kX12_in eX12_set_95 lX12_set_95 rfl rfl (Nat.le_of_ble_eq_true rfl) ⟨Nat.le_of_ble_eq_true rfl, Nat.le_of_ble_eq_true rfl⟩ ⟨Nat.le_refl _, Nat.le_refl _⟩ ?_
                                         refine aw_if_ne (tgt := 104) eX12_set_98 (by decide) bt_r (fun hh => have h313 := bt1 hh; ?_) (fun hh => have h313 := bt0 hh; ?_)
                                         · first
                                           | (exfalso; omega; done)
                                           | (refine aw_blk oX12_set_104 (pc' := 121) (ls' := [_, _, _, _, _]) (st' := [_]) (cs := [(_, _), (_, _)]) rfl (⟨⟨by omega, by omega⟩, ⟨by omega, by omega⟩, trivial⟩) ?_
                                              refine aw_iret eX12_set_121 rfl (Nat.le_refl _) (Nat.le_refl _) ?_
                                              exact pe_i s.1 rfl rfl)
                                         · first
                                           | (exfalso; omega; done)
                                           | (refine aw_blk oX12_set_101 (pc' := 103) (ls' := [_, _, _, _, _]) (st' := [_]) (cs := []) rfl trivial ?_
                                              refine aw_iret eX12_set_103 rfl (Nat.le_refl _) (Nat.le_refl _) ?_
                                              exact pe_i s.1 rfl rfl))
                                    · first
                                      | (exfalso; omega; done)
                                      | (refine aw_blk oX12_set_89 (pc' := 94) (ls' := [_, _, _, _, _]) (st' := [_, _]) (cs := []) rfl trivial ?_
                                         refine aw_blk oX12_set_94 (pc' := 95) (ls' := [_, _, _, _, _]) (st' := [_, _, _]) (cs := []) rfl trivial ?_
                                         refine aw_ciS (rest := []) (c_X12_in (by omega) (by omega) (by omega)) kX12_in eX12_set_95 lX12_set_95 rfl rfl (Nat.le_of_ble_eq_true rfl) ⟨Nat.le_of_ble_eq_true rfl, Nat.le_of_ble_eq_true rfl⟩ ⟨Nat.le_refl _, Nat.le_refl _⟩ ?_
                                         refine aw_if_ne (tgt := 104) eX12_set_98 (by decide) bt_r (fun hh => have h314 := bt1 hh; ?_) (fun hh => have h314 := bt0 hh; ?_)
                                         · first
                                           | (exfalso; omega; done)
                                           | (refine aw_blk oX12_set_104 (pc' := 121) (ls' := [_, _, _, _, _]) (st' := [_]) (cs := [(_, _), (_, _)]) rfl (⟨⟨by omega, by omega⟩, ⟨by omega, by omega⟩, trivial⟩) ?_
                                              refine aw_iret eX12_set_121 rfl (Nat.le_refl _) (Nat.le_refl _) ?_
                                              exact pe_i s.1 rfl rfl)
                                         · first
                                           | (exfalso; omega; done)
                                           | (refine aw_blk oX12_set_101 (pc' := 103) (ls' := [_, _, _, _, _]) (st' := [_]) (cs := []) rfl trivial ?_
                                              refine aw_iret eX12_set_103 rfl (Nat.le_refl _) (Nat.le_refl _) ?_
                                              exact pe_i s.1 rfl rfl)))))
                     · first
                       | (exfalso; omega; done)
                       | (refine aw_blk oX12_set_38 (pc' := 76) (ls' := [_, _, _, _, _]) (st' := [_]) (cs := []) rfl trivial ?_
                          refine aw_blk oX12_set_76 (pc' := 80) (ls' := [_, _, _, _, _]) (st' := [_, _, _]) (cs := []) rfl trivial ?_
                          refine aw_icmp_eq (tgt := 89) eX12_set_80 (by decide) (by omega) (by omega) (fun h315 => ?_) (fun h315 => ?_)
                          · first
                            | (exfalso; omega; done)
                            | (refine aw_blk oX12_set_89 (pc' := 94) (ls' := [_, _, _, _, _]) (st' := [_, _]) (cs := []) rfl trivial ?_
                               refine aw_blk oX12_set_94 (pc' := 95) (ls' := [_, _, _, _, _]) (st' := [_, _, _]) (cs := []) rfl trivial ?_
                               refine aw_ciS (rest := []) (c_X12_in (by omega) (by omega) (by omega)) kX12_in eX12_set_95 lX12_set_95 rfl rfl (Nat.le_of_ble_eq_true rfl) ⟨Nat.le_of_ble_eq_true rfl, Nat.le_of_ble_eq_true rfl⟩ ⟨Nat.le_refl _, Nat.le_refl _⟩ ?_
                               refine aw_if_ne (tgt := 104) eX12_set_98 (by decide) bt_r (fun hh => have h316 := bt1 hh; ?_) (fun hh => have h316 := bt0 hh; ?_)
                               · first
                                 | (exfalso; omega; done)
                                 | (refine aw_blk oX12_set_104 (pc' := 121) (ls' := [_, _, _, _, _]) (st' := [_]) (cs := [(_, _), (_, _)]) rfl (⟨⟨by omega, by omega⟩, ⟨by omega, by omega⟩, trivial⟩) ?_
                                    refine aw_iret eX12_set_121 rfl (Nat.le_refl _) (Nat.le_refl _) ?_
                                    exact pe_i s.1 rfl rfl)
                               · first
                                 | (exfalso; omega; done)
                                 | (refine aw_blk oX12_set_101 (pc' := 103) (ls' := [_, _, _, _, _]) (st' := [_]) (cs := []) rfl trivial ?_
                                    refine aw_iret eX12_set_103 rfl (Nat.le_refl _) (Nat.le_refl _) ?_
                                    exact pe_i s.1 rfl rfl))
                          · first
                            | (exfalso; omega; done)
                            | (refine aw_blk oX12_set_83 (pc' := 86) (ls' := [_, _, _, _, _]) (st' := [_, _, _]) (cs := []) rfl trivial ?_
                               refine aw_icmp_ne (tgt := 93) eX12_set_86 (by decide) (by omega) (by omega) (fun h317 => ?_) (fun h317 => ?_)
                               · first
                                 | (exfalso; omega; done)
                                 | (refine aw_blk oX12_set_93 (pc' := 94) (ls' := [_, _, _, _, _]) (st' := [_, _]) (cs := []) rfl trivial ?_
                                    refine aw_blk oX12_set_94 (pc' := 95) (ls' := [_, _, _, _, _]) (st' := [_, _, _]) (cs := []) rfl trivial ?_
                                    refine aw_ciS (rest := []) (c_X12_in (by omega) (by omega) (by omega)) kX12_in eX12_set_95 lX12_set_95 rfl rfl (Nat.le_of_ble_eq_true rfl) ⟨Nat.le_of_ble_eq_true rfl, Nat.le_of_ble_eq_true rfl⟩ ⟨Nat.le_refl _, Nat.le_refl _⟩ ?_
                                    refine aw_if_ne (tgt := 104) eX12_set_98 (by decide) bt_r (fun hh => have h318 := bt1 hh; ?_) (fun hh => have h318 := bt0 hh; ?_)
                                    · first
                                      | (exfalso; omega; done)
                                      | (refine aw_blk oX12_set_104 (pc' := 121) (ls' := [_, _, _, _, _]) (st' := [_]) (cs := [(_, _), (_, _)]) rfl (⟨⟨by omega, by omega⟩, ⟨by omega, by omega⟩, trivial⟩) ?_
                                         refine aw_iret eX12_set_121 rfl (Nat.le_refl _) (Nat.le_refl _) ?_
                                         exact pe_i s.1 rfl rfl)
                                    · first
                                      | (exfalso; omega; done)
                                      | (refine aw_blk oX12_set_101 (pc' := 103) (ls' := [_, _, _, _, _]) (st' := [_]) (cs := []) rfl trivial ?_
                                         refine aw_iret eX12_set_103 rfl (Nat.le_refl _) (Nat.le_refl _) ?_
                                         exact pe_i s.1 rfl rfl))
                               · first
                                 | (exfalso; omega; done)
                                 | (refine aw_blk oX12_set_89 (pc' := 94) (ls' := [_, _, _, _, _]) (st' := [_, _]) (cs := []) rfl trivial ?_
                                    refine aw_blk oX12_set_94 (pc' := 95) (ls' := [_, _, _, _, _]) (st' := [_, _, _]) (cs := []) rfl trivial ?_
                                    refine aw_ciS (rest := []) (c_X12_in (by omega) (by omega) (by omega)) kX12_in eX12_set_95 lX12_set_95 rfl rfl (Nat.le_of_ble_eq_true rfl) ⟨Nat.le_of_ble_eq_true rfl, Nat.le_of_ble_eq_true rfl⟩ ⟨Nat.le_refl _, Nat.le_refl _⟩ ?_
                                    refine aw_if_ne (tgt := 104) eX12_set_98 (by decide) bt_r (fun hh => have h319 := bt1 hh; ?_) (fun hh => have h319 := bt0 hh; ?_)
                                    · first
                                      | (exfalso; omega; done)
                                      | (refine aw_blk oX12_set_104 (pc' := 121) (ls' := [_, _, _, _, _]) (st' := [_]) (cs := [(_, _), (_, _)]) rfl (⟨⟨by omega, by omega⟩, ⟨by omega, by omega⟩, trivial⟩) ?_
                                         refine aw_iret eX12_set_121 rfl (Nat.le_refl _) (Nat.le_refl _) ?_
                                         exact pe_i s.1 rfl rfl)
                                    · first
                                      | (exfalso; omega; done)
                                      | (refine aw_blk oX12_set_101 (pc' := 103) (ls' := [_, _, _, _, _]) (st' := [_]) (cs := []) rfl trivial ?_
                                         refine aw_iret eX12_set_103 rfl (Nat.le_refl _) (Nat.le_refl _) ?_
                                         exact pe_i s.1 rfl rfl)))))
                · first
                  | (exfalso; omega; done)
                  | (refine aw_blk oX12_set_27 (pc' := 76) (ls' := [_, _, _, _, _]) (st' := [_]) (cs := []) rfl trivial ?_
                     refine aw_blk oX12_set_76 (pc' := 80) (ls' := [_, _, _, _, _]) (st' := [_, _, _]) (cs := []) rfl trivial ?_
                     refine aw_icmp_eq (tgt := 89) eX12_set_80 (by decide) (by omega) (by omega) (fun h320 => ?_) (fun h320 => ?_)
                     · first
                       | (exfalso; omega; done)
                       | (refine aw_blk oX12_set_89 (pc' := 94) (ls' := [_, _, _, _, _]) (st' := [_, _]) (cs := []) rfl trivial ?_
                          refine aw_blk oX12_set_94 (pc' := 95) (ls' := [_, _, _, _, _]) (st' := [_, _, _]) (cs := []) rfl trivial ?_
                          refine aw_ciS (rest := []) (c_X12_in (by omega) (by omega) (by omega)) kX12_in eX12_set_95 lX12_set_95 rfl rfl (Nat.le_of_ble_eq_true rfl) ⟨Nat.le_of_ble_eq_true rfl, Nat.le_of_ble_eq_true rfl⟩ ⟨Nat.le_refl _, Nat.le_refl _⟩ ?_
                          refine aw_if_ne (tgt := 104) eX12_set_98 (by decide) bt_r (fun hh => have h321 := bt1 hh; ?_) (fun hh => have h321 := bt0 hh; ?_)
                          · first
                            | (exfalso; omega; done)
                            | (refine aw_blk oX12_set_104 (pc' := 121) (ls' := [_, _, _, _, _]) (st' := [_]) (cs := [(_, _), (_, _)]) rfl (⟨⟨by omega, by omega⟩, ⟨by omega, by omega⟩, trivial⟩) ?_
                               refine aw_iret eX12_set_121 rfl (Nat.le_refl _) (Nat.le_refl _) ?_
                               exact pe_i s.1 rfl rfl)
                          · first
                            | (exfalso; omega; done)
                            | (refine aw_blk oX12_set_101 (pc' := 103) (ls' := [_, _, _, _, _]) (st' := [_]) (cs := []) rfl trivial ?_
                               refine aw_iret eX12_set_103 rfl (Nat.le_refl _) (Nat.le_refl _) ?_
                               exact pe_i s.1 rfl rfl))
                     · first
                       | (exfalso; omega; done)
                       | (refine aw_blk oX12_set_83 (pc' := 86) (ls' := [_, _, _, _, _]) (st' := [_, _, _]) (cs := []) rfl trivial ?_
                          refine aw_icmp_ne (tgt := 93) eX12_set_86 (by decide) (by omega) (by omega) (fun h322 => ?_) (fun h322 => ?_)
                          · first
                            | (exfalso; omega; done)
                            | (refine aw_blk oX12_set_93 (pc' := 94) (ls' := [_, _, _, _, _]) (st' := [_, _]) (cs := []) rfl trivial ?_
                               refine aw_blk oX12_set_94 (pc' := 95) (ls' := [_, _, _, _, _]) (st' := [_, _, _]) (cs := []) rfl trivial ?_
                               refine aw_ciS (rest := []) (c_X12_in (by omega) (by omega) (by omega)) kX12_in eX12_set_95 lX12_set_95 rfl rfl (Nat.le_of_ble_eq_true rfl) ⟨Nat.le_of_ble_eq_true rfl, Nat.le_of_ble_eq_true rfl⟩ ⟨Nat.le_refl _, Nat.le_refl _⟩ ?_
                               refine aw_if_ne (tgt := 104) eX12_set_98 (by decide) bt_r (fun hh => have h323 := bt1 hh; ?_) (fun hh => have h323 := bt0 hh; ?_)
                               · first
                                 | (exfalso; omega; done)
                                 | (refine aw_blk oX12_set_104 (pc' := 121) (ls' := [_, _, _, _, _]) (st' := [_]) (cs := [(_, _), (_, _)]) rfl (⟨⟨by omega, by omega⟩, ⟨by omega, by omega⟩, trivial⟩) ?_
                                    refine aw_iret eX12_set_121 rfl (Nat.le_refl _) (Nat.le_refl _) ?_
                                    exact pe_i s.1 rfl rfl)
                               · first
                                 | (exfalso; omega; done)
                                 | (refine aw_blk oX12_set_101 (pc' := 103) (ls' := [_, _, _, _, _]) (st' := [_]) (cs := []) rfl trivial ?_
                                    refine aw_iret eX12_set_103 rfl (Nat.le_refl _) (Nat.le_refl _) ?_
                                    exact pe_i s.1 rfl rfl))
                          · first
                            | (exfalso; omega; done)
                            | (refine aw_blk oX12_set_89 (pc' := 94) (ls' := [_, _, _, _, _]) (st' := [_, _]) (cs := []) rfl trivial ?_
                               refine aw_blk oX12_set_94 (pc' := 95) (ls' := [_, _, _, _, _]) (st' := [_, _, _]) (cs := []) rfl trivial ?_
                               refine aw_ciS (rest := []) (c_X12_in (by omega) (by omega) (by omega)) kX12_in eX12_set_95 lX12_set_95 rfl rfl (Nat.le_of_ble_eq_true rfl) ⟨Nat.le_of_ble_eq_true rfl, Nat.le_of_ble_eq_true rfl⟩ ⟨Nat.le_refl _, Nat.le_refl _⟩ ?_
                               refine aw_if_ne (tgt := 104) eX12_set_98 (by decide) bt_r (fun hh => have h324 := bt1 hh; ?_) (fun hh => have h324 := bt0 hh; ?_)
                               · first
                                 | (exfalso; omega; done)
                                 | (refine aw_blk oX12_set_104 (pc' := 121) (ls' := [_, _, _, _, _]) (st' := [_]) (cs := [(_, _), (_, _)]) rfl (⟨⟨by omega, by omega⟩, ⟨by omega, by omega⟩, trivial⟩) ?_
                                    refine aw_iret eX12_set_121 rfl (Nat.le_refl _) (Nat.le_refl _) ?_
                                    exact pe_i s.1 rfl rfl)
                               · first
                                 | (exfalso; omega; done)
                                 | (refine aw_blk oX12_set_101 (pc' := 103) (ls' := [_, _, _, _, _]) (st' := [_]) (cs := []) rfl trivial ?_
                                    refine aw_iret eX12_set_103 rfl (Nat.le_refl _) (Nat.le_refl _) ?_
                                    exact pe_i s.1 rfl rfl)))))
           · first
             | (exfalso; omega; done)
             | (refine aw_blk oX12_set_17 (pc' := 76) (ls' := [_, _, _, _, _]) (st' := [_]) (cs := []) rfl trivial ?_
                refine aw_blk oX12_set_76 (pc' := 80) (ls' := [_, _, _, _, _]) (st' := [_, _, _]) (cs := []) rfl trivial ?_
                refine aw_icmp_eq (tgt := 89) eX12_set_80 (by decide) (by omega) (by omega) (fun h325 => ?_) (fun h325 => ?_)
                · first
                  | (exfalso; omega; done)
                  | (refine aw_blk oX12_set_89 (pc' := 94) (ls' := [_, _, _, _, _]) (st' := [_, _]) (cs := []) rfl trivial ?_
                     refine aw_blk oX12_set_94 (pc' := 95) (ls' := [_, _, _, _, _]) (st' := [_, _, _]) (cs := []) rfl trivial ?_
                     refine aw_ciS (rest := []) (c_X12_in (by omega) (by omega) (by omega)) kX12_in eX12_set_95 lX12_set_95 rfl rfl (Nat.le_of_ble_eq_true rfl) ⟨Nat.le_of_ble_eq_true rfl, Nat.le_of_ble_eq_true rfl⟩ ⟨Nat.le_refl _, Nat.le_refl _⟩ ?_
                     refine aw_if_ne (tgt := 104) eX12_set_98 (by decide) bt_r (fun hh => have h326 := bt1 hh; ?_) (fun hh => have h326 := bt0 hh; ?_)
                     · first
                       | (exfalso; omega; done)
                       | (refine aw_blk oX12_set_104 (pc' := 121) (ls' := [_, _, _, _, _]) (st' := [_]) (cs := [(_, _), (_, _)]) rfl (⟨⟨by omega, by omega⟩, ⟨by omega, by omega⟩, trivial⟩) ?_
                          refine aw_iret eX12_set_121 rfl (Nat.le_refl _) (Nat.le_refl _) ?_
                          exact pe_i s.1 rfl rfl)
                     · first
                       | (exfalso; omega; done)
                       | (refine aw_blk oX12_set_101 (pc' := 103) (ls' := [_, _, _, _, _]) (st' := [_]) (cs := []) rfl trivial ?_
                          refine aw_iret eX12_set_103 rfl (Nat.le_refl _) (Nat.le_refl _) ?_
                          exact pe_i s.1 rfl rfl))
                · first
                  | (exfalso; omega; done)
                  | (refine aw_blk oX12_set_83 (pc' := 86) (ls' := [_, _, _, _, _]) (st' := [_, _, _]) (cs := []) rfl trivial ?_
                     refine aw_icmp_ne (tgt := 93) eX12_set_86 (by decide) (by omega) (by omega) (fun h327 => ?_) (fun h327 => ?_)
                     · first
                       | (exfalso; omega; done)
                       | (refine aw_blk oX12_set_93 (pc' := 94) (ls' := [_, _, _, _, _]) (st' := [_, _]) (cs := []) rfl trivial ?_
                          refine aw_blk oX12_set_94 (pc' := 95) (ls' := [_, _, _, _, _]) (st' := [_, _, _]) (cs := []) rfl trivial ?_
                          refine aw_ciS (rest := []) (c_X12_in (by omega) (by omega) (by omega)) kX12_in eX12_set_95 lX12_set_95 rfl rfl (Nat.le_of_ble_eq_true rfl) ⟨Nat.le_of_ble_eq_true rfl, Nat.le_of_ble_eq_true rfl⟩ ⟨Nat.le_refl _, Nat.le_refl _⟩ ?_
                          refine aw_if_ne (tgt := 104) eX12_set_98 (by decide) bt_r (fun hh => have h328 := bt1 hh; ?_) (fun hh => have h328 := bt0 hh; ?_)
                          · first
                            | (exfalso; omega; done)
                            | (refine aw_blk oX12_set_104 (pc' := 121) (ls' := [_, _, _, _, _]) (st' := [_]) (cs := [(_, _), (_, _)]) rfl (⟨⟨by omega, by omega⟩, ⟨by omega, by omega⟩, trivial⟩) ?_
                               refine aw_iret eX12_set_121 rfl (Nat.le_refl _) (Nat.le_refl _) ?_
                               exact pe_i s.1 rfl rfl)
                          · first
                            | (exfalso; omega; done)
                            | (refine aw_blk oX12_set_101 (pc' := 103) (ls' := [_, _, _, _, _]) (st' := [_]) (cs := []) rfl trivial ?_
                               refine aw_iret eX12_set_103 rfl (Nat.le_refl _) (Nat.le_refl _) ?_
                               exact pe_i s.1 rfl rfl))
                     · first
                       | (exfalso; omega; done)
                       | (refine aw_blk oX12_set_89 (pc' := 94) (ls' := [_, _, _, _, _]) (st' := [_, _]) (cs := []) rfl trivial ?_
                          refine aw_blk oX12_set_94 (pc' := 95) (ls' := [_, _, _, _, _]) (st' := [_, _, _]) (cs := []) rfl trivial ?_
                          refine aw_ciS (rest := []) (c_X12_in (by omega) (by omega) (by omega)) kX12_in eX12_set_95 lX12_set_95 rfl rfl (Nat.le_of_ble_eq_true rfl) ⟨Nat.le_of_ble_eq_true rfl, Nat.le_of_ble_eq_true rfl⟩ ⟨Nat.le_refl _, Nat.le_refl _⟩ ?_
                          refine aw_if_ne (tgt := 104) eX12_set_98 (by decide) bt_r (fun hh => have h329 := bt1 hh; ?_) (fun hh => have h329 := bt0 hh; ?_)
                          · first
                            | (exfalso; omega; done)
                            | (refine aw_blk oX12_set_104 (pc' := 121) (ls' := [_, _, _, _, _]) (st' := [_]) (cs := [(_, _), (_, _)]) rfl (⟨⟨by omega, by omega⟩, ⟨by omega, by omega⟩, trivial⟩) ?_
                               refine aw_iret eX12_set_121 rfl (Nat.le_refl _) (Nat.le_refl _) ?_
                               exact pe_i s.1 rfl rfl)
                          · first
                            | (exfalso; omega; done)
                            | (refine aw_blk oX12_set_101 (pc' := 103) (ls' := [_, _, _, _, _]) (st' := [_]) (cs := []) rfl trivial ?_
                               refine aw_iret eX12_set_103 rfl (Nat.le_refl _) (Nat.le_refl _) ?_
                               exact pe_i s.1 rfl rfl)))))
      · first
        | (exfalso; omega; done)
        | (refine aw_blk oX12_set_10 (pc' := 12) (ls' := [_, _, _, _, _]) (st' := [_]) (cs := []) rfl trivial ?_
           refine aw_iret eX12_set_12 rfl (Nat.le_refl _) (Nat.le_refl _) ?_
           exact pe_i s.1 rfl rfl)
    · exact h.up (k := 3) (v := v) (by omega) (by omega) rfl rfl
    · exact ((SR.rf.put (by decide)).put (by decide))
    · intro j hj
      rfl
    · exact Or.inl ⟨rfl, rfl⟩
    · exact Or.inl ⟨rfl, rfl⟩
  · refine ⟨-2, μ, ν, μ, ?_, ?_, by decide, rfl, Or.inl rfl⟩
    · refine AMet.of kX11_set.1 (Nat.le_of_ble_eq_true rfl) rfl ?_
      refine aw_blk oX11_set_0 (pc' := 4) (ls' := [_, _, _, _]) (st' := [_, _, _]) (cs := []) rfl trivial ?_
      refine aw_ciS (rest := []) (c_X11_between (by omega) (by omega) (by omega)) kX11_between eX11_set_4 lX11_set_4 rfl rfl (Nat.le_of_ble_eq_true rfl) ⟨Nat.le_of_ble_eq_true rfl, Nat.le_of_ble_eq_true rfl⟩ ⟨Nat.le_refl _, Nat.le_refl _⟩ ?_
      refine aw_if_eq (tgt := 27) eX11_set_7 (by decide) bt_r (fun hh => have h330 := bt0 hh; ?_) (fun hh => have h330 := bt1 hh; ?_)
      · first
        | (exfalso; omega; done)
        | (refine aw_blk oX11_set_27 (pc' := 29) (ls' := [_, _, _, _]) (st' := [_]) (cs := []) rfl trivial ?_
           refine aw_iret eX11_set_29 rfl (Nat.le_refl _) (Nat.le_refl _) ?_
           exact pe_i rfl rfl rfl)
      · first
        | (exfalso; omega; done)
        | (refine aw_blk oX11_set_10 (pc' := 21) (ls' := [_, _, _, _]) (st' := [_, _, _]) (cs := [(_, _), (_, _)]) rfl (⟨⟨by omega, by omega⟩, ⟨by omega, by omega⟩, trivial⟩) ?_
           refine aw_ciS (rest := []) (c_X11_between (by omega) (by omega) (by omega)) kX11_between eX11_set_21 lX11_set_21 rfl rfl (Nat.le_of_ble_eq_true rfl) ⟨Nat.le_of_ble_eq_true rfl, Nat.le_of_ble_eq_true rfl⟩ ⟨Nat.le_refl _, Nat.le_refl _⟩ ?_
           refine aw_if_ne (tgt := 30) eX11_set_24 (by decide) bt_r (fun hh => have h331 := bt1 hh; ?_) (fun hh => have h331 := bt0 hh; ?_)
           · first
             | (exfalso; omega; done)
             | (refine aw_blk oX11_set_30 (pc' := 45) (ls' := [_, _, _, _]) (st' := [_]) (cs := [(_, _), (_, _)]) rfl (⟨⟨by omega, by omega⟩, ⟨by omega, by omega⟩, trivial⟩) ?_
                refine aw_if_ne (tgt := 56) eX11_set_45 (by decide) (by omega) (fun h332 => ?_) (fun h332 => ?_)
                · first
                  | (exfalso; omega; done)
                  | (refine aw_blk oX11_set_56 (pc' := 58) (ls' := [_, _, _, _]) (st' := [_, _]) (cs := []) rfl trivial ?_
                     refine aw_icmp_ne (tgt := 65) eX11_set_58 (by decide) (by omega) (by omega) (fun h333 => ?_) (fun h333 => ?_)
                     · first
                       | (exfalso; omega; done)
                       | (refine aw_blk oX11_set_65 (pc' := 66) (ls' := [_, _, _, _]) (st' := [_]) (cs := []) rfl trivial ?_
                          refine aw_iret eX11_set_66 rfl (Nat.le_refl _) (Nat.le_refl _) ?_
                          exact pe_i rfl rfl rfl)
                     · first
                       | (exfalso; omega; done)
                       | (refine aw_blk oX11_set_61 (pc' := 62) (ls' := [_, _, _, _]) (st' := [_]) (cs := []) rfl trivial ?_
                          refine aw_cvV (rest := []) (c_forget) kX11_forgetShows eX11_set_62 lX11_set_62 rfl rfl rfl rfl (Nat.le_of_ble_eq_true rfl) ⟨Nat.le_of_ble_eq_true rfl, Nat.le_of_ble_eq_true rfl⟩ ⟨Nat.le_refl _, Nat.le_refl _⟩ ?_
                          refine aw_blk oX11_set_65 (pc' := 66) (ls' := [_, _, _, _]) (st' := [_]) (cs := []) rfl trivial ?_
                          refine aw_iret eX11_set_66 rfl (Nat.le_refl _) (Nat.le_refl _) ?_
                          exact pe_i rfl rfl rfl))
                · first
                  | (exfalso; omega; done)
                  | (refine aw_blk oX11_set_48 (pc' := 53) (ls' := [_, _, _, _]) (st' := [_, _]) (cs := []) rfl trivial ?_
                     refine aw_cvV (rest := []) (c_forgetCuts (by omega) (by omega)) kX3_forgetCutsFrom eX11_set_53 lX11_set_53 rfl rfl rfl rfl (Nat.le_of_ble_eq_true rfl) ⟨Nat.le_of_ble_eq_true rfl, Nat.le_of_ble_eq_true rfl⟩ ⟨Nat.le_refl _, Nat.le_refl _⟩ ?_
                     refine aw_blk oX11_set_56 (pc' := 58) (ls' := [_, _, _, _]) (st' := [_, _]) (cs := []) rfl trivial ?_
                     refine aw_icmp_ne (tgt := 65) eX11_set_58 (by decide) (by omega) (by omega) (fun h334 => ?_) (fun h334 => ?_)
                     · first
                       | (exfalso; omega; done)
                       | (refine aw_blk oX11_set_65 (pc' := 66) (ls' := [_, _, _, _]) (st' := [_]) (cs := []) rfl trivial ?_
                          refine aw_iret eX11_set_66 rfl (Nat.le_refl _) (Nat.le_refl _) ?_
                          exact pe_i rfl rfl rfl)
                     · first
                       | (exfalso; omega; done)
                       | (refine aw_blk oX11_set_61 (pc' := 62) (ls' := [_, _, _, _]) (st' := [_]) (cs := []) rfl trivial ?_
                          refine aw_cvV (rest := []) (c_forget) kX11_forgetShows eX11_set_62 lX11_set_62 rfl rfl rfl rfl (Nat.le_of_ble_eq_true rfl) ⟨Nat.le_of_ble_eq_true rfl, Nat.le_of_ble_eq_true rfl⟩ ⟨Nat.le_refl _, Nat.le_refl _⟩ ?_
                          refine aw_blk oX11_set_65 (pc' := 66) (ls' := [_, _, _, _]) (st' := [_]) (cs := []) rfl trivial ?_
                          refine aw_iret eX11_set_66 rfl (Nat.le_refl _) (Nat.le_refl _) ?_
                          exact pe_i rfl rfl rfl)))
           · first
             | (exfalso; omega; done)
             | (refine aw_blk oX11_set_27 (pc' := 29) (ls' := [_, _, _, _]) (st' := [_]) (cs := []) rfl trivial ?_
                refine aw_iret eX11_set_29 rfl (Nat.le_refl _) (Nat.le_refl _) ?_
                exact pe_i rfl rfl rfl))
    · refine AMet.of kX12_set.1 (Nat.le_of_ble_eq_true rfl) rfl ?_
      refine aw_blk oX12_set_0 (pc' := 4) (ls' := [_, _, _, _, _]) (st' := [_, _, _]) (cs := []) rfl trivial ?_
      refine aw_ciS (rest := []) (c_X12_in (by omega) (by omega) (by omega)) kX12_in eX12_set_4 lX12_set_4 rfl rfl (Nat.le_of_ble_eq_true rfl) ⟨Nat.le_of_ble_eq_true rfl, Nat.le_of_ble_eq_true rfl⟩ ⟨Nat.le_refl _, Nat.le_refl _⟩ ?_
      refine aw_if_ne (tgt := 13) eX12_set_7 (by decide) bt_r (fun hh => have h335 := bt1 hh; ?_) (fun hh => have h335 := bt0 hh; ?_)
      · first
        | (exfalso; omega; done)
        | (refine aw_blk oX12_set_13 (pc' := 14) (ls' := [_, _, _, _, _]) (st' := [_]) (cs := []) rfl trivial ?_
           refine aw_if_ne (tgt := 22) eX12_set_14 (by decide) (by omega) (fun h336 => ?_) (fun h336 => ?_)
           · first
             | (exfalso; omega; done)
             | (refine aw_blk oX12_set_22 (pc' := 24) (ls' := [_, _, _, _, _]) (st' := [_, _]) (cs := []) rfl trivial ?_
                refine aw_icmp_ne (tgt := 33) eX12_set_24 (by decide) (by omega) (by omega) (fun h337 => ?_) (fun h337 => ?_)
                · first
                  | (exfalso; omega; done)
                  | (refine aw_blk oX12_set_33 (pc' := 35) (ls' := [_, _, _, _, _]) (st' := [_, _]) (cs := []) rfl trivial ?_
                     refine aw_icmp_ne (tgt := 43) eX12_set_35 (by decide) (by omega) (by omega) (fun h338 => ?_) (fun h338 => ?_)
                     · first
                       | (exfalso; omega; done)
                       | (refine aw_blk oX12_set_43 (pc' := 45) (ls' := [_, _, _, _, _]) (st' := [_, _]) (cs := []) rfl trivial ?_
                          refine aw_icmp_ne (tgt := 53) eX12_set_45 (by decide) (by omega) (by omega) (fun h339 => ?_) (fun h339 => ?_)
                          · first
                            | (exfalso; omega; done)
                            | (refine aw_blk oX12_set_53 (pc' := 55) (ls' := [_, _, _, _, _]) (st' := [_, _]) (cs := []) rfl trivial ?_
                               refine aw_icmp_ne (tgt := 63) eX12_set_55 (by decide) (by omega) (by omega) (fun h340 => ?_) (fun h340 => ?_)
                               · first
                                 | (exfalso; omega; done)
                                 | (refine aw_blk oX12_set_63 (pc' := 65) (ls' := [_, _, _, _, _]) (st' := [_, _]) (cs := []) rfl trivial ?_
                                    refine aw_icmp_ne (tgt := 74) eX12_set_65 (by decide) (by omega) (by omega) (fun h341 => ?_) (fun h341 => ?_)
                                    · first
                                      | (exfalso; omega; done)
                                      | (refine aw_blk oX12_set_74 (pc' := 76) (ls' := [_, _, _, _, _]) (st' := [_]) (cs := []) rfl trivial ?_
                                         refine aw_blk oX12_set_76 (pc' := 80) (ls' := [_, _, _, _, _]) (st' := [_, _, _]) (cs := []) rfl trivial ?_
                                         refine aw_icmp_eq (tgt := 89) eX12_set_80 (by decide) (by omega) (by omega) (fun h342 => ?_) (fun h342 => ?_)
                                         · first
                                           | (exfalso; omega; done)
                                           | (refine aw_blk oX12_set_89 (pc' := 94) (ls' := [_, _, _, _, _]) (st' := [_, _]) (cs := []) rfl trivial ?_
                                              refine aw_blk oX12_set_94 (pc' := 95) (ls' := [_, _, _, _, _]) (st' := [_, _, _]) (cs := []) rfl trivial ?_
                                              refine aw_ciS (rest := []) (c_X12_in (by omega) (by omega) (by omega)) kX12_in eX12_set_95 lX12_set_95 rfl rfl (Nat.le_of_ble_eq_true rfl) ⟨Nat.le_of_ble_eq_true rfl, Nat.le_of_ble_eq_true rfl⟩ ⟨Nat.le_refl _, Nat.le_refl _⟩ ?_
                                              refine aw_if_ne (tgt := 104) eX12_set_98 (by decide) bt_r (fun hh => have h343 := bt1 hh; ?_) (fun hh => have h343 := bt0 hh; ?_)
                                              · first
                                                | (exfalso; omega; done)
                                                | (refine aw_blk oX12_set_104 (pc' := 121) (ls' := [_, _, _, _, _]) (st' := [_]) (cs := [(_, _), (_, _)]) rfl (⟨⟨by omega, by omega⟩, ⟨by omega, by omega⟩, trivial⟩) ?_
                                                   refine aw_iret eX12_set_121 rfl (Nat.le_refl _) (Nat.le_refl _) ?_
                                                   exact pe_i rfl rfl rfl)
                                              · first
                                                | (exfalso; omega; done)
                                                | (refine aw_blk oX12_set_101 (pc' := 103) (ls' := [_, _, _, _, _]) (st' := [_]) (cs := []) rfl trivial ?_
                                                   refine aw_iret eX12_set_103 rfl (Nat.le_refl _) (Nat.le_refl _) ?_
                                                   exact pe_i rfl rfl rfl))
                                         · first
                                           | (exfalso; omega; done)
                                           | (refine aw_blk oX12_set_83 (pc' := 86) (ls' := [_, _, _, _, _]) (st' := [_, _, _]) (cs := []) rfl trivial ?_
                                              refine aw_icmp_ne (tgt := 93) eX12_set_86 (by decide) (by omega) (by omega) (fun h344 => ?_) (fun h344 => ?_)
                                              · first
                                                | (exfalso; omega; done)
                                                | (refine aw_blk oX12_set_93 (pc' := 94) (ls' := [_, _, _, _, _]) (st' := [_, _]) (cs := []) rfl trivial ?_
                                                   refine aw_blk oX12_set_94 (pc' := 95) (ls' := [_, _, _, _, _]) (st' := [_, _, _]) (cs := []) rfl trivial ?_
                                                   refine aw_ciS (rest := []) (c_X12_in (by omega) (by omega) (by omega)) kX12_in eX12_set_95 lX12_set_95 rfl rfl (Nat.le_of_ble_eq_true rfl) ⟨Nat.le_of_ble_eq_true rfl, Nat.le_of_ble_eq_true rfl⟩ ⟨Nat.le_refl _, Nat.le_refl _⟩ ?_
                                                   refine aw_if_ne (tgt := 104) eX12_set_98 (by decide) bt_r (fun hh => have h345 := bt1 hh; ?_) (fun hh => have h345 := bt0 hh; ?_)
                                                   · first
                                                     | (exfalso; omega; done)
                                                     | (refine aw_blk oX12_set_104 (pc' := 121) (ls' := [_, _, _, _, _]) (st' := [_]) (cs := [(_, _), (_, _)]) rfl (⟨⟨by omega, by omega⟩, ⟨by omega, by omega⟩, trivial⟩) ?_
                                                        refine aw_iret eX12_set_121 rfl (Nat.le_refl _) (Nat.le_refl _) ?_
                                                        exact pe_i rfl rfl rfl)
                                                   · first
                                                     | (exfalso; omega; done)
                                                     | (refine aw_blk oX12_set_101 (pc' := 103) (ls' := [_, _, _, _, _]) (st' := [_]) (cs := []) rfl trivial ?_
                                                        refine aw_iret eX12_set_103 rfl (Nat.le_refl _) (Nat.le_refl _) ?_
                                                        exact pe_i rfl rfl rfl))
                                              · first
                                                | (exfalso; omega; done)
                                                | (refine aw_blk oX12_set_89 (pc' := 94) (ls' := [_, _, _, _, _]) (st' := [_, _]) (cs := []) rfl trivial ?_
                                                   refine aw_blk oX12_set_94 (pc' := 95) (ls' := [_, _, _, _, _]) (st' := [_, _, _]) (cs := []) rfl trivial ?_
                                                   refine aw_ciS (rest := []) (c_X12_in (by omega) (by omega) (by omega)) kX12_in eX12_set_95 lX12_set_95 rfl rfl (Nat.le_of_ble_eq_true rfl) ⟨Nat.le_of_ble_eq_true rfl, Nat.le_of_ble_eq_true rfl⟩ ⟨Nat.le_refl _, Nat.le_refl _⟩ ?_
                                                   refine aw_if_ne (tgt := 104) eX12_set_98 (by decide) bt_r (fun hh => have h346 := bt1 hh; ?_) (fun hh => have h346 := bt0 hh; ?_)
                                                   · first
                                                     | (exfalso; omega; done)
                                                     | (refine aw_blk oX12_set_104 (pc' := 121) (ls' := [_, _, _, _, _]) (st' := [_]) (cs := [(_, _), (_, _)]) rfl (⟨⟨by omega, by omega⟩, ⟨by omega, by omega⟩, trivial⟩) ?_
                                                        refine aw_iret eX12_set_121 rfl (Nat.le_refl _) (Nat.le_refl _) ?_
                                                        exact pe_i rfl rfl rfl)
                                                   · first
                                                     | (exfalso; omega; done)
                                                     | (refine aw_blk oX12_set_101 (pc' := 103) (ls' := [_, _, _, _, _]) (st' := [_]) (cs := []) rfl trivial ?_
                                                        refine aw_iret eX12_set_103 rfl (Nat.le_refl _) (Nat.le_refl _) ?_
                                                        exact pe_i rfl rfl rfl))))
                                    · first
                                      | (exfalso; omega; done)
                                      | (refine aw_blk oX12_set_68 (pc' := 76) (ls' := [_, _, _, _, _]) (st' := [_]) (cs := []) rfl trivial ?_
                                         refine aw_blk oX12_set_76 (pc' := 80) (ls' := [_, _, _, _, _]) (st' := [_, _, _]) (cs := []) rfl trivial ?_
                                         refine aw_icmp_eq (tgt := 89) eX12_set_80 (by decide) (by omega) (by omega) (fun h347 => ?_) (fun h347 => ?_)
                                         · first
                                           | (exfalso; omega; done)
                                           | (refine aw_blk oX12_set_89 (pc' := 94) (ls' := [_, _, _, _, _]) (st' := [_, _]) (cs := []) rfl trivial ?_
                                              refine aw_blk oX12_set_94 (pc' := 95) (ls' := [_, _, _, _, _]) (st' := [_, _, _]) (cs := []) rfl trivial ?_
                                              refine aw_ciS (rest := []) (c_X12_in (by omega) (by omega) (by omega)) kX12_in eX12_set_95 lX12_set_95 rfl rfl (Nat.le_of_ble_eq_true rfl) ⟨Nat.le_of_ble_eq_true rfl, Nat.le_of_ble_eq_true rfl⟩ ⟨Nat.le_refl _, Nat.le_refl _⟩ ?_
                                              refine aw_if_ne (tgt := 104) eX12_set_98 (by decide) bt_r (fun hh => have h348 := bt1 hh; ?_) (fun hh => have h348 := bt0 hh; ?_)
                                              · first
                                                | (exfalso; omega; done)
                                                | (refine aw_blk oX12_set_104 (pc' := 121) (ls' := [_, _, _, _, _]) (st' := [_]) (cs := [(_, _), (_, _)]) rfl (⟨⟨by omega, by omega⟩, ⟨by omega, by omega⟩, trivial⟩) ?_
                                                   refine aw_iret eX12_set_121 rfl (Nat.le_refl _) (Nat.le_refl _) ?_
                                                   exact pe_i rfl rfl rfl)
                                              · first
                                                | (exfalso; omega; done)
                                                | (refine aw_blk oX12_set_101 (pc' := 103) (ls' := [_, _, _, _, _]) (st' := [_]) (cs := []) rfl trivial ?_
                                                   refine aw_iret eX12_set_103 rfl (Nat.le_refl _) (Nat.le_refl _) ?_
                                                   exact pe_i rfl rfl rfl))
                                         · first
                                           | (exfalso; omega; done)
                                           | (refine aw_blk oX12_set_83 (pc' := 86) (ls' := [_, _, _, _, _]) (st' := [_, _, _]) (cs := []) rfl trivial ?_
                                              refine aw_icmp_ne (tgt := 93) eX12_set_86 (by decide) (by omega) (by omega) (fun h349 => ?_) (fun h349 => ?_)
                                              · first
                                                | (exfalso; omega; done)
                                                | (refine aw_blk oX12_set_93 (pc' := 94) (ls' := [_, _, _, _, _]) (st' := [_, _]) (cs := []) rfl trivial ?_
                                                   refine aw_blk oX12_set_94 (pc' := 95) (ls' := [_, _, _, _, _]) (st' := [_, _, _]) (cs := []) rfl trivial ?_
                                                   refine aw_ciS (rest := []) (c_X12_in (by omega) (by omega) (by omega)) kX12_in eX12_set_95 lX12_set_95 rfl rfl (Nat.le_of_ble_eq_true rfl) ⟨Nat.le_of_ble_eq_true rfl, Nat.le_of_ble_eq_true rfl⟩ ⟨Nat.le_refl _, Nat.le_refl _⟩ ?_
                                                   refine aw_if_ne (tgt := 104) eX12_set_98 (by decide) bt_r (fun hh => have h350 := bt1 hh; ?_) (fun hh => have h350 := bt0 hh; ?_)
                                                   · first
                                                     | (exfalso; omega; done)
                                                     | (refine aw_blk oX12_set_104 (pc' := 121) (ls' := [_, _, _, _, _]) (st' := [_]) (cs := [(_, _), (_, _)]) rfl (⟨⟨by omega, by omega⟩, ⟨by omega, by omega⟩, trivial⟩) ?_
                                                        refine aw_iret eX12_set_121 rfl (Nat.le_refl _) (Nat.le_refl _) ?_
                                                        exact pe_i rfl rfl rfl)
                                                   · first
                                                     | (exfalso; omega; done)
                                                     | (refine aw_blk oX12_set_101 (pc' := 103) (ls' := [_, _, _, _, _]) (st' := [_]) (cs := []) rfl trivial ?_
                                                        refine aw_iret eX12_set_103 rfl (Nat.le_refl _) (Nat.le_refl _) ?_
                                                        exact pe_i rfl rfl rfl))
                                              · first
                                                | (exfalso; omega; done)
                                                | (refine aw_blk oX12_set_89 (pc' := 94) (ls' := [_, _, _, _, _]) (st' := [_, _]) (cs := []) rfl trivial ?_
                                                   refine aw_blk oX12_set_94 (pc' := 95) (ls' := [_, _, _, _, _]) (st' := [_, _, _]) (cs := []) rfl trivial ?_
                                                   refine aw_ciS (rest := []) (c_X12_in (by omega) (by omega) (by omega)) kX12_in eX12_set_95 lX12_set_95 rfl rfl (Nat.le_of_ble_eq_true rfl) ⟨Nat.le_of_ble_eq_true rfl, Nat.le_of_ble_eq_true rfl⟩ ⟨Nat.le_refl _, Nat.le_refl _⟩ ?_
                                                   refine aw_if_ne (tgt := 104) eX12_set_98 (by decide) bt_r (fun hh => have h351 := bt1 hh; ?_) (fun hh => have h351 := bt0 hh; ?_)
                                                   · first
                                                     | (exfalso; omega; done)
                                                     | (refine aw_blk oX12_set_104 (pc' := 121) (ls' := [_, _, _, _, _]) (st' := [_]) (cs := [(_, _), (_, _)]) rfl (⟨⟨by omega, by omega⟩, ⟨by omega, by omega⟩, trivial⟩) ?_
                                                        refine aw_iret eX12_set_121 rfl (Nat.le_refl _) (Nat.le_refl _) ?_
                                                        exact pe_i rfl rfl rfl)
                                                   · first
                                                     | (exfalso; omega; done)
                                                     | (refine aw_blk oX12_set_101 (pc' := 103) (ls' := [_, _, _, _, _]) (st' := [_]) (cs := []) rfl trivial ?_
                                                        refine aw_iret eX12_set_103 rfl (Nat.le_refl _) (Nat.le_refl _) ?_
                                                        exact pe_i rfl rfl rfl)))))
                               · first
                                 | (exfalso; omega; done)
                                 | (refine aw_blk oX12_set_58 (pc' := 76) (ls' := [_, _, _, _, _]) (st' := [_]) (cs := []) rfl trivial ?_
                                    refine aw_blk oX12_set_76 (pc' := 80) (ls' := [_, _, _, _, _]) (st' := [_, _, _]) (cs := []) rfl trivial ?_
                                    refine aw_icmp_eq (tgt := 89) eX12_set_80 (by decide) (by omega) (by omega) (fun h352 => ?_) (fun h352 => ?_)
                                    · first
                                      | (exfalso; omega; done)
                                      | (refine aw_blk oX12_set_89 (pc' := 94) (ls' := [_, _, _, _, _]) (st' := [_, _]) (cs := []) rfl trivial ?_
                                         refine aw_blk oX12_set_94 (pc' := 95) (ls' := [_, _, _, _, _]) (st' := [_, _, _]) (cs := []) rfl trivial ?_
                                         refine aw_ciS (rest := []) (c_X12_in (by omega) (by omega) (by omega)) kX12_in eX12_set_95 lX12_set_95 rfl rfl (Nat.le_of_ble_eq_true rfl) ⟨Nat.le_of_ble_eq_true rfl, Nat.le_of_ble_eq_true rfl⟩ ⟨Nat.le_refl _, Nat.le_refl _⟩ ?_
                                         refine aw_if_ne (tgt := 104) eX12_set_98 (by decide) bt_r (fun hh => have h353 := bt1 hh; ?_) (fun hh => have h353 := bt0 hh; ?_)
                                         · first
                                           | (exfalso; omega; done)
                                           | (refine aw_blk oX12_set_104 (pc' := 121) (ls' := [_, _, _, _, _]) (st' := [_]) (cs := [(_, _), (_, _)]) rfl (⟨⟨by omega, by omega⟩, ⟨by omega, by omega⟩, trivial⟩) ?_
                                              refine aw_iret eX12_set_121 rfl (Nat.le_refl _) (Nat.le_refl _) ?_
                                              exact pe_i rfl rfl rfl)
                                         · first
                                           | (exfalso; omega; done)
                                           | (refine aw_blk oX12_set_101 (pc' := 103) (ls' := [_, _, _, _, _]) (st' := [_]) (cs := []) rfl trivial ?_
                                              refine aw_iret eX12_set_103 rfl (Nat.le_refl _) (Nat.le_refl _) ?_
                                              exact pe_i rfl rfl rfl))
                                    · first
                                      | (exfalso; omega; done)
                                      | (refine aw_blk oX12_set_83 (pc' := 86) (ls' := [_, _, _, _, _]) (st' := [_, _, _]) (cs := []) rfl trivial ?_
                                         refine aw_icmp_ne (tgt := 93) eX12_set_86 (by decide) (by omega) (by omega) (fun h354 => ?_) (fun h354 => ?_)
                                         · first
                                           | (exfalso; omega; done)
                                           | (refine aw_blk oX12_set_93 (pc' := 94) (ls' := [_, _, _, _, _]) (st' := [_, _]) (cs := []) rfl trivial ?_
                                              refine aw_blk oX12_set_94 (pc' := 95) (ls' := [_, _, _, _, _]) (st' := [_, _, _]) (cs := []) rfl trivial ?_
                                              refine aw_ciS (rest := []) (c_X12_in (by omega) (by omega) (by omega)) kX12_in eX12_set_95 lX12_set_95 rfl rfl (Nat.le_of_ble_eq_true rfl) ⟨Nat.le_of_ble_eq_true rfl, Nat.le_of_ble_eq_true rfl⟩ ⟨Nat.le_refl _, Nat.le_refl _⟩ ?_
                                              refine aw_if_ne (tgt := 104) eX12_set_98 (by decide) bt_r (fun hh => have h355 := bt1 hh; ?_) (fun hh => have h355 := bt0 hh; ?_)
                                              · first
                                                | (exfalso; omega; done)
                                                | (refine aw_blk oX12_set_104 (pc' := 121) (ls' := [_, _, _, _, _]) (st' := [_]) (cs := [(_, _), (_, _)]) rfl (⟨⟨by omega, by omega⟩, ⟨by omega, by omega⟩, trivial⟩) ?_
                                                   refine aw_iret eX12_set_121 rfl (Nat.le_refl _) (Nat.le_refl _) ?_
                                                   exact pe_i rfl rfl rfl)
                                              · first
                                                | (exfalso; omega; done)
                                                | (refine aw_blk oX12_set_101 (pc' := 103) (ls' := [_, _, _, _, _]) (st' := [_]) (cs := []) rfl trivial ?_
                                                   refine aw_iret eX12_set_103 rfl (Nat.le_refl _) (Nat.le_refl _) ?_
                                                   exact pe_i rfl rfl rfl))
                                         · first
                                           | (exfalso; omega; done)
                                           | (refine aw_blk oX12_set_89 (pc' := 94) (ls' := [_, _, _, _, _]) (st' := [_, _]) (cs := []) rfl trivial ?_
                                              refine aw_blk oX12_set_94 (pc' := 95) (ls' := [_, _, _, _, _]) (st' := [_, _, _]) (cs := []) rfl trivial ?_
                                              refine aw_ciS (rest := []) (c_X12_in (by omega) (by omega) (by omega)) kX12_in eX12_set_95 lX12_set_95 rfl rfl (Nat.le_of_ble_eq_true rfl) ⟨Nat.le_of_ble_eq_true rfl, Nat.le_of_ble_eq_true rfl⟩ ⟨Nat.le_refl _, Nat.le_refl _⟩ ?_
                                              refine aw_if_ne (tgt := 104) eX12_set_98 (by decide) bt_r (fun hh => have h356 := bt1 hh; ?_) (fun hh => have h356 := bt0 hh; ?_)
                                              · first
                                                | (exfalso; omega; done)
                                                | (refine aw_blk oX12_set_104 (pc' := 121) (ls' := [_, _, _, _, _]) (st' := [_]) (cs := [(_, _), (_, _)]) rfl (⟨⟨by omega, by omega⟩, ⟨by omega, by omega⟩, trivial⟩) ?_
                                                   refine aw_iret eX12_set_121 rfl (Nat.le_refl _) (Nat.le_refl _) ?_
                                                   exact pe_i rfl rfl rfl)
                                              · first
                                                | (exfalso; omega; done)
                                                | (refine aw_blk oX12_set_101 (pc' := 103) (ls' := [_, _, _, _, _]) (st' := [_]) (cs := []) rfl trivial ?_
                                                   refine aw_iret eX12_set_103 rfl (Nat.le_refl _) (Nat.le_refl _) ?_
                                                   exact pe_i rfl rfl rfl)))))
                          · first
                            | (exfalso; omega; done)
                            | (refine aw_blk oX12_set_48 (pc' := 76) (ls' := [_, _, _, _, _]) (st' := [_]) (cs := []) rfl trivial ?_
                               refine aw_blk oX12_set_76 (pc' := 80) (ls' := [_, _, _, _, _]) (st' := [_, _, _]) (cs := []) rfl trivial ?_
                               refine aw_icmp_eq (tgt := 89) eX12_set_80 (by decide) (by omega) (by omega) (fun h357 => ?_) (fun h357 => ?_)
                               · first
                                 | (exfalso; omega; done)
                                 | (refine aw_blk oX12_set_89 (pc' := 94) (ls' := [_, _, _, _, _]) (st' := [_, _]) (cs := []) rfl trivial ?_
                                    refine aw_blk oX12_set_94 (pc' := 95) (ls' := [_, _, _, _, _]) (st' := [_, _, _]) (cs := []) rfl trivial ?_
                                    refine aw_ciS (rest := []) (c_X12_in (by omega) (by omega) (by omega)) kX12_in eX12_set_95 lX12_set_95 rfl rfl (Nat.le_of_ble_eq_true rfl) ⟨Nat.le_of_ble_eq_true rfl, Nat.le_of_ble_eq_true rfl⟩ ⟨Nat.le_refl _, Nat.le_refl _⟩ ?_
                                    refine aw_if_ne (tgt := 104) eX12_set_98 (by decide) bt_r (fun hh => have h358 := bt1 hh; ?_) (fun hh => have h358 := bt0 hh; ?_)
                                    · first
                                      | (exfalso; omega; done)
                                      | (refine aw_blk oX12_set_104 (pc' := 121) (ls' := [_, _, _, _, _]) (st' := [_]) (cs := [(_, _), (_, _)]) rfl (⟨⟨by omega, by omega⟩, ⟨by omega, by omega⟩, trivial⟩) ?_
                                         refine aw_iret eX12_set_121 rfl (Nat.le_refl _) (Nat.le_refl _) ?_
                                         exact pe_i rfl rfl rfl)
                                    · first
                                      | (exfalso; omega; done)
                                      | (refine aw_blk oX12_set_101 (pc' := 103) (ls' := [_, _, _, _, _]) (st' := [_]) (cs := []) rfl trivial ?_
                                         refine aw_iret eX12_set_103 rfl (Nat.le_refl _) (Nat.le_refl _) ?_
                                         exact pe_i rfl rfl rfl))
                               · first
                                 | (exfalso; omega; done)
                                 | (refine aw_blk oX12_set_83 (pc' := 86) (ls' := [_, _, _, _, _]) (st' := [_, _, _]) (cs := []) rfl trivial ?_
                                    refine aw_icmp_ne (tgt := 93) eX12_set_86 (by decide) (by omega) (by omega) (fun h359 => ?_) (fun h359 => ?_)
                                    · first
                                      | (exfalso; omega; done)
                                      | (refine aw_blk oX12_set_93 (pc' := 94) (ls' := [_, _, _, _, _]) (st' := [_, _]) (cs := []) rfl trivial ?_
                                         refine aw_blk oX12_set_94 (pc' := 95) (ls' := [_, _, _, _, _]) (st' := [_, _, _]) (cs := []) rfl trivial ?_
                                         refine aw_ciS (rest := []) (c_X12_in (by omega) (by omega) (by omega)) kX12_in eX12_set_95 lX12_set_95 rfl rfl (Nat.le_of_ble_eq_true rfl) ⟨Nat.le_of_ble_eq_true rfl, Nat.le_of_ble_eq_true rfl⟩ ⟨Nat.le_refl _, Nat.le_refl _⟩ ?_
                                         refine aw_if_ne (tgt := 104) eX12_set_98 (by decide) bt_r (fun hh => have h360 := bt1 hh; ?_) (fun hh => have h360 := bt0 hh; ?_)
                                         · first
                                           | (exfalso; omega; done)
                                           | (refine aw_blk oX12_set_104 (pc' := 121) (ls' := [_, _, _, _, _]) (st' := [_]) (cs := [(_, _), (_, _)]) rfl (⟨⟨by omega, by omega⟩, ⟨by omega, by omega⟩, trivial⟩) ?_
                                              refine aw_iret eX12_set_121 rfl (Nat.le_refl _) (Nat.le_refl _) ?_
                                              exact pe_i rfl rfl rfl)
                                         · first
                                           | (exfalso; omega; done)
                                           | (refine aw_blk oX12_set_101 (pc' := 103) (ls' := [_, _, _, _, _]) (st' := [_]) (cs := []) rfl trivial ?_
                                              refine aw_iret eX12_set_103 rfl (Nat.le_refl _) (Nat.le_refl _) ?_
                                              exact pe_i rfl rfl rfl))
                                    · first
                                      | (exfalso; omega; done)
                                      | (refine aw_blk oX12_set_89 (pc' := 94) (ls' := [_, _, _, _, _]) (st' := [_, _]) (cs := []) rfl trivial ?_
                                         refine aw_blk oX12_set_94 (pc' := 95) (ls' := [_, _, _, _, _]) (st' := [_, _, _]) (cs := []) rfl trivial ?_
                                         refine aw_ciS (rest := []) (c_X12_in (by omega) (by omega) (by omega)) kX12_in eX12_set_95 lX12_set_95 rfl rfl (Nat.le_of_ble_eq_true rfl) ⟨Nat.le_of_ble_eq_true rfl, Nat.le_of_ble_eq_true rfl⟩ ⟨Nat.le_refl _, Nat.le_refl _⟩ ?_
                                         refine aw_if_ne (tgt := 104) eX12_set_98 (by decide) bt_r (fun hh => have h361 := bt1 hh; ?_) (fun hh => have h361 := bt0 hh; ?_)
                                         · first
                                           | (exfalso; omega; done)
                                           | (refine aw_blk oX12_set_104 (pc' := 121) (ls' := [_, _, _, _, _]) (st' := [_]) (cs := [(_, _), (_, _)]) rfl (⟨⟨by omega, by omega⟩, ⟨by omega, by omega⟩, trivial⟩) ?_
                                              refine aw_iret eX12_set_121 rfl (Nat.le_refl _) (Nat.le_refl _) ?_
                                              exact pe_i rfl rfl rfl)
                                         · first
                                           | (exfalso; omega; done)
                                           | (refine aw_blk oX12_set_101 (pc' := 103) (ls' := [_, _, _, _, _]) (st' := [_]) (cs := []) rfl trivial ?_
                                              refine aw_iret eX12_set_103 rfl (Nat.le_refl _) (Nat.le_refl _) ?_
                                              exact pe_i rfl rfl rfl)))))
                     · first
                       | (exfalso; omega; done)
                       | (refine aw_blk oX12_set_38 (pc' := 76) (ls' := [_, _, _, _, _]) (st' := [_]) (cs := []) rfl trivial ?_
                          refine aw_blk oX12_set_76 (pc' := 80) (ls' := [_, _, _, _, _]) (st' := [_, _, _]) (cs := []) rfl trivial ?_
                          refine aw_icmp_eq (tgt := 89) eX12_set_80 (by decide) (by omega) (by omega) (fun h362 => ?_) (fun h362 => ?_)
                          · first
                            | (exfalso; omega; done)
                            | (refine aw_blk oX12_set_89 (pc' := 94) (ls' := [_, _, _, _, _]) (st' := [_, _]) (cs := []) rfl trivial ?_
                               refine aw_blk oX12_set_94 (pc' := 95) (ls' := [_, _, _, _, _]) (st' := [_, _, _]) (cs := []) rfl trivial ?_
                               refine aw_ciS (rest := []) (c_X12_in (by omega) (by omega) (by omega)) kX12_in eX12_set_95 lX12_set_95 rfl rfl (Nat.le_of_ble_eq_true rfl) ⟨Nat.le_of_ble_eq_true rfl, Nat.le_of_ble_eq_true rfl⟩ ⟨Nat.le_refl _, Nat.le_refl _⟩ ?_
                               refine aw_if_ne (tgt := 104) eX12_set_98 (by decide) bt_r (fun hh => have h363 := bt1 hh; ?_) (fun hh => have h363 := bt0 hh; ?_)
                               · first
                                 | (exfalso; omega; done)
                                 | (refine aw_blk oX12_set_104 (pc' := 121) (ls' := [_, _, _, _, _]) (st' := [_]) (cs := [(_, _), (_, _)]) rfl (⟨⟨by omega, by omega⟩, ⟨by omega, by omega⟩, trivial⟩) ?_
                                    refine aw_iret eX12_set_121 rfl (Nat.le_refl _) (Nat.le_refl _) ?_
                                    exact pe_i rfl rfl rfl)
                               · first
                                 | (exfalso; omega; done)
                                 | (refine aw_blk oX12_set_101 (pc' := 103) (ls' := [_, _, _, _, _]) (st' := [_]) (cs := []) rfl trivial ?_
                                    refine aw_iret eX12_set_103 rfl (Nat.le_refl _) (Nat.le_refl _) ?_
                                    exact pe_i rfl rfl rfl))
                          · first
                            | (exfalso; omega; done)
                            | (refine aw_blk oX12_set_83 (pc' := 86) (ls' := [_, _, _, _, _]) (st' := [_, _, _]) (cs := []) rfl trivial ?_
                               refine aw_icmp_ne (tgt := 93) eX12_set_86 (by decide) (by omega) (by omega) (fun h364 => ?_) (fun h364 => ?_)
                               · first
                                 | (exfalso; omega; done)
                                 | (refine aw_blk oX12_set_93 (pc' := 94) (ls' := [_, _, _, _, _]) (st' := [_, _]) (cs := []) rfl trivial ?_
                                    refine aw_blk oX12_set_94 (pc' := 95) (ls' := [_, _, _, _, _]) (st' := [_, _, _]) (cs := []) rfl trivial ?_
                                    refine aw_ciS (rest := []) (c_X12_in (by omega) (by omega) (by omega)) kX12_in eX12_set_95 lX12_set_95 rfl rfl (Nat.le_of_ble_eq_true rfl) ⟨Nat.le_of_ble_eq_true rfl, Nat.le_of_ble_eq_true rfl⟩ ⟨Nat.le_refl _, Nat.le_refl _⟩ ?_
                                    refine aw_if_ne (tgt := 104) eX12_set_98 (by decide) bt_r (fun hh => have h365 := bt1 hh; ?_) (fun hh => have h365 := bt0 hh; ?_)
                                    · first
                                      | (exfalso; omega; done)
                                      | (refine aw_blk oX12_set_104 (pc' := 121) (ls' := [_, _, _, _, _]) (st' := [_]) (cs := [(_, _), (_, _)]) rfl (⟨⟨by omega, by omega⟩, ⟨by omega, by omega⟩, trivial⟩) ?_
                                         refine aw_iret eX12_set_121 rfl (Nat.le_refl _) (Nat.le_refl _) ?_
                                         exact pe_i rfl rfl rfl)
                                    · first
                                      | (exfalso; omega; done)
                                      | (refine aw_blk oX12_set_101 (pc' := 103) (ls' := [_, _, _, _, _]) (st' := [_]) (cs := []) rfl trivial ?_
                                         refine aw_iret eX12_set_103 rfl (Nat.le_refl _) (Nat.le_refl _) ?_
                                         exact pe_i rfl rfl rfl))
                               · first
                                 | (exfalso; omega; done)
                                 | (refine aw_blk oX12_set_89 (pc' := 94) (ls' := [_, _, _, _, _]) (st' := [_, _]) (cs := []) rfl trivial ?_
                                    refine aw_blk oX12_set_94 (pc' := 95) (ls' := [_, _, _, _, _]) (st' := [_, _, _]) (cs := []) rfl trivial ?_
                                    refine aw_ciS (rest := []) (c_X12_in (by omega) (by omega) (by omega)) kX12_in eX12_set_95 lX12_set_95 rfl rfl (Nat.le_of_ble_eq_true rfl) ⟨Nat.le_of_ble_eq_true rfl, Nat.le_of_ble_eq_true rfl⟩ ⟨Nat.le_refl _, Nat.le_refl _⟩ ?_
                                    refine aw_if_ne (tgt := 104) eX12_set_98 (by decide) bt_r (fun hh => have h366 := bt1 hh; ?_) (fun hh => have h366 := bt0 hh; ?_)
                                    · first
                                      | (exfalso; omega; done)
                                      | (refine aw_blk oX12_set_104 (pc' := 121) (ls' := [_, _, _, _, _]) (st' := [_]) (cs := [(_, _), (_, _)]) rfl (⟨⟨by omega, by omega⟩, ⟨by omega, by omega⟩, trivial⟩) ?_
                                         refine aw_iret eX12_set_121 rfl (Nat.le_refl _) (Nat.le_refl _) ?_
                                         exact pe_i rfl rfl rfl)
                                    · first
                                      | (exfalso; omega; done)
                                      | (refine aw_blk oX12_set_101 (pc' := 103) (ls' := [_, _, _, _, _]) (st' := [_]) (cs := []) rfl trivial ?_
                                         refine aw_iret eX12_set_103 rfl (Nat.le_refl _) (Nat.le_refl _) ?_
                                         exact pe_i rfl rfl rfl)))))
                · first
                  | (exfalso; omega; done)
                  | (refine aw_blk oX12_set_27 (pc' := 76) (ls' := [_, _, _, _, _]) (st' := [_]) (cs := []) rfl trivial ?_
                     refine aw_blk oX12_set_76 (pc' := 80) (ls' := [_, _, _, _, _]) (st' := [_, _, _]) (cs := []) rfl trivial ?_
                     refine aw_icmp_eq (tgt := 89) eX12_set_80 (by decide) (by omega) (by omega) (fun h367 => ?_) (fun h367 => ?_)
                     · first
                       | (exfalso; omega; done)
                       | (refine aw_blk oX12_set_89 (pc' := 94) (ls' := [_, _, _, _, _]) (st' := [_, _]) (cs := []) rfl trivial ?_
                          refine aw_blk oX12_set_94 (pc' := 95) (ls' := [_, _, _, _, _]) (st' := [_, _, _]) (cs := []) rfl trivial ?_
                          refine aw_ciS (rest := []) (c_X12_in (by omega) (by omega) (by omega)) kX12_in eX12_set_95 lX12_set_95 rfl rfl (Nat.le_of_ble_eq_true rfl) ⟨Nat.le_of_ble_eq_true rfl, Nat.le_of_ble_eq_true rfl⟩ ⟨Nat.le_refl _, Nat.le_refl _⟩ ?_
                          refine aw_if_ne (tgt := 104) eX12_set_98 (by decide) bt_r (fun hh => have h368 := bt1 hh; ?_) (fun hh => have h368 := bt0 hh; ?_)
                          · first
                            | (exfalso; omega; done)
                            | (refine aw_blk oX12_set_104 (pc' := 121) (ls' := [_, _, _, _, _]) (st' := [_]) (cs := [(_, _), (_, _)]) rfl (⟨⟨by omega, by omega⟩, ⟨by omega, by omega⟩, trivial⟩) ?_
                               refine aw_iret eX12_set_121 rfl (Nat.le_refl _) (Nat.le_refl _) ?_
                               exact pe_i rfl rfl rfl)
                          · first
                            | (exfalso; omega; done)
                            | (refine aw_blk oX12_set_101 (pc' := 103) (ls' := [_, _, _, _, _]) (st' := [_]) (cs := []) rfl trivial ?_
                               refine aw_iret eX12_set_103 rfl (Nat.le_refl _) (Nat.le_refl _) ?_
                               exact pe_i rfl rfl rfl))
                     · first
                       | (exfalso; omega; done)
                       | (refine aw_blk oX12_set_83 (pc' := 86) (ls' := [_, _, _, _, _]) (st' := [_, _, _]) (cs := []) rfl trivial ?_
                          refine aw_icmp_ne (tgt := 93) eX12_set_86 (by decide) (by omega) (by omega) (fun h369 => ?_) (fun h369 => ?_)
                          · first
                            | (exfalso; omega; done)
                            | (refine aw_blk oX12_set_93 (pc' := 94) (ls' := [_, _, _, _, _]) (st' := [_, _]) (cs := []) rfl trivial ?_
                               refine aw_blk oX12_set_94 (pc' := 95) (ls' := [_, _, _, _, _]) (st' := [_, _, _]) (cs := []) rfl trivial ?_
                               refine aw_ciS (rest := []) (c_X12_in (by omega) (by omega) (by omega)) kX12_in eX12_set_95 lX12_set_95 rfl rfl (Nat.le_of_ble_eq_true rfl) ⟨Nat.le_of_ble_eq_true rfl, Nat.le_of_ble_eq_true rfl⟩ ⟨Nat.le_refl _, Nat.le_refl _⟩ ?_
                               refine aw_if_ne (tgt := 104) eX12_set_98 (by decide) bt_r (fun hh => have h370 := bt1 hh; ?_) (fun hh => have h370 := bt0 hh; ?_)
                               · first
                                 | (exfalso; omega; done)
                                 | (refine aw_blk oX12_set_104 (pc' := 121) (ls' := [_, _, _, _, _]) (st' := [_]) (cs := [(_, _), (_, _)]) rfl (⟨⟨by omega, by omega⟩, ⟨by omega, by omega⟩, trivial⟩) ?_
                                    refine aw_iret eX12_set_121 rfl (Nat.le_refl _) (Nat.le_refl _) ?_
                                    exact pe_i rfl rfl rfl)
                               · first
                                 | (exfalso; omega; done)
                                 | (refine aw_blk oX12_set_101 (pc' := 103) (ls' := [_, _, _, _, _]) (st' := [_]) (cs := []) rfl trivial ?_
                                    refine aw_iret eX12_set_103 rfl (Nat.le_refl _) (Nat.le_refl _) ?_
                                    exact pe_i rfl rfl rfl))
                          · first
                            | (exfalso; omega; done)
                            | (refine aw_blk oX12_set_89 (pc' := 94) (ls' := [_, _, _, _, _]) (st' := [_, _]) (cs := []) rfl trivial ?_
                               refine aw_blk oX12_set_94 (pc' := 95) (ls' := [_, _, _, _, _]) (st' := [_, _, _]) (cs := []) rfl trivial ?_
                               refine aw_ciS (rest := []) (c_X12_in (by omega) (by omega) (by omega)) kX12_in eX12_set_95 lX12_set_95 rfl rfl (Nat.le_of_ble_eq_true rfl) ⟨Nat.le_of_ble_eq_true rfl, Nat.le_of_ble_eq_true rfl⟩ ⟨Nat.le_refl _, Nat.le_refl _⟩ ?_
                               refine aw_if_ne (tgt := 104) eX12_set_98 (by decide) bt_r (fun hh => have h371 := bt1 hh; ?_) (fun hh => have h371 := bt0 hh; ?_)
                               · first
                                 | (exfalso; omega; done)
                                 | (refine aw_blk oX12_set_104 (pc' := 121) (ls' := [_, _, _, _, _]) (st' := [_]) (cs := [(_, _), (_, _)]) rfl (⟨⟨by omega, by omega⟩, ⟨by omega, by omega⟩, trivial⟩) ?_
                                    refine aw_iret eX12_set_121 rfl (Nat.le_refl _) (Nat.le_refl _) ?_
                                    exact pe_i rfl rfl rfl)
                               · first
                                 | (exfalso; omega; done)
                                 | (refine aw_blk oX12_set_101 (pc' := 103) (ls' := [_, _, _, _, _]) (st' := [_]) (cs := []) rfl trivial ?_
                                    refine aw_iret eX12_set_103 rfl (Nat.le_refl _) (Nat.le_refl _) ?_
                                    exact pe_i rfl rfl rfl)))))
           · first
             | (exfalso; omega; done)
             | (refine aw_blk oX12_set_17 (pc' := 76) (ls' := [_, _, _, _, _]) (st' := [_]) (cs := []) rfl trivial ?_
                refine aw_blk oX12_set_76 (pc' := 80) (ls' := [_, _, _, _, _]) (st' := [_, _, _]) (cs := []) rfl trivial ?_
                refine aw_icmp_eq (tgt := 89) eX12_set_80 (by decide) (by omega) (by omega) (fun h372 => ?_) (fun h372 => ?_)
                · first
                  | (exfalso; omega; done)
                  | (refine aw_blk oX12_set_89 (pc' := 94) (ls' := [_, _, _, _, _]) (st' := [_, _]) (cs := []) rfl trivial ?_
                     refine aw_blk oX12_set_94 (pc' := 95) (ls' := [_, _, _, _, _]) (st' := [_, _, _]) (cs := []) rfl trivial ?_
                     refine aw_ciS (rest := []) (c_X12_in (by omega) (by omega) (by omega)) kX12_in eX12_set_95 lX12_set_95 rfl rfl (Nat.le_of_ble_eq_true rfl) ⟨Nat.le_of_ble_eq_true rfl, Nat.le_of_ble_eq_true rfl⟩ ⟨Nat.le_refl _, Nat.le_refl _⟩ ?_
                     refine aw_if_ne (tgt := 104) eX12_set_98 (by decide) bt_r (fun hh => have h373 := bt1 hh; ?_) (fun hh => have h373 := bt0 hh; ?_)
                     · first
                       | (exfalso; omega; done)
                       | (refine aw_blk oX12_set_104 (pc' := 121) (ls' := [_, _, _, _, _]) (st' := [_]) (cs := [(_, _), (_, _)]) rfl (⟨⟨by omega, by omega⟩, ⟨by omega, by omega⟩, trivial⟩) ?_
                          refine aw_iret eX12_set_121 rfl (Nat.le_refl _) (Nat.le_refl _) ?_
                          exact pe_i rfl rfl rfl)
                     · first
                       | (exfalso; omega; done)
                       | (refine aw_blk oX12_set_101 (pc' := 103) (ls' := [_, _, _, _, _]) (st' := [_]) (cs := []) rfl trivial ?_
                          refine aw_iret eX12_set_103 rfl (Nat.le_refl _) (Nat.le_refl _) ?_
                          exact pe_i rfl rfl rfl))
                · first
                  | (exfalso; omega; done)
                  | (refine aw_blk oX12_set_83 (pc' := 86) (ls' := [_, _, _, _, _]) (st' := [_, _, _]) (cs := []) rfl trivial ?_
                     refine aw_icmp_ne (tgt := 93) eX12_set_86 (by decide) (by omega) (by omega) (fun h374 => ?_) (fun h374 => ?_)
                     · first
                       | (exfalso; omega; done)
                       | (refine aw_blk oX12_set_93 (pc' := 94) (ls' := [_, _, _, _, _]) (st' := [_, _]) (cs := []) rfl trivial ?_
                          refine aw_blk oX12_set_94 (pc' := 95) (ls' := [_, _, _, _, _]) (st' := [_, _, _]) (cs := []) rfl trivial ?_
                          refine aw_ciS (rest := []) (c_X12_in (by omega) (by omega) (by omega)) kX12_in eX12_set_95 lX12_set_95 rfl rfl (Nat.le_of_ble_eq_true rfl) ⟨Nat.le_of_ble_eq_true rfl, Nat.le_of_ble_eq_true rfl⟩ ⟨Nat.le_refl _, Nat.le_refl _⟩ ?_
                          refine aw_if_ne (tgt := 104) eX12_set_98 (by decide) bt_r (fun hh => have h375 := bt1 hh; ?_) (fun hh => have h375 := bt0 hh; ?_)
                          · first
                            | (exfalso; omega; done)
                            | (refine aw_blk oX12_set_104 (pc' := 121) (ls' := [_, _, _, _, _]) (st' := [_]) (cs := [(_, _), (_, _)]) rfl (⟨⟨by omega, by omega⟩, ⟨by omega, by omega⟩, trivial⟩) ?_
                               refine aw_iret eX12_set_121 rfl (Nat.le_refl _) (Nat.le_refl _) ?_
                               exact pe_i rfl rfl rfl)
                          · first
                            | (exfalso; omega; done)
                            | (refine aw_blk oX12_set_101 (pc' := 103) (ls' := [_, _, _, _, _]) (st' := [_]) (cs := []) rfl trivial ?_
                               refine aw_iret eX12_set_103 rfl (Nat.le_refl _) (Nat.le_refl _) ?_
                               exact pe_i rfl rfl rfl))
                     · first
                       | (exfalso; omega; done)
                       | (refine aw_blk oX12_set_89 (pc' := 94) (ls' := [_, _, _, _, _]) (st' := [_, _]) (cs := []) rfl trivial ?_
                          refine aw_blk oX12_set_94 (pc' := 95) (ls' := [_, _, _, _, _]) (st' := [_, _, _]) (cs := []) rfl trivial ?_
                          refine aw_ciS (rest := []) (c_X12_in (by omega) (by omega) (by omega)) kX12_in eX12_set_95 lX12_set_95 rfl rfl (Nat.le_of_ble_eq_true rfl) ⟨Nat.le_of_ble_eq_true rfl, Nat.le_of_ble_eq_true rfl⟩ ⟨Nat.le_refl _, Nat.le_refl _⟩ ?_
                          refine aw_if_ne (tgt := 104) eX12_set_98 (by decide) bt_r (fun hh => have h376 := bt1 hh; ?_) (fun hh => have h376 := bt0 hh; ?_)
                          · first
                            | (exfalso; omega; done)
                            | (refine aw_blk oX12_set_104 (pc' := 121) (ls' := [_, _, _, _, _]) (st' := [_]) (cs := [(_, _), (_, _)]) rfl (⟨⟨by omega, by omega⟩, ⟨by omega, by omega⟩, trivial⟩) ?_
                               refine aw_iret eX12_set_121 rfl (Nat.le_refl _) (Nat.le_refl _) ?_
                               exact pe_i rfl rfl rfl)
                          · first
                            | (exfalso; omega; done)
                            | (refine aw_blk oX12_set_101 (pc' := 103) (ls' := [_, _, _, _, _]) (st' := [_]) (cs := []) rfl trivial ?_
                               refine aw_iret eX12_set_103 rfl (Nat.le_refl _) (Nat.le_refl _) ?_
                               exact pe_i rfl rfl rfl)))))
      · first
        | (exfalso; omega; done)
        | (refine aw_blk oX12_set_10 (pc' := 12) (ls' := [_, _, _, _, _]) (st' := [_]) (cs := []) rfl trivial ?_
           refine aw_iret eX12_set_12 rfl (Nat.le_refl _) (Nat.le_refl _) ?_
           exact pe_i rfl rfl rfl)
theorem set_4 {κ : KX} {μ : MM} {ν : ML} {v : Int} (h : RS μ) (hc : 0 ≤ μ 2 8 ∧ μ 2 8 ≤ 10) (hv : R32 v) : LawT κ mX11_set mX12_set [aI 4, aI v] μ ν := by
  have s := h 4 (by decide) (by decide)
  have v0 : stv 0 4 = 0 := rfl
  have l0 : ((stA 0).length : Int) = 7 := rfl
  have l1 : ((stA 1).length : Int) = 7 := rfl
  have v1 : stv 1 4 = 60 := rfl
  have hc' : R32 (up μ 1 4 v 2 8) := (by omega : R32 (μ 2 8))
  by_cases c1 : 0 ≤ v ∧ v ≤ 60
  · refine ⟨μ 1 4, up μ 1 4 v, ν, up (up μ 1 4 v) 58 4 v, ?_, ?_, by omega, rfl, Or.inr ⟨?_, ?_, ?_, ?_, ?_⟩⟩
    · refine AMet.of kX11_set.1 (Nat.le_of_ble_eq_true rfl) rfl ?_
      refine aw_blk oX11_set_0 (pc' := 4) (ls' := [_, _, _, _]) (st' := [_, _, _]) (cs := []) rfl trivial ?_
      refine aw_ciS (rest := []) (c_X11_between (by omega) (by omega) (by omega)) kX11_between eX11_set_4 lX11_set_4 rfl rfl (Nat.le_of_ble_eq_true rfl) ⟨Nat.le_of_ble_eq_true rfl, Nat.le_of_ble_eq_true rfl⟩ ⟨Nat.le_refl _, Nat.le_refl _⟩ ?_
      refine aw_if_eq (tgt := 27) eX11_set_7 (by decide) bt_r (fun hh => have h377 := bt0 hh; ?_) (fun hh => have h377 := bt1 hh; ?_)
      · first
        | (exfalso; omega; done)
        | (refine aw_blk oX11_set_27 (pc' := 29) (ls' := [_, _, _, _]) (st' := [_]) (cs := []) rfl trivial ?_
           refine aw_iret eX11_set_29 rfl (Nat.le_refl _) (Nat.le_refl _) ?_
           exact pe_i rfl rfl rfl)
      · first
        | (exfalso; omega; done)
        | (refine aw_blk oX11_set_10 (pc' := 21) (ls' := [_, _, _, _]) (st' := [_, _, _]) (cs := [(_, _), (_, _)]) rfl (⟨⟨by omega, by omega⟩, ⟨by omega, by omega⟩, trivial⟩) ?_
           refine aw_ciS (rest := []) (c_X11_between (by omega) (by omega) (by omega)) kX11_between eX11_set_21 lX11_set_21 rfl rfl (Nat.le_of_ble_eq_true rfl) ⟨Nat.le_of_ble_eq_true rfl, Nat.le_of_ble_eq_true rfl⟩ ⟨Nat.le_refl _, Nat.le_refl _⟩ ?_
           refine aw_if_ne (tgt := 30) eX11_set_24 (by decide) bt_r (fun hh => have h378 := bt1 hh; ?_) (fun hh => have h378 := bt0 hh; ?_)
           · first
             | (exfalso; omega; done)
             | (refine aw_blk oX11_set_30 (pc' := 45) (ls' := [_, _, _, _]) (st' := [_]) (cs := [(_, _), (_, _)]) rfl (⟨⟨by omega, by omega⟩, ⟨by omega, by omega⟩, trivial⟩) ?_
                refine aw_if_ne (tgt := 56) eX11_set_45 (by decide) (by omega) (fun h379 => ?_) (fun h379 => ?_)
                · first
                  | (exfalso; omega; done)
                  | (refine aw_blk oX11_set_56 (pc' := 58) (ls' := [_, _, _, _]) (st' := [_, _]) (cs := []) rfl trivial ?_
                     refine aw_icmp_ne (tgt := 65) eX11_set_58 (by decide) (by omega) (by omega) (fun h380 => ?_) (fun h380 => ?_)
                     · first
                       | (exfalso; omega; done)
                       | (refine aw_blk oX11_set_65 (pc' := 66) (ls' := [_, _, _, _]) (st' := [_]) (cs := []) rfl trivial ?_
                          refine aw_iret eX11_set_66 rfl (Nat.le_refl _) (Nat.le_refl _) ?_
                          exact pe_i rfl rfl rfl)
                     · first
                       | (exfalso; omega; done)
                       | (refine aw_blk oX11_set_61 (pc' := 62) (ls' := [_, _, _, _]) (st' := [_]) (cs := []) rfl trivial ?_
                          refine aw_cvV (rest := []) (c_forget) kX11_forgetShows eX11_set_62 lX11_set_62 rfl rfl rfl rfl (Nat.le_of_ble_eq_true rfl) ⟨Nat.le_of_ble_eq_true rfl, Nat.le_of_ble_eq_true rfl⟩ ⟨Nat.le_refl _, Nat.le_refl _⟩ ?_
                          refine aw_blk oX11_set_65 (pc' := 66) (ls' := [_, _, _, _]) (st' := [_]) (cs := []) rfl trivial ?_
                          refine aw_iret eX11_set_66 rfl (Nat.le_refl _) (Nat.le_refl _) ?_
                          exact pe_i rfl rfl rfl))
                · first
                  | (exfalso; omega; done)
                  | (refine aw_blk oX11_set_48 (pc' := 53) (ls' := [_, _, _, _]) (st' := [_, _]) (cs := []) rfl trivial ?_
                     refine aw_cvV (rest := []) (c_forgetCuts (by omega) (by omega)) kX3_forgetCutsFrom eX11_set_53 lX11_set_53 rfl rfl rfl rfl (Nat.le_of_ble_eq_true rfl) ⟨Nat.le_of_ble_eq_true rfl, Nat.le_of_ble_eq_true rfl⟩ ⟨Nat.le_refl _, Nat.le_refl _⟩ ?_
                     refine aw_blk oX11_set_56 (pc' := 58) (ls' := [_, _, _, _]) (st' := [_, _]) (cs := []) rfl trivial ?_
                     refine aw_icmp_ne (tgt := 65) eX11_set_58 (by decide) (by omega) (by omega) (fun h381 => ?_) (fun h381 => ?_)
                     · first
                       | (exfalso; omega; done)
                       | (refine aw_blk oX11_set_65 (pc' := 66) (ls' := [_, _, _, _]) (st' := [_]) (cs := []) rfl trivial ?_
                          refine aw_iret eX11_set_66 rfl (Nat.le_refl _) (Nat.le_refl _) ?_
                          exact pe_i rfl rfl rfl)
                     · first
                       | (exfalso; omega; done)
                       | (refine aw_blk oX11_set_61 (pc' := 62) (ls' := [_, _, _, _]) (st' := [_]) (cs := []) rfl trivial ?_
                          refine aw_cvV (rest := []) (c_forget) kX11_forgetShows eX11_set_62 lX11_set_62 rfl rfl rfl rfl (Nat.le_of_ble_eq_true rfl) ⟨Nat.le_of_ble_eq_true rfl, Nat.le_of_ble_eq_true rfl⟩ ⟨Nat.le_refl _, Nat.le_refl _⟩ ?_
                          refine aw_blk oX11_set_65 (pc' := 66) (ls' := [_, _, _, _]) (st' := [_]) (cs := []) rfl trivial ?_
                          refine aw_iret eX11_set_66 rfl (Nat.le_refl _) (Nat.le_refl _) ?_
                          exact pe_i rfl rfl rfl)))
           · first
             | (exfalso; omega; done)
             | (refine aw_blk oX11_set_27 (pc' := 29) (ls' := [_, _, _, _]) (st' := [_]) (cs := []) rfl trivial ?_
                refine aw_iret eX11_set_29 rfl (Nat.le_refl _) (Nat.le_refl _) ?_
                exact pe_i rfl rfl rfl))
    · refine AMet.of kX12_set.1 (Nat.le_of_ble_eq_true rfl) rfl ?_
      refine aw_blk oX12_set_0 (pc' := 4) (ls' := [_, _, _, _, _]) (st' := [_, _, _]) (cs := []) rfl trivial ?_
      refine aw_ciS (rest := []) (c_X12_in (by omega) (by omega) (by omega)) kX12_in eX12_set_4 lX12_set_4 rfl rfl (Nat.le_of_ble_eq_true rfl) ⟨Nat.le_of_ble_eq_true rfl, Nat.le_of_ble_eq_true rfl⟩ ⟨Nat.le_refl _, Nat.le_refl _⟩ ?_
      refine aw_if_ne (tgt := 13) eX12_set_7 (by decide) bt_r (fun hh => have h382 := bt1 hh; ?_) (fun hh => have h382 := bt0 hh; ?_)
      · first
        | (exfalso; omega; done)
        | (refine aw_blk oX12_set_13 (pc' := 14) (ls' := [_, _, _, _, _]) (st' := [_]) (cs := []) rfl trivial ?_
           refine aw_if_ne (tgt := 22) eX12_set_14 (by decide) (by omega) (fun h383 => ?_) (fun h383 => ?_)
           · first
             | (exfalso; omega; done)
             | (refine aw_blk oX12_set_22 (pc' := 24) (ls' := [_, _, _, _, _]) (st' := [_, _]) (cs := []) rfl trivial ?_
                refine aw_icmp_ne (tgt := 33) eX12_set_24 (by decide) (by omega) (by omega) (fun h384 => ?_) (fun h384 => ?_)
                · first
                  | (exfalso; omega; done)
                  | (refine aw_blk oX12_set_33 (pc' := 35) (ls' := [_, _, _, _, _]) (st' := [_, _]) (cs := []) rfl trivial ?_
                     refine aw_icmp_ne (tgt := 43) eX12_set_35 (by decide) (by omega) (by omega) (fun h385 => ?_) (fun h385 => ?_)
                     · first
                       | (exfalso; omega; done)
                       | (refine aw_blk oX12_set_43 (pc' := 45) (ls' := [_, _, _, _, _]) (st' := [_, _]) (cs := []) rfl trivial ?_
                          refine aw_icmp_ne (tgt := 53) eX12_set_45 (by decide) (by omega) (by omega) (fun h386 => ?_) (fun h386 => ?_)
                          · first
                            | (exfalso; omega; done)
                            | (refine aw_blk oX12_set_53 (pc' := 55) (ls' := [_, _, _, _, _]) (st' := [_, _]) (cs := []) rfl trivial ?_
                               refine aw_icmp_ne (tgt := 63) eX12_set_55 (by decide) (by omega) (by omega) (fun h387 => ?_) (fun h387 => ?_)
                               · first
                                 | (exfalso; omega; done)
                                 | (refine aw_blk oX12_set_63 (pc' := 65) (ls' := [_, _, _, _, _]) (st' := [_, _]) (cs := []) rfl trivial ?_
                                    refine aw_icmp_ne (tgt := 74) eX12_set_65 (by decide) (by omega) (by omega) (fun h388 => ?_) (fun h388 => ?_)
                                    · first
                                      | (exfalso; omega; done)
                                      | (refine aw_blk oX12_set_74 (pc' := 76) (ls' := [_, _, _, _, _]) (st' := [_]) (cs := []) rfl trivial ?_
                                         refine aw_blk oX12_set_76 (pc' := 80) (ls' := [_, _, _, _, _]) (st' := [_, _, _]) (cs := []) rfl trivial ?_
                                         refine aw_icmp_eq (tgt := 89) eX12_set_80 (by decide) (by omega) (by omega) (fun h389 => ?_) (fun h389 => ?_)
                                         · first
                                           | (exfalso; omega; done)
                                           | (refine aw_blk oX12_set_89 (pc' := 94) (ls' := [_, _, _, _, _]) (st' := [_, _]) (cs := []) rfl trivial ?_
                                              refine aw_blk oX12_set_94 (pc' := 95) (ls' := [_, _, _, _, _]) (st' := [_, _, _]) (cs := []) rfl trivial ?_
                                              refine aw_ciS (rest := []) (c_X12_in (by omega) (by omega) (by omega)) kX12_in eX12_set_95 lX12_set_95 rfl rfl (Nat.le_of_ble_eq_true rfl) ⟨Nat.le_of_ble_eq_true rfl, Nat.le_of_ble_eq_true rfl⟩ ⟨Nat.le_refl _, Nat.le_refl _⟩ ?_
                                              refine aw_if_ne (tgt := 104) eX12_set_98 (by decide) bt_r (fun hh => have h390 := bt1 hh; ?_) (fun hh => have h390 := bt0 hh; ?_)
                                              · first
                                                | (exfalso; omega; done)
                                                | (refine aw_blk oX12_set_104 (pc' := 121) (ls' := [_, _, _, _, _]) (st' := [_]) (cs := [(_, _), (_, _)]) rfl (⟨⟨by omega, by omega⟩, ⟨by omega, by omega⟩, trivial⟩) ?_
                                                   refine aw_iret eX12_set_121 rfl (Nat.le_refl _) (Nat.le_refl _) ?_
                                                   exact pe_i s.1 rfl rfl)
                                              · first
                                                | (exfalso; omega; done)
                                                | (refine aw_blk oX12_set_101 (pc' := 103) (ls' := [_, _, _, _, _]) (st' := [_]) (cs := []) rfl trivial ?_
                                                   refine aw_iret eX12_set_103 rfl (Nat.le_refl _) (Nat.le_refl _) ?_
                                                   exact pe_i s.1 rfl rfl))
                                         · first
                                           | (exfalso; omega; done)
                                           | (refine aw_blk oX12_set_83 (pc' := 86) (ls' := [_, _, _, _, _]) (st' := [_, _, _]) (cs := []) rfl trivial ?_
                                              refine aw_icmp_ne (tgt := 93) eX12_set_86 (by decide) (by omega) (by omega) (fun h391 => ?_) (fun h391 => ?_)
                                              · first
                                                | (exfalso; omega; done)
                                                | (refine aw_blk oX12_set_93 (pc' := 94) (ls' := [_, _, _, _, _]) (st' := [_, _]) (cs := []) rfl trivial ?_
                                                   refine aw_blk oX12_set_94 (pc' := 95) (ls' := [_, _, _, _, _]) (st' := [_, _, _]) (cs := []) rfl trivial ?_
                                                   refine aw_ciS (rest := []) (c_X12_in (by omega) (by omega) (by omega)) kX12_in eX12_set_95 lX12_set_95 rfl rfl (Nat.le_of_ble_eq_true rfl) ⟨Nat.le_of_ble_eq_true rfl, Nat.le_of_ble_eq_true rfl⟩ ⟨Nat.le_refl _, Nat.le_refl _⟩ ?_
                                                   refine aw_if_ne (tgt := 104) eX12_set_98 (by decide) bt_r (fun hh => have h392 := bt1 hh; ?_) (fun hh => have h392 := bt0 hh; ?_)
                                                   · first
                                                     | (exfalso; omega; done)
                                                     | (refine aw_blk oX12_set_104 (pc' := 121) (ls' := [_, _, _, _, _]) (st' := [_]) (cs := [(_, _), (_, _)]) rfl (⟨⟨by omega, by omega⟩, ⟨by omega, by omega⟩, trivial⟩) ?_
                                                        refine aw_iret eX12_set_121 rfl (Nat.le_refl _) (Nat.le_refl _) ?_
                                                        exact pe_i s.1 rfl rfl)
                                                   · first
                                                     | (exfalso; omega; done)
                                                     | (refine aw_blk oX12_set_101 (pc' := 103) (ls' := [_, _, _, _, _]) (st' := [_]) (cs := []) rfl trivial ?_
                                                        refine aw_iret eX12_set_103 rfl (Nat.le_refl _) (Nat.le_refl _) ?_
                                                        exact pe_i s.1 rfl rfl))
                                              · first
                                                | (exfalso; omega; done)
                                                | (refine aw_blk oX12_set_89 (pc' := 94) (ls' := [_, _, _, _, _]) (st' := [_, _]) (cs := []) rfl trivial ?_
                                                   refine aw_blk oX12_set_94 (pc' := 95) (ls' := [_, _, _, _, _]) (st' := [_, _, _]) (cs := []) rfl trivial ?_
                                                   refine aw_ciS (rest := []) (c_X12_in (by omega) (by omega) (by omega)) kX12_in eX12_set_95 lX12_set_95 rfl rfl (Nat.le_of_ble_eq_true rfl) ⟨Nat.le_of_ble_eq_true rfl, Nat.le_of_ble_eq_true rfl⟩ ⟨Nat.le_refl _, Nat.le_refl _⟩ ?_
                                                   refine aw_if_ne (tgt := 104) eX12_set_98 (by decide) bt_r (fun hh => have h393 := bt1 hh; ?_) (fun hh => have h393 := bt0 hh; ?_)
                                                   · first
                                                     | (exfalso; omega; done)
                                                     | (refine aw_blk oX12_set_104 (pc' := 121) (ls' := [_, _, _, _, _]) (st' := [_]) (cs := [(_, _), (_, _)]) rfl (⟨⟨by omega, by omega⟩, ⟨by omega, by omega⟩, trivial⟩) ?_
                                                        refine aw_iret eX12_set_121 rfl (Nat.le_refl _) (Nat.le_refl _) ?_
                                                        exact pe_i s.1 rfl rfl)
                                                   · first
                                                     | (exfalso; omega; done)
                                                     | (refine aw_blk oX12_set_101 (pc' := 103) (ls' := [_, _, _, _, _]) (st' := [_]) (cs := []) rfl trivial ?_
                                                        refine aw_iret eX12_set_103 rfl (Nat.le_refl _) (Nat.le_refl _) ?_
                                                        exact pe_i s.1 rfl rfl))))
                                    · first
                                      | (exfalso; omega; done)
                                      | (refine aw_blk oX12_set_68 (pc' := 76) (ls' := [_, _, _, _, _]) (st' := [_]) (cs := []) rfl trivial ?_
                                         refine aw_blk oX12_set_76 (pc' := 80) (ls' := [_, _, _, _, _]) (st' := [_, _, _]) (cs := []) rfl trivial ?_
                                         refine aw_icmp_eq (tgt := 89) eX12_set_80 (by decide) (by omega) (by omega) (fun h394 => ?_) (fun h394 => ?_)
                                         · first
                                           | (exfalso; omega; done)
                                           | (refine aw_blk oX12_set_89 (pc' := 94) (ls' := [_, _, _, _, _]) (st' := [_, _]) (cs := []) rfl trivial ?_
                                              refine aw_blk oX12_set_94 (pc' := 95) (ls' := [_, _, _, _, _]) (st' := [_, _, _]) (cs := []) rfl trivial ?_
                                              refine aw_ciS (rest := []) (c_X12_in (by omega) (by omega) (by omega)) kX12_in eX12_set_95 lX12_set_95 rfl rfl (Nat.le_of_ble_eq_true rfl) ⟨Nat.le_of_ble_eq_true rfl, Nat.le_of_ble_eq_true rfl⟩ ⟨Nat.le_refl _, Nat.le_refl _⟩ ?_
                                              refine aw_if_ne (tgt := 104) eX12_set_98 (by decide) bt_r (fun hh => have h395 := bt1 hh; ?_) (fun hh => have h395 := bt0 hh; ?_)
                                              · first
                                                | (exfalso; omega; done)
                                                | (refine aw_blk oX12_set_104 (pc' := 121) (ls' := [_, _, _, _, _]) (st' := [_]) (cs := [(_, _), (_, _)]) rfl (⟨⟨by omega, by omega⟩, ⟨by omega, by omega⟩, trivial⟩) ?_
                                                   refine aw_iret eX12_set_121 rfl (Nat.le_refl _) (Nat.le_refl _) ?_
                                                   exact pe_i s.1 rfl rfl)
                                              · first
                                                | (exfalso; omega; done)
                                                | (refine aw_blk oX12_set_101 (pc' := 103) (ls' := [_, _, _, _, _]) (st' := [_]) (cs := []) rfl trivial ?_
                                                   refine aw_iret eX12_set_103 rfl (Nat.le_refl _) (Nat.le_refl _) ?_
                                                   exact pe_i s.1 rfl rfl))
                                         · first
                                           | (exfalso; omega; done)
                                           | (refine aw_blk oX12_set_83 (pc' := 86) (ls' := [_, _, _, _, _]) (st' := [_, _, _]) (cs := []) rfl trivial ?_
                                              refine aw_icmp_ne (tgt := 93) eX12_set_86 (by decide) (by omega) (by omega) (fun h396 => ?_) (fun h396 => ?_)
                                              · first
                                                | (exfalso; omega; done)
                                                | (refine aw_blk oX12_set_93 (pc' := 94) (ls' := [_, _, _, _, _]) (st' := [_, _]) (cs := []) rfl trivial ?_
                                                   refine aw_blk oX12_set_94 (pc' := 95) (ls' := [_, _, _, _, _]) (st' := [_, _, _]) (cs := []) rfl trivial ?_
                                                   refine aw_ciS (rest := []) (c_X12_in (by omega) (by omega) (by omega)) kX12_in eX12_set_95 lX12_set_95 rfl rfl (Nat.le_of_ble_eq_true rfl) ⟨Nat.le_of_ble_eq_true rfl, Nat.le_of_ble_eq_true rfl⟩ ⟨Nat.le_refl _, Nat.le_refl _⟩ ?_
                                                   refine aw_if_ne (tgt := 104) eX12_set_98 (by decide) bt_r (fun hh => have h397 := bt1 hh; ?_) (fun hh => have h397 := bt0 hh; ?_)
                                                   · first
                                                     | (exfalso; omega; done)
                                                     | (refine aw_blk oX12_set_104 (pc' := 121) (ls' := [_, _, _, _, _]) (st' := [_]) (cs := [(_, _), (_, _)]) rfl (⟨⟨by omega, by omega⟩, ⟨by omega, by omega⟩, trivial⟩) ?_
                                                        refine aw_iret eX12_set_121 rfl (Nat.le_refl _) (Nat.le_refl _) ?_
                                                        exact pe_i s.1 rfl rfl)
                                                   · first
                                                     | (exfalso; omega; done)
                                                     | (refine aw_blk oX12_set_101 (pc' := 103) (ls' := [_, _, _, _, _]) (st' := [_]) (cs := []) rfl trivial ?_
                                                        refine aw_iret eX12_set_103 rfl (Nat.le_refl _) (Nat.le_refl _) ?_
                                                        exact pe_i s.1 rfl rfl))
                                              · first
                                                | (exfalso; omega; done)
                                                | (refine aw_blk oX12_set_89 (pc' := 94) (ls' := [_, _, _, _, _]) (st' := [_, _]) (cs := []) rfl trivial ?_
                                                   refine aw_blk oX12_set_94 (pc' := 95) (ls' := [_, _, _, _, _]) (st' := [_, _, _]) (cs := []) rfl trivial ?_
                                                   refine aw_ciS (rest := []) (c_X12_in (by omega) (by omega) (by omega)) kX12_in eX12_set_95 lX12_set_95 rfl rfl (Nat.le_of_ble_eq_true rfl) ⟨Nat.le_of_ble_eq_true rfl, Nat.le_of_ble_eq_true rfl⟩ ⟨Nat.le_refl _, Nat.le_refl _⟩ ?_
                                                   refine aw_if_ne (tgt := 104) eX12_set_98 (by decide) bt_r (fun hh => have h398 := bt1 hh; ?_) (fun hh => have h398 := bt0 hh; ?_)
                                                   · first
                                                     | (exfalso; omega; done)
                                                     | (refine aw_blk oX12_set_104 (pc' := 121) (ls' := [_, _, _, _, _]) (st' := [_]) (cs := [(_, _), (_, _)]) rfl (⟨⟨by omega, by omega⟩, ⟨by omega, by omega⟩, trivial⟩) ?_
                                                        refine aw_iret eX12_set_121 rfl (Nat.le_refl _) (Nat.le_refl _) ?_
                                                        exact pe_i s.1 rfl rfl)
                                                   · first
                                                     | (exfalso; omega; done)
                                                     | (refine aw_blk oX12_set_101 (pc' := 103) (ls' := [_, _, _, _, _]) (st' := [_]) (cs := []) rfl trivial ?_
                                                        refine aw_iret eX12_set_103 rfl (Nat.le_refl _) (Nat.le_refl _) ?_
                                                        exact pe_i s.1 rfl rfl)))))
                               · first
                                 | (exfalso; omega; done)
                                 | (refine aw_blk oX12_set_58 (pc' := 76) (ls' := [_, _, _, _, _]) (st' := [_]) (cs := []) rfl trivial ?_
                                    refine aw_blk oX12_set_76 (pc' := 80) (ls' := [_, _, _, _, _]) (st' := [_, _, _]) (cs := []) rfl trivial ?_
                                    refine aw_icmp_eq (tgt := 89) eX12_set_80 (by decide) (by omega) (by omega) (fun h399 => ?_) (fun h399 => ?_)
                                    · first
                                      | (exfalso; omega; done)
                                      | (refine aw_blk oX12_set_89 (pc' := 94) (ls' := [_, _, _, _, _]) (st' := [_, _]) (cs := []) rfl trivial ?_
                                         refine aw_blk oX12_set_94 (pc' := 95) (ls' := [_, _, _, _, _]) (st' := [_, _, _]) (cs := []) rfl trivial ?_
                                         refine aw_ciS (rest := []) (c_X12_in (by omega) (by omega) (by omega)) kX12_in eX12_set_95 lX12_set_95 rfl rfl (Nat.le_of_ble_eq_true rfl) ⟨Nat.le_of_ble_eq_true rfl, Nat.le_of_ble_eq_true rfl⟩ ⟨Nat.le_refl _, Nat.le_refl _⟩ ?_
                                         refine aw_if_ne (tgt := 104) eX12_set_98 (by decide) bt_r (fun hh => have h400 := bt1 hh; ?_) (fun hh => have h400 := bt0 hh; ?_)
                                         · first
                                           | (exfalso; omega; done)
                                           | (refine aw_blk oX12_set_104 (pc' := 121) (ls' := [_, _, _, _, _]) (st' := [_]) (cs := [(_, _), (_, _)]) rfl (⟨⟨by omega, by omega⟩, ⟨by omega, by omega⟩, trivial⟩) ?_
                                              refine aw_iret eX12_set_121 rfl (Nat.le_refl _) (Nat.le_refl _) ?_
                                              exact pe_i s.1 rfl rfl)
                                         · first
                                           | (exfalso; omega; done)
                                           | (refine aw_blk oX12_set_101 (pc' := 103) (ls' := [_, _, _, _, _]) (st' := [_]) (cs := []) rfl trivial ?_
                                              refine aw_iret eX12_set_103 rfl (Nat.le_refl _) (Nat.le_refl _) ?_
                                              exact pe_i s.1 rfl rfl))
                                    · first
                                      | (exfalso; omega; done)
                                      | (refine aw_blk oX12_set_83 (pc' := 86) (ls' := [_, _, _, _, _]) (st' := [_, _, _]) (cs := []) rfl trivial ?_
                                         refine aw_icmp_ne (tgt := 93) eX12_set_86 (by decide) (by omega) (by omega) (fun h401 => ?_) (fun h401 => ?_)
                                         · first
                                           | (exfalso; omega; done)
                                           | (refine aw_blk oX12_set_93 (pc' := 94) (ls' := [_, _, _, _, _]) (st' := [_, _]) (cs := []) rfl trivial ?_
                                              refine aw_blk oX12_set_94 (pc' := 95) (ls' := [_, _, _, _, _]) (st' := [_, _, _]) (cs := []) rfl trivial ?_
                                              refine aw_ciS (rest := []) (c_X12_in (by omega) (by omega) (by omega)) kX12_in eX12_set_95 lX12_set_95 rfl rfl (Nat.le_of_ble_eq_true rfl) ⟨Nat.le_of_ble_eq_true rfl, Nat.le_of_ble_eq_true rfl⟩ ⟨Nat.le_refl _, Nat.le_refl _⟩ ?_
                                              refine aw_if_ne (tgt := 104) eX12_set_98 (by decide) bt_r (fun hh => have h402 := bt1 hh; ?_) (fun hh => have h402 := bt0 hh; ?_)
                                              · first
                                                | (exfalso; omega; done)
                                                | (refine aw_blk oX12_set_104 (pc' := 121) (ls' := [_, _, _, _, _]) (st' := [_]) (cs := [(_, _), (_, _)]) rfl (⟨⟨by omega, by omega⟩, ⟨by omega, by omega⟩, trivial⟩) ?_
                                                   refine aw_iret eX12_set_121 rfl (Nat.le_refl _) (Nat.le_refl _) ?_
                                                   exact pe_i s.1 rfl rfl)
                                              · first
                                                | (exfalso; omega; done)
                                                | (refine aw_blk oX12_set_101 (pc' := 103) (ls' := [_, _, _, _, _]) (st' := [_]) (cs := []) rfl trivial ?_
                                                   refine aw_iret eX12_set_103 rfl (Nat.le_refl _) (Nat.le_refl _) ?_
                                                   exact pe_i s.1 rfl rfl))
                                         · first
                                           | (exfalso; omega; done)
                                           | (refine aw_blk oX12_set_89 (pc' := 94) (ls' := [_, _, _, _, _]) (st' := [_, _]) (cs := []) rfl trivial ?_
                                              refine aw_blk oX12_set_94 (pc' := 95) (ls' := [_, _, _, _, _]) (st' := [_, _, _]) (cs := []) rfl trivial ?_
                                              refine aw_ciS (rest := []) (c_X12_in (by omega) (by omega) (by omega)) kX12_in eX12_set_95 lX12_set_95 rfl rfl (Nat.le_of_ble_eq_true rfl) ⟨Nat.le_of_ble_eq_true rfl, Nat.le_of_ble_eq_true rfl⟩ ⟨Nat.le_refl _, Nat.le_refl _⟩ ?_
                                              refine aw_if_ne (tgt := 104) eX12_set_98 (by decide) bt_r (fun hh => have h403 := bt1 hh; ?_) (fun hh => have h403 := bt0 hh; ?_)
                                              · first
                                                | (exfalso; omega; done)
                                                | (refine aw_blk oX12_set_104 (pc' := 121) (ls' := [_, _, _, _, _]) (st' := [_]) (cs := [(_, _), (_, _)]) rfl (⟨⟨by omega, by omega⟩, ⟨by omega, by omega⟩, trivial⟩) ?_
                                                   refine aw_iret eX12_set_121 rfl (Nat.le_refl _) (Nat.le_refl _) ?_
                                                   exact pe_i s.1 rfl rfl)
                                              · first
                                                | (exfalso; omega; done)
                                                | (refine aw_blk oX12_set_101 (pc' := 103) (ls' := [_, _, _, _, _]) (st' := [_]) (cs := []) rfl trivial ?_
                                                   refine aw_iret eX12_set_103 rfl (Nat.le_refl _) (Nat.le_refl _) ?_
                                                   exact pe_i s.1 rfl rfl)))))
                          · first
                            | (exfalso; omega; done)
                            | (refine aw_blk oX12_set_48 (pc' := 76) (ls' := [_, _, _, _, _]) (st' := [_]) (cs := []) rfl trivial ?_
                               refine aw_blk oX12_set_76 (pc' := 80) (ls' := [_, _, _, _, _]) (st' := [_, _, _]) (cs := []) rfl trivial ?_
                               refine aw_icmp_eq (tgt := 89) eX12_set_80 (by decide) (by omega) (by omega) (fun h404 => ?_) (fun h404 => ?_)
                               · first
                                 | (exfalso; omega; done)
                                 | (refine aw_blk oX12_set_89 (pc' := 94) (ls' := [_, _, _, _, _]) (st' := [_, _]) (cs := []) rfl trivial ?_
                                    refine aw_blk oX12_set_94 (pc' := 95) (ls' := [_, _, _, _, _]) (st' := [_, _, _]) (cs := []) rfl trivial ?_
                                    refine aw_ciS (rest := []) (c_X12_in (by omega) (by omega) (by omega)) kX12_in eX12_set_95 lX12_set_95 rfl rfl (Nat.le_of_ble_eq_true rfl) ⟨Nat.le_of_ble_eq_true rfl, Nat.le_of_ble_eq_true rfl⟩ ⟨Nat.le_refl _, Nat.le_refl _⟩ ?_
                                    refine aw_if_ne (tgt := 104) eX12_set_98 (by decide) bt_r (fun hh => have h405 := bt1 hh; ?_) (fun hh => have h405 := bt0 hh; ?_)
                                    · first
                                      | (exfalso; omega; done)
                                      | (refine aw_blk oX12_set_104 (pc' := 121) (ls' := [_, _, _, _, _]) (st' := [_]) (cs := [(_, _), (_, _)]) rfl (⟨⟨by omega, by omega⟩, ⟨by omega, by omega⟩, trivial⟩) ?_
                                         refine aw_iret eX12_set_121 rfl (Nat.le_refl _) (Nat.le_refl _) ?_
                                         exact pe_i s.1 rfl rfl)
                                    · first
                                      | (exfalso; omega; done)
                                      | (refine aw_blk oX12_set_101 (pc' := 103) (ls' := [_, _, _, _, _]) (st' := [_]) (cs := []) rfl trivial ?_
                                         refine aw_iret eX12_set_103 rfl (Nat.le_refl _) (Nat.le_refl _) ?_
                                         exact pe_i s.1 rfl rfl))
                               · first
                                 | (exfalso; omega; done)
                                 | (refine aw_blk oX12_set_83 (pc' := 86) (ls' := [_, _, _, _, _]) (st' := [_, _, _]) (cs := []) rfl trivial ?_
                                    refine aw_icmp_ne (tgt := 93) eX12_set_86 (by decide) (by omega) (by omega) (fun h406 => ?_) (fun h406 => ?_)
                                    · first
                                      | (exfalso; omega; done)
                                      | (refine aw_blk oX12_set_93 (pc' := 94) (ls' := [_, _, _, _, _]) (st' := [_, _]) (cs := []) rfl trivial ?_
                                         refine aw_blk oX12_set_94 (pc' := 95) (ls' := [_, _, _, _, _]) (st' := [_, _, _]) (cs := []) rfl trivial ?_
                                         refine aw_ciS (rest := []) (c_X12_in (by omega) (by omega) (by omega)) kX12_in eX12_set_95 lX12_set_95 rfl rfl (Nat.le_of_ble_eq_true rfl) ⟨Nat.le_of_ble_eq_true rfl, Nat.le_of_ble_eq_true rfl⟩ ⟨Nat.le_refl _, Nat.le_refl _⟩ ?_
                                         refine aw_if_ne (tgt := 104) eX12_set_98 (by decide) bt_r (fun hh => have h407 := bt1 hh; ?_) (fun hh => have h407 := bt0 hh; ?_)
                                         · first
                                           | (exfalso; omega; done)
                                           | (refine aw_blk oX12_set_104 (pc' := 121) (ls' := [_, _, _, _, _]) (st' := [_]) (cs := [(_, _), (_, _)]) rfl (⟨⟨by omega, by omega⟩, ⟨by omega, by omega⟩, trivial⟩) ?_
                                              refine aw_iret eX12_set_121 rfl (Nat.le_refl _) (Nat.le_refl _) ?_
                                              exact pe_i s.1 rfl rfl)
                                         · first
                                           | (exfalso; omega; done)
                                           | (refine aw_blk oX12_set_101 (pc' := 103) (ls' := [_, _, _, _, _]) (st' := [_]) (cs := []) rfl trivial ?_
                                              refine aw_iret eX12_set_103 rfl (Nat.le_refl _) (Nat.le_refl _) ?_
                                              exact pe_i s.1 rfl rfl))
                                    · first
                                      | (exfalso; omega; done)
                                      | (refine aw_blk oX12_set_89 (pc' := 94) (ls' := [_, _, _, _, _]) (st' := [_, _]) (cs := []) rfl trivial ?_
                                         refine aw_blk oX12_set_94 (pc' := 95) (ls' := [_, _, _, _, _]) (st' := [_, _, _]) (cs := []) rfl trivial ?_
                                         refine aw_ciS (rest := []) (c_X12_in (by omega) (by omega) (by omega)) kX12_in eX12_set_95 lX12_set_95 rfl rfl (Nat.le_of_ble_eq_true rfl) ⟨Nat.le_of_ble_eq_true rfl, Nat.le_of_ble_eq_true rfl⟩ ⟨Nat.le_refl _, Nat.le_refl _⟩ ?_
                                         refine aw_if_ne (tgt := 104) eX12_set_98 (by decide) bt_r (fun hh => have h408 := bt1 hh; ?_) (fun hh => have h408 := bt0 hh; ?_)
                                         · first
                                           | (exfalso; omega; done)
                                           | (refine aw_blk oX12_set_104 (pc' := 121) (ls' := [_, _, _, _, _]) (st' := [_]) (cs := [(_, _), (_, _)]) rfl (⟨⟨by omega, by omega⟩, ⟨by omega, by omega⟩, trivial⟩) ?_
                                              refine aw_iret eX12_set_121 rfl (Nat.le_refl _) (Nat.le_refl _) ?_
                                              exact pe_i s.1 rfl rfl)
                                         · first
                                           | (exfalso; omega; done)
                                           | (refine aw_blk oX12_set_101 (pc' := 103) (ls' := [_, _, _, _, _]) (st' := [_]) (cs := []) rfl trivial ?_
                                              refine aw_iret eX12_set_103 rfl (Nat.le_refl _) (Nat.le_refl _) ?_
                                              exact pe_i s.1 rfl rfl)))))
                     · first
                       | (exfalso; omega; done)
                       | (refine aw_blk oX12_set_38 (pc' := 76) (ls' := [_, _, _, _, _]) (st' := [_]) (cs := []) rfl trivial ?_
                          refine aw_blk oX12_set_76 (pc' := 80) (ls' := [_, _, _, _, _]) (st' := [_, _, _]) (cs := []) rfl trivial ?_
                          refine aw_icmp_eq (tgt := 89) eX12_set_80 (by decide) (by omega) (by omega) (fun h409 => ?_) (fun h409 => ?_)
                          · first
                            | (exfalso; omega; done)
                            | (refine aw_blk oX12_set_89 (pc' := 94) (ls' := [_, _, _, _, _]) (st' := [_, _]) (cs := []) rfl trivial ?_
                               refine aw_blk oX12_set_94 (pc' := 95) (ls' := [_, _, _, _, _]) (st' := [_, _, _]) (cs := []) rfl trivial ?_
                               refine aw_ciS (rest := []) (c_X12_in (by omega) (by omega) (by omega)) kX12_in eX12_set_95 lX12_set_95 rfl rfl (Nat.le_of_ble_eq_true rfl) ⟨Nat.le_of_ble_eq_true rfl, Nat.le_of_ble_eq_true rfl⟩ ⟨Nat.le_refl _, Nat.le_refl _⟩ ?_
                               refine aw_if_ne (tgt := 104) eX12_set_98 (by decide) bt_r (fun hh => have h410 := bt1 hh; ?_) (fun hh => have h410 := bt0 hh; ?_)
                               · first
                                 | (exfalso; omega; done)
                                 | (refine aw_blk oX12_set_104 (pc' := 121) (ls' := [_, _, _, _, _]) (st' := [_]) (cs := [(_, _), (_, _)]) rfl (⟨⟨by omega, by omega⟩, ⟨by omega, by omega⟩, trivial⟩) ?_
                                    refine aw_iret eX12_set_121 rfl (Nat.le_refl _) (Nat.le_refl _) ?_
                                    exact pe_i s.1 rfl rfl)
                               · first
                                 | (exfalso; omega; done)
                                 | (refine aw_blk oX12_set_101 (pc' := 103) (ls' := [_, _, _, _, _]) (st' := [_]) (cs := []) rfl trivial ?_
                                    refine aw_iret eX12_set_103 rfl (Nat.le_refl _) (Nat.le_refl _) ?_
                                    exact pe_i s.1 rfl rfl))
                          · first
                            | (exfalso; omega; done)
                            | (refine aw_blk oX12_set_83 (pc' := 86) (ls' := [_, _, _, _, _]) (st' := [_, _, _]) (cs := []) rfl trivial ?_
                               refine aw_icmp_ne (tgt := 93) eX12_set_86 (by decide) (by omega) (by omega) (fun h411 => ?_) (fun h411 => ?_)
                               · first
                                 | (exfalso; omega; done)
                                 | (refine aw_blk oX12_set_93 (pc' := 94) (ls' := [_, _, _, _, _]) (st' := [_, _]) (cs := []) rfl trivial ?_
                                    refine aw_blk oX12_set_94 (pc' := 95) (ls' := [_, _, _, _, _]) (st' := [_, _, _]) (cs := []) rfl trivial ?_
                                    refine aw_ciS (rest := []) (c_X12_in (by omega) (by omega) (by omega)) kX12_in eX12_set_95 lX12_set_95 rfl rfl (Nat.le_of_ble_eq_true rfl) ⟨Nat.le_of_ble_eq_true rfl, Nat.le_of_ble_eq_true rfl⟩ ⟨Nat.le_refl _, Nat.le_refl _⟩ ?_
                                    refine aw_if_ne (tgt := 104) eX12_set_98 (by decide) bt_r (fun hh => have h412 := bt1 hh; ?_) (fun hh => have h412 := bt0 hh; ?_)
                                    · first
                                      | (exfalso; omega; done)
                                      | (refine aw_blk oX12_set_104 (pc' := 121) (ls' := [_, _, _, _, _]) (st' := [_]) (cs := [(_, _), (_, _)]) rfl (⟨⟨by omega, by omega⟩, ⟨by omega, by omega⟩, trivial⟩) ?_
                                         refine aw_iret eX12_set_121 rfl (Nat.le_refl _) (Nat.le_refl _) ?_
                                         exact pe_i s.1 rfl rfl)
                                    · first
                                      | (exfalso; omega; done)
                                      | (refine aw_blk oX12_set_101 (pc' := 103) (ls' := [_, _, _, _, _]) (st' := [_]) (cs := []) rfl trivial ?_
                                         refine aw_iret eX12_set_103 rfl (Nat.le_refl _) (Nat.le_refl _) ?_
                                         exact pe_i s.1 rfl rfl))
                               · first
                                 | (exfalso; omega; done)
                                 | (refine aw_blk oX12_set_89 (pc' := 94) (ls' := [_, _, _, _, _]) (st' := [_, _]) (cs := []) rfl trivial ?_
                                    refine aw_blk oX12_set_94 (pc' := 95) (ls' := [_, _, _, _, _]) (st' := [_, _, _]) (cs := []) rfl trivial ?_
                                    refine aw_ciS (rest := []) (c_X12_in (by omega) (by omega) (by omega)) kX12_in eX12_set_95 lX12_set_95 rfl rfl (Nat.le_of_ble_eq_true rfl) ⟨Nat.le_of_ble_eq_true rfl, Nat.le_of_ble_eq_true rfl⟩ ⟨Nat.le_refl _, Nat.le_refl _⟩ ?_
                                    refine aw_if_ne (tgt := 104) eX12_set_98 (by decide) bt_r (fun hh => have h413 := bt1 hh; ?_) (fun hh => have h413 := bt0 hh; ?_)
                                    · first
                                      | (exfalso; omega; done)
                                      | (refine aw_blk oX12_set_104 (pc' := 121) (ls' := [_, _, _, _, _]) (st' := [_]) (cs := [(_, _), (_, _)]) rfl (⟨⟨by omega, by omega⟩, ⟨by omega, by omega⟩, trivial⟩) ?_
                                         refine aw_iret eX12_set_121 rfl (Nat.le_refl _) (Nat.le_refl _) ?_
                                         exact pe_i s.1 rfl rfl)
                                    · first
                                      | (exfalso; omega; done)
                                      | (refine aw_blk oX12_set_101 (pc' := 103) (ls' := [_, _, _, _, _]) (st' := [_]) (cs := []) rfl trivial ?_
                                         refine aw_iret eX12_set_103 rfl (Nat.le_refl _) (Nat.le_refl _) ?_
                                         exact pe_i s.1 rfl rfl)))))
                · first
                  | (exfalso; omega; done)
                  | (refine aw_blk oX12_set_27 (pc' := 76) (ls' := [_, _, _, _, _]) (st' := [_]) (cs := []) rfl trivial ?_
                     refine aw_blk oX12_set_76 (pc' := 80) (ls' := [_, _, _, _, _]) (st' := [_, _, _]) (cs := []) rfl trivial ?_
                     refine aw_icmp_eq (tgt := 89) eX12_set_80 (by decide) (by omega) (by omega) (fun h414 => ?_) (fun h414 => ?_)
                     · first
                       | (exfalso; omega; done)
                       | (refine aw_blk oX12_set_89 (pc' := 94) (ls' := [_, _, _, _, _]) (st' := [_, _]) (cs := []) rfl trivial ?_
                          refine aw_blk oX12_set_94 (pc' := 95) (ls' := [_, _, _, _, _]) (st' := [_, _, _]) (cs := []) rfl trivial ?_
                          refine aw_ciS (rest := []) (c_X12_in (by omega) (by omega) (by omega)) kX12_in eX12_set_95 lX12_set_95 rfl rfl (Nat.le_of_ble_eq_true rfl) ⟨Nat.le_of_ble_eq_true rfl, Nat.le_of_ble_eq_true rfl⟩ ⟨Nat.le_refl _, Nat.le_refl _⟩ ?_
                          refine aw_if_ne (tgt := 104) eX12_set_98 (by decide) bt_r (fun hh => have h415 := bt1 hh; ?_) (fun hh => have h415 := bt0 hh; ?_)
                          · first
                            | (exfalso; omega; done)
                            | (refine aw_blk oX12_set_104 (pc' := 121) (ls' := [_, _, _, _, _]) (st' := [_]) (cs := [(_, _), (_, _)]) rfl (⟨⟨by omega, by omega⟩, ⟨by omega, by omega⟩, trivial⟩) ?_
                               refine aw_iret eX12_set_121 rfl (Nat.le_refl _) (Nat.le_refl _) ?_
                               exact pe_i s.1 rfl rfl)
                          · first
                            | (exfalso; omega; done)
                            | (refine aw_blk oX12_set_101 (pc' := 103) (ls' := [_, _, _, _, _]) (st' := [_]) (cs := []) rfl trivial ?_
                               refine aw_iret eX12_set_103 rfl (Nat.le_refl _) (Nat.le_refl _) ?_
                               exact pe_i s.1 rfl rfl))
                     · first
                       | (exfalso; omega; done)
                       | (refine aw_blk oX12_set_83 (pc' := 86) (ls' := [_, _, _, _, _]) (st' := [_, _, _]) (cs := []) rfl trivial ?_
                          refine aw_icmp_ne (tgt := 93) eX12_set_86 (by decide) (by omega) (by omega) (fun h416 => ?_) (fun h416 => ?_)
                          · first
                            | (exfalso; omega; done)
                            | (refine aw_blk oX12_set_93 (pc' := 94) (ls' := [_, _, _, _, _]) (st' := [_, _]) (cs := []) rfl trivial ?_
                               refine aw_blk oX12_set_94 (pc' := 95) (ls' := [_, _, _, _, _]) (st' := [_, _, _]) (cs := []) rfl trivial ?_
                               refine aw_ciS (rest := []) (c_X12_in (by omega) (by omega) (by omega)) kX12_in eX12_set_95 lX12_set_95 rfl rfl (Nat.le_of_ble_eq_true rfl) ⟨Nat.le_of_ble_eq_true rfl, Nat.le_of_ble_eq_true rfl⟩ ⟨Nat.le_refl _, Nat.le_refl _⟩ ?_
                               refine aw_if_ne (tgt := 104) eX12_set_98 (by decide) bt_r (fun hh => have h417 := bt1 hh; ?_) (fun hh => have h417 := bt0 hh; ?_)
                               · first
                                 | (exfalso; omega; done)
                                 | (refine aw_blk oX12_set_104 (pc' := 121) (ls' := [_, _, _, _, _]) (st' := [_]) (cs := [(_, _), (_, _)]) rfl (⟨⟨by omega, by omega⟩, ⟨by omega, by omega⟩, trivial⟩) ?_
                                    refine aw_iret eX12_set_121 rfl (Nat.le_refl _) (Nat.le_refl _) ?_
                                    exact pe_i s.1 rfl rfl)
                               · first
                                 | (exfalso; omega; done)
                                 | (refine aw_blk oX12_set_101 (pc' := 103) (ls' := [_, _, _, _, _]) (st' := [_]) (cs := []) rfl trivial ?_
                                    refine aw_iret eX12_set_103 rfl (Nat.le_refl _) (Nat.le_refl _) ?_
                                    exact pe_i s.1 rfl rfl))
                          · first
                            | (exfalso; omega; done)
                            | (refine aw_blk oX12_set_89 (pc' := 94) (ls' := [_, _, _, _, _]) (st' := [_, _]) (cs := []) rfl trivial ?_
                               refine aw_blk oX12_set_94 (pc' := 95) (ls' := [_, _, _, _, _]) (st' := [_, _, _]) (cs := []) rfl trivial ?_
                               refine aw_ciS (rest := []) (c_X12_in (by omega) (by omega) (by omega)) kX12_in eX12_set_95 lX12_set_95 rfl rfl (Nat.le_of_ble_eq_true rfl) ⟨Nat.le_of_ble_eq_true rfl, Nat.le_of_ble_eq_true rfl⟩ ⟨Nat.le_refl _, Nat.le_refl _⟩ ?_
                               refine aw_if_ne (tgt := 104) eX12_set_98 (by decide) bt_r (fun hh => have h418 := bt1 hh; ?_) (fun hh => have h418 := bt0 hh; ?_)
                               · first
                                 | (exfalso; omega; done)
                                 | (refine aw_blk oX12_set_104 (pc' := 121) (ls' := [_, _, _, _, _]) (st' := [_]) (cs := [(_, _), (_, _)]) rfl (⟨⟨by omega, by omega⟩, ⟨by omega, by omega⟩, trivial⟩) ?_
                                    refine aw_iret eX12_set_121 rfl (Nat.le_refl _) (Nat.le_refl _) ?_
                                    exact pe_i s.1 rfl rfl)
                               · first
                                 | (exfalso; omega; done)
                                 | (refine aw_blk oX12_set_101 (pc' := 103) (ls' := [_, _, _, _, _]) (st' := [_]) (cs := []) rfl trivial ?_
                                    refine aw_iret eX12_set_103 rfl (Nat.le_refl _) (Nat.le_refl _) ?_
                                    exact pe_i s.1 rfl rfl)))))
           · first
             | (exfalso; omega; done)
             | (refine aw_blk oX12_set_17 (pc' := 76) (ls' := [_, _, _, _, _]) (st' := [_]) (cs := []) rfl trivial ?_
                refine aw_blk oX12_set_76 (pc' := 80) (ls' := [_, _, _, _, _]) (st' := [_, _, _]) (cs := []) rfl trivial ?_
                refine aw_icmp_eq (tgt := 89) eX12_set_80 (by decide) (by omega) (by omega) (fun h419 => ?_) (fun h419 => ?_)
                · first
                  | (exfalso; omega; done)
                  | (refine aw_blk oX12_set_89 (pc' := 94) (ls' := [_, _, _, _, _]) (st' := [_, _]) (cs := []) rfl trivial ?_
                     refine aw_blk oX12_set_94 (pc' := 95) (ls' := [_, _, _, _, _]) (st' := [_, _, _]) (cs := []) rfl trivial ?_
                     refine aw_ciS (rest := []) (c_X12_in (by omega) (by omega) (by omega)) kX12_in eX12_set_95 lX12_set_95 rfl rfl (Nat.le_of_ble_eq_true rfl) ⟨Nat.le_of_ble_eq_true rfl, Nat.le_of_ble_eq_true rfl⟩ ⟨Nat.le_refl _, Nat.le_refl _⟩ ?_
                     refine aw_if_ne (tgt := 104) eX12_set_98 (by decide) bt_r (fun hh => have h420 := bt1 hh; ?_) (fun hh => have h420 := bt0 hh; ?_)
                     · first
                       | (exfalso; omega; done)
                       | (refine aw_blk oX12_set_104 (pc' := 121) (ls' := [_, _, _, _, _]) (st' := [_]) (cs := [(_, _), (_, _)]) rfl (⟨⟨by omega, by omega⟩, ⟨by omega, by omega⟩, trivial⟩) ?_
                          refine aw_iret eX12_set_121 rfl (Nat.le_refl _) (Nat.le_refl _) ?_
                          exact pe_i s.1 rfl rfl)
                     · first
                       | (exfalso; omega; done)
                       | (refine aw_blk oX12_set_101 (pc' := 103) (ls' := [_, _, _, _, _]) (st' := [_]) (cs := []) rfl trivial ?_
                          refine aw_iret eX12_set_103 rfl (Nat.le_refl _) (Nat.le_refl _) ?_
                          exact pe_i s.1 rfl rfl))
                · first
                  | (exfalso; omega; done)
                  | (refine aw_blk oX12_set_83 (pc' := 86) (ls' := [_, _, _, _, _]) (st' := [_, _, _]) (cs := []) rfl trivial ?_
                     refine aw_icmp_ne (tgt := 93) eX12_set_86 (by decide) (by omega) (by omega) (fun h421 => ?_) (fun h421 => ?_)
                     · first
                       | (exfalso; omega; done)
                       | (refine aw_blk oX12_set_93 (pc' := 94) (ls' := [_, _, _, _, _]) (st' := [_, _]) (cs := []) rfl trivial ?_
                          refine aw_blk oX12_set_94 (pc' := 95) (ls' := [_, _, _, _, _]) (st' := [_, _, _]) (cs := []) rfl trivial ?_
                          refine aw_ciS (rest := []) (c_X12_in (by omega) (by omega) (by omega)) kX12_in eX12_set_95 lX12_set_95 rfl rfl (Nat.le_of_ble_eq_true rfl) ⟨Nat.le_of_ble_eq_true rfl, Nat.le_of_ble_eq_true rfl⟩ ⟨Nat.le_refl _, Nat.le_refl _⟩ ?_
                          refine aw_if_ne (tgt := 104) eX12_set_98 (by decide) bt_r (fun hh => have h422 := bt1 hh; ?_) (fun hh => have h422 := bt0 hh; ?_)
                          · first
                            | (exfalso; omega; done)
                            | (refine aw_blk oX12_set_104 (pc' := 121) (ls' := [_, _, _, _, _]) (st' := [_]) (cs := [(_, _), (_, _)]) rfl (⟨⟨by omega, by omega⟩, ⟨by omega, by omega⟩, trivial⟩) ?_
                               refine aw_iret eX12_set_121 rfl (Nat.le_refl _) (Nat.le_refl _) ?_
                               exact pe_i s.1 rfl rfl)
                          · first
                            | (exfalso; omega; done)
                            | (refine aw_blk oX12_set_101 (pc' := 103) (ls' := [_, _, _, _, _]) (st' := [_]) (cs := []) rfl trivial ?_
                               refine aw_iret eX12_set_103 rfl (Nat.le_refl _) (Nat.le_refl _) ?_
                               exact pe_i s.1 rfl rfl))
                     · first
                       | (exfalso; omega; done)
                       | (refine aw_blk oX12_set_89 (pc' := 94) (ls' := [_, _, _, _, _]) (st' := [_, _]) (cs := []) rfl trivial ?_
                          refine aw_blk oX12_set_94 (pc' := 95) (ls' := [_, _, _, _, _]) (st' := [_, _, _]) (cs := []) rfl trivial ?_
                          refine aw_ciS (rest := []) (c_X12_in (by omega) (by omega) (by omega)) kX12_in eX12_set_95 lX12_set_95 rfl rfl (Nat.le_of_ble_eq_true rfl) ⟨Nat.le_of_ble_eq_true rfl, Nat.le_of_ble_eq_true rfl⟩ ⟨Nat.le_refl _, Nat.le_refl _⟩ ?_
                          refine aw_if_ne (tgt := 104) eX12_set_98 (by decide) bt_r (fun hh => have h423 := bt1 hh; ?_) (fun hh => have h423 := bt0 hh; ?_)
                          · first
                            | (exfalso; omega; done)
                            | (refine aw_blk oX12_set_104 (pc' := 121) (ls' := [_, _, _, _, _]) (st' := [_]) (cs := [(_, _), (_, _)]) rfl (⟨⟨by omega, by omega⟩, ⟨by omega, by omega⟩, trivial⟩) ?_
                               refine aw_iret eX12_set_121 rfl (Nat.le_refl _) (Nat.le_refl _) ?_
                               exact pe_i s.1 rfl rfl)
                          · first
                            | (exfalso; omega; done)
                            | (refine aw_blk oX12_set_101 (pc' := 103) (ls' := [_, _, _, _, _]) (st' := [_]) (cs := []) rfl trivial ?_
                               refine aw_iret eX12_set_103 rfl (Nat.le_refl _) (Nat.le_refl _) ?_
                               exact pe_i s.1 rfl rfl)))))
      · first
        | (exfalso; omega; done)
        | (refine aw_blk oX12_set_10 (pc' := 12) (ls' := [_, _, _, _, _]) (st' := [_]) (cs := []) rfl trivial ?_
           refine aw_iret eX12_set_12 rfl (Nat.le_refl _) (Nat.le_refl _) ?_
           exact pe_i s.1 rfl rfl)
    · exact h.up (k := 4) (v := v) (by omega) (by omega) rfl rfl
    · exact ((SR.rf.put (by decide)).put (by decide))
    · intro j hj
      rfl
    · exact Or.inl ⟨rfl, rfl⟩
    · exact Or.inl ⟨rfl, rfl⟩
  · refine ⟨-2, μ, ν, μ, ?_, ?_, by decide, rfl, Or.inl rfl⟩
    · refine AMet.of kX11_set.1 (Nat.le_of_ble_eq_true rfl) rfl ?_
      refine aw_blk oX11_set_0 (pc' := 4) (ls' := [_, _, _, _]) (st' := [_, _, _]) (cs := []) rfl trivial ?_
      refine aw_ciS (rest := []) (c_X11_between (by omega) (by omega) (by omega)) kX11_between eX11_set_4 lX11_set_4 rfl rfl (Nat.le_of_ble_eq_true rfl) ⟨Nat.le_of_ble_eq_true rfl, Nat.le_of_ble_eq_true rfl⟩ ⟨Nat.le_refl _, Nat.le_refl _⟩ ?_
      refine aw_if_eq (tgt := 27) eX11_set_7 (by decide) bt_r (fun hh => have h424 := bt0 hh; ?_) (fun hh => have h424 := bt1 hh; ?_)
      · first
        | (exfalso; omega; done)
        | (refine aw_blk oX11_set_27 (pc' := 29) (ls' := [_, _, _, _]) (st' := [_]) (cs := []) rfl trivial ?_
           refine aw_iret eX11_set_29 rfl (Nat.le_refl _) (Nat.le_refl _) ?_
           exact pe_i rfl rfl rfl)
      · first
        | (exfalso; omega; done)
        | (refine aw_blk oX11_set_10 (pc' := 21) (ls' := [_, _, _, _]) (st' := [_, _, _]) (cs := [(_, _), (_, _)]) rfl (⟨⟨by omega, by omega⟩, ⟨by omega, by omega⟩, trivial⟩) ?_
           refine aw_ciS (rest := []) (c_X11_between (by omega) (by omega) (by omega)) kX11_between eX11_set_21 lX11_set_21 rfl rfl (Nat.le_of_ble_eq_true rfl) ⟨Nat.le_of_ble_eq_true rfl, Nat.le_of_ble_eq_true rfl⟩ ⟨Nat.le_refl _, Nat.le_refl _⟩ ?_
           refine aw_if_ne (tgt := 30) eX11_set_24 (by decide) bt_r (fun hh => have h425 := bt1 hh; ?_) (fun hh => have h425 := bt0 hh; ?_)
           · first
             | (exfalso; omega; done)
             | (refine aw_blk oX11_set_30 (pc' := 45) (ls' := [_, _, _, _]) (st' := [_]) (cs := [(_, _), (_, _)]) rfl (⟨⟨by omega, by omega⟩, ⟨by omega, by omega⟩, trivial⟩) ?_
                refine aw_if_ne (tgt := 56) eX11_set_45 (by decide) (by omega) (fun h426 => ?_) (fun h426 => ?_)
                · first
                  | (exfalso; omega; done)
                  | (refine aw_blk oX11_set_56 (pc' := 58) (ls' := [_, _, _, _]) (st' := [_, _]) (cs := []) rfl trivial ?_
                     refine aw_icmp_ne (tgt := 65) eX11_set_58 (by decide) (by omega) (by omega) (fun h427 => ?_) (fun h427 => ?_)
                     · first
                       | (exfalso; omega; done)
                       | (refine aw_blk oX11_set_65 (pc' := 66) (ls' := [_, _, _, _]) (st' := [_]) (cs := []) rfl trivial ?_
                          refine aw_iret eX11_set_66 rfl (Nat.le_refl _) (Nat.le_refl _) ?_
                          exact pe_i rfl rfl rfl)
                     · first
                       | (exfalso; omega; done)
                       | (refine aw_blk oX11_set_61 (pc' := 62) (ls' := [_, _, _, _]) (st' := [_]) (cs := []) rfl trivial ?_
                          refine aw_cvV (rest := []) (c_forget) kX11_forgetShows eX11_set_62 lX11_set_62 rfl rfl rfl rfl (Nat.le_of_ble_eq_true rfl) ⟨Nat.le_of_ble_eq_true rfl, Nat.le_of_ble_eq_true rfl⟩ ⟨Nat.le_refl _, Nat.le_refl _⟩ ?_
                          refine aw_blk oX11_set_65 (pc' := 66) (ls' := [_, _, _, _]) (st' := [_]) (cs := []) rfl trivial ?_
                          refine aw_iret eX11_set_66 rfl (Nat.le_refl _) (Nat.le_refl _) ?_
                          exact pe_i rfl rfl rfl))
                · first
                  | (exfalso; omega; done)
                  | (refine aw_blk oX11_set_48 (pc' := 53) (ls' := [_, _, _, _]) (st' := [_, _]) (cs := []) rfl trivial ?_
                     refine aw_cvV (rest := []) (c_forgetCuts (by omega) (by omega)) kX3_forgetCutsFrom eX11_set_53 lX11_set_53 rfl rfl rfl rfl (Nat.le_of_ble_eq_true rfl) ⟨Nat.le_of_ble_eq_true rfl, Nat.le_of_ble_eq_true rfl⟩ ⟨Nat.le_refl _, Nat.le_refl _⟩ ?_
                     refine aw_blk oX11_set_56 (pc' := 58) (ls' := [_, _, _, _]) (st' := [_, _]) (cs := []) rfl trivial ?_
                     refine aw_icmp_ne (tgt := 65) eX11_set_58 (by decide) (by omega) (by omega) (fun h428 => ?_) (fun h428 => ?_)
                     · first
                       | (exfalso; omega; done)
                       | (refine aw_blk oX11_set_65 (pc' := 66) (ls' := [_, _, _, _]) (st' := [_]) (cs := []) rfl trivial ?_
                          refine aw_iret eX11_set_66 rfl (Nat.le_refl _) (Nat.le_refl _) ?_
                          exact pe_i rfl rfl rfl)
                     · first
                       | (exfalso; omega; done)
                       | (refine aw_blk oX11_set_61 (pc' := 62) (ls' := [_, _, _, _]) (st' := [_]) (cs := []) rfl trivial ?_
                          refine aw_cvV (rest := []) (c_forget) kX11_forgetShows eX11_set_62 lX11_set_62 rfl rfl rfl rfl (Nat.le_of_ble_eq_true rfl) ⟨Nat.le_of_ble_eq_true rfl, Nat.le_of_ble_eq_true rfl⟩ ⟨Nat.le_refl _, Nat.le_refl _⟩ ?_
                          refine aw_blk oX11_set_65 (pc' := 66) (ls' := [_, _, _, _]) (st' := [_]) (cs := []) rfl trivial ?_
                          refine aw_iret eX11_set_66 rfl (Nat.le_refl _) (Nat.le_refl _) ?_
                          exact pe_i rfl rfl rfl)))
           · first
             | (exfalso; omega; done)
             | (refine aw_blk oX11_set_27 (pc' := 29) (ls' := [_, _, _, _]) (st' := [_]) (cs := []) rfl trivial ?_
                refine aw_iret eX11_set_29 rfl (Nat.le_refl _) (Nat.le_refl _) ?_
                exact pe_i rfl rfl rfl))
    · refine AMet.of kX12_set.1 (Nat.le_of_ble_eq_true rfl) rfl ?_
      refine aw_blk oX12_set_0 (pc' := 4) (ls' := [_, _, _, _, _]) (st' := [_, _, _]) (cs := []) rfl trivial ?_
      refine aw_ciS (rest := []) (c_X12_in (by omega) (by omega) (by omega)) kX12_in eX12_set_4 lX12_set_4 rfl rfl (Nat.le_of_ble_eq_true rfl) ⟨Nat.le_of_ble_eq_true rfl, Nat.le_of_ble_eq_true rfl⟩ ⟨Nat.le_refl _, Nat.le_refl _⟩ ?_
      refine aw_if_ne (tgt := 13) eX12_set_7 (by decide) bt_r (fun hh => have h429 := bt1 hh; ?_) (fun hh => have h429 := bt0 hh; ?_)
      · first
        | (exfalso; omega; done)
        | (refine aw_blk oX12_set_13 (pc' := 14) (ls' := [_, _, _, _, _]) (st' := [_]) (cs := []) rfl trivial ?_
           refine aw_if_ne (tgt := 22) eX12_set_14 (by decide) (by omega) (fun h430 => ?_) (fun h430 => ?_)
           · first
             | (exfalso; omega; done)
             | (refine aw_blk oX12_set_22 (pc' := 24) (ls' := [_, _, _, _, _]) (st' := [_, _]) (cs := []) rfl trivial ?_
                refine aw_icmp_ne (tgt := 33) eX12_set_24 (by decide) (by omega) (by omega) (fun h431 => ?_) (fun h431 => ?_)
                · first
                  | (exfalso; omega; done)
                  | (refine aw_blk oX12_set_33 (pc' := 35) (ls' := [_, _, _, _, _]) (st' := [_, _]) (cs := []) rfl trivial ?_
                     refine aw_icmp_ne (tgt := 43) eX12_set_35 (by decide) (by omega) (by omega) (fun h432 => ?_) (fun h432 => ?_)
                     · first
                       | (exfalso; omega; done)
                       | (refine aw_blk oX12_set_43 (pc' := 45) (ls' := [_, _, _, _, _]) (st' := [_, _]) (cs := []) rfl trivial ?_
                          refine aw_icmp_ne (tgt := 53) eX12_set_45 (by decide) (by omega) (by omega) (fun h433 => ?_) (fun h433 => ?_)
                          · first
                            | (exfalso; omega; done)
                            | (refine aw_blk oX12_set_53 (pc' := 55) (ls' := [_, _, _, _, _]) (st' := [_, _]) (cs := []) rfl trivial ?_
                               refine aw_icmp_ne (tgt := 63) eX12_set_55 (by decide) (by omega) (by omega) (fun h434 => ?_) (fun h434 => ?_)
                               · first
                                 | (exfalso; omega; done)
                                 | (refine aw_blk oX12_set_63 (pc' := 65) (ls' := [_, _, _, _, _]) (st' := [_, _]) (cs := []) rfl trivial ?_
                                    refine aw_icmp_ne (tgt := 74) eX12_set_65 (by decide) (by omega) (by omega) (fun h435 => ?_) (fun h435 => ?_)
                                    · first
                                      | (exfalso; omega; done)
                                      | (refine aw_blk oX12_set_74 (pc' := 76) (ls' := [_, _, _, _, _]) (st' := [_]) (cs := []) rfl trivial ?_
                                         refine aw_blk oX12_set_76 (pc' := 80) (ls' := [_, _, _, _, _]) (st' := [_, _, _]) (cs := []) rfl trivial ?_
                                         refine aw_icmp_eq (tgt := 89) eX12_set_80 (by decide) (by omega) (by omega) (fun h436 => ?_) (fun h436 => ?_)
                                         · first
                                           | (exfalso; omega; done)
                                           | (refine aw_blk oX12_set_89 (pc' := 94) (ls' := [_, _, _, _, _]) (st' := [_, _]) (cs := []) rfl trivial ?_
                                              refine aw_blk oX12_set_94 (pc' := 95) (ls' := [_, _, _, _, _]) (st' := [_, _, _]) (cs := []) rfl trivial ?_
                                              refine aw_ciS (rest := []) (c_X12_in (by omega) (by omega) (by omega)) kX12_in eX12_set_95 lX12_set_95 rfl rfl (Nat.le_of_ble_eq_true rfl) ⟨Nat.le_of_ble_eq_true rfl, Nat.le_of_ble_eq_true rfl⟩ ⟨Nat.le_refl _, Nat.le_refl _⟩ ?_
                                              refine aw_if_ne (tgt := 104) eX12_set_98 (by decide) bt_r (fun hh => have h437 := bt1 hh; ?_) (fun hh => have h437 := bt0 hh; ?_)
                                              · first
                                                | (exfalso; omega; done)
                                                | (refine aw_blk oX12_set_104 (pc' := 121) (ls' := [_, _, _, _, _]) (st' := [_]) (cs := [(_, _), (_, _)]) rfl (⟨⟨by omega, by omega⟩, ⟨by omega, by omega⟩, trivial⟩) ?_
                                                   refine aw_iret eX12_set_121 rfl (Nat.le_refl _) (Nat.le_refl _) ?_
                                                   exact pe_i rfl rfl rfl)
                                              · first
                                                | (exfalso; omega; done)
                                                | (refine aw_blk oX12_set_101 (pc' := 103) (ls' := [_, _, _, _, _]) (st' := [_]) (cs := []) rfl trivial ?_
                                                   refine aw_iret eX12_set_103 rfl (Nat.le_refl _) (Nat.le_refl _) ?_
                                                   exact pe_i rfl rfl rfl))
                                         · first
                                           | (exfalso; omega; done)
                                           | (refine aw_blk oX12_set_83 (pc' := 86) (ls' := [_, _, _, _, _]) (st' := [_, _, _]) (cs := []) rfl trivial ?_
                                              refine aw_icmp_ne (tgt := 93) eX12_set_86 (by decide) (by omega) (by omega) (fun h438 => ?_) (fun h438 => ?_)
                                              · first
                                                | (exfalso; omega; done)
                                                | (refine aw_blk oX12_set_93 (pc' := 94) (ls' := [_, _, _, _, _]) (st' := [_, _]) (cs := []) rfl trivial ?_
                                                   refine aw_blk oX12_set_94 (pc' := 95) (ls' := [_, _, _, _, _]) (st' := [_, _, _]) (cs := []) rfl trivial ?_
                                                   refine aw_ciS (rest := []) (c_X12_in (by omega) (by omega) (by omega)) kX12_in eX12_set_95 lX12_set_95 rfl rfl (Nat.le_of_ble_eq_true rfl) ⟨Nat.le_of_ble_eq_true rfl, Nat.le_of_ble_eq_true rfl⟩ ⟨Nat.le_refl _, Nat.le_refl _⟩ ?_
                                                   refine aw_if_ne (tgt := 104) eX12_set_98 (by decide) bt_r (fun hh => have h439 := bt1 hh; ?_) (fun hh => have h439 := bt0 hh; ?_)
                                                   · first
                                                     | (exfalso; omega; done)
                                                     | (refine aw_blk oX12_set_104 (pc' := 121) (ls' := [_, _, _, _, _]) (st' := [_]) (cs := [(_, _), (_, _)]) rfl (⟨⟨by omega, by omega⟩, ⟨by omega, by omega⟩, trivial⟩) ?_
                                                        refine aw_iret eX12_set_121 rfl (Nat.le_refl _) (Nat.le_refl _) ?_
                                                        exact pe_i rfl rfl rfl)
                                                   · first
                                                     | (exfalso; omega; done)
                                                     | (refine aw_blk oX12_set_101 (pc' := 103) (ls' := [_, _, _, _, _]) (st' := [_]) (cs := []) rfl trivial ?_
                                                        refine aw_iret eX12_set_103 rfl (Nat.le_refl _) (Nat.le_refl _) ?_
                                                        exact pe_i rfl rfl rfl))
                                              · first
                                                | (exfalso; omega; done)
                                                | (refine aw_blk oX12_set_89 (pc' := 94) (ls' := [_, _, _, _, _]) (st' := [_, _]) (cs := []) rfl trivial ?_
                                                   refine aw_blk oX12_set_94 (pc' := 95) (ls' := [_, _, _, _, _]) (st' := [_, _, _]) (cs := []) rfl trivial ?_
                                                   refine aw_ciS (rest := []) (c_X12_in (by omega) (by omega) (by omega)) kX12_in eX12_set_95 lX12_set_95 rfl rfl (Nat.le_of_ble_eq_true rfl) ⟨Nat.le_of_ble_eq_true rfl, Nat.le_of_ble_eq_true rfl⟩ ⟨Nat.le_refl _, Nat.le_refl _⟩ ?_
                                                   refine aw_if_ne (tgt := 104) eX12_set_98 (by decide) bt_r (fun hh => have h440 := bt1 hh; ?_) (fun hh => have h440 := bt0 hh; ?_)
                                                   · first
                                                     | (exfalso; omega; done)
                                                     | (refine aw_blk oX12_set_104 (pc' := 121) (ls' := [_, _, _, _, _]) (st' := [_]) (cs := [(_, _), (_, _)]) rfl (⟨⟨by omega, by omega⟩, ⟨by omega, by omega⟩, trivial⟩) ?_
                                                        refine aw_iret eX12_set_121 rfl (Nat.le_refl _) (Nat.le_refl _) ?_
                                                        exact pe_i rfl rfl rfl)
                                                   · first
                                                     | (exfalso; omega; done)
                                                     | (refine aw_blk oX12_set_101 (pc' := 103) (ls' := [_, _, _, _, _]) (st' := [_]) (cs := []) rfl trivial ?_
                                                        refine aw_iret eX12_set_103 rfl (Nat.le_refl _) (Nat.le_refl _) ?_
                                                        exact pe_i rfl rfl rfl))))
                                    · first
                                      | (exfalso; omega; done)
                                      | (refine aw_blk oX12_set_68 (pc' := 76) (ls' := [_, _, _, _, _]) (st' := [_]) (cs := []) rfl trivial ?_
                                         refine aw_blk oX12_set_76 (pc' := 80) (ls' := [_, _, _, _, _]) (st' := [_, _, _]) (cs := []) rfl trivial ?_
                                         refine aw_icmp_eq (tgt := 89) eX12_set_80 (by decide) (by omega) (by omega) (fun h441 => ?_) (fun h441 => ?_)
                                         · first
                                           | (exfalso; omega; done)
                                           | (refine aw_blk oX12_set_89 (pc' := 94) (ls' := [_, _, _, _, _]) (st' := [_, _]) (cs := []) rfl trivial ?_
                                              refine aw_blk oX12_set_94 (pc' := 95) (ls' := [_, _, _, _, _]) (st' := [_, _, _]) (cs := []) rfl trivial ?_
                                              refine aw_ciS (rest := []) (c_X12_in (by omega) (by omega) (by omega)) kX12_in eX12_set_95 lX12_set_95 rfl rfl (Nat.le_of_ble_eq_true rfl) ⟨Nat.le_of_ble_eq_true rfl, Nat.le_of_ble_eq_true rfl⟩ ⟨Nat.le_refl _, Nat.le_refl _⟩ ?_
                                              refine aw_if_ne (tgt := 104) eX12_set_98 (by decide) bt_r (fun hh => have h442 := bt1 hh; ?_) (fun hh => have h442 := bt0 hh; ?_)
                                              · first
                                                | (exfalso; omega; done)
                                                | (refine aw_blk oX12_set_104 (pc' := 121) (ls' := [_, _, _, _, _]) (st' := [_]) (cs := [(_, _), (_, _)]) rfl (⟨⟨by omega, by omega⟩, ⟨by omega, by omega⟩, trivial⟩) ?_
                                                   refine aw_iret eX12_set_121 rfl (Nat.le_refl _) (Nat.le_refl _) ?_
                                                   exact pe_i rfl rfl rfl)
                                              · first
                                                | (exfalso; omega; done)
                                                | (refine aw_blk oX12_set_101 (pc' := 103) (ls' := [_, _, _, _, _]) (st' := [_]) (cs := []) rfl trivial ?_
                                                   refine aw_iret eX12_set_103 rfl (Nat.le_refl _) (Nat.le_refl _) ?_
                                                   exact pe_i rfl rfl rfl))
                                         · first
                                           | (exfalso; omega; done)
                                           | (refine aw_blk oX12_set_83 (pc' := 86) (ls' := [_, _, _, _, _]) (st' := [_, _, _]) (cs := []) rfl trivial ?_
                                              refine aw_icmp_ne (tgt := 93) eX12_set_86 (by decide) (by omega) (by omega) (fun h443 => ?_) (fun h443 => ?_)
                                              · first
                                                | (exfalso; omega; done)
                                                | (refine aw_blk oX12_set_93 (pc' := 94) (ls' := [_, _, _, _, _]) (st' := [_, _]) (cs := []) rfl trivial ?_
                                                   refine aw_blk oX12_set_94 (pc' := 95) (ls' := [_, _, _, _, _]) (st' := [_, _, _]) (cs := []) rfl trivial ?_
                                                   refine aw_ciS (rest := []) (c_X12_in (by omega) (by omega) (by omega)) kX12_in eX12_set_95 lX12_set_95 rfl rfl (Nat.le_of_ble_eq_true rfl) ⟨Nat.le_of_ble_eq_true rfl, Nat.le_of_ble_eq_true rfl⟩ ⟨Nat.le_refl _, Nat.le_refl _⟩ ?_
                                                   refine aw_if_ne (tgt := 104) eX12_set_98 (by decide) bt_r (fun hh => have h444 := bt1 hh; ?_) (fun hh => have h444 := bt0 hh; ?_)
                                                   · first
                                                     | (exfalso; omega; done)
                                                     | (refine aw_blk oX12_set_104 (pc' := 121) (ls' := [_, _, _, _, _]) (st' := [_]) (cs := [(_, _), (_, _)]) rfl (⟨⟨by omega, by omega⟩, ⟨by omega, by omega⟩, trivial⟩) ?_
                                                        refine aw_iret eX12_set_121 rfl (Nat.le_refl _) (Nat.le_refl _) ?_
                                                        exact pe_i rfl rfl rfl)
                                                   · first
                                                     | (exfalso; omega; done)
                                                     | (refine aw_blk oX12_set_101 (pc' := 103) (ls' := [_, _, _, _, _]) (st' := [_]) (cs := []) rfl trivial ?_
                                                        refine aw_iret eX12_set_103 rfl (Nat.le_refl _) (Nat.le_refl _) ?_
                                                        exact pe_i rfl rfl rfl))
                                              · first
                                                | (exfalso; omega; done)
                                                | (refine aw_blk oX12_set_89 (pc' := 94) (ls' := [_, _, _, _, _]) (st' := [_, _]) (cs := []) rfl trivial ?_
                                                   refine aw_blk oX12_set_94 (pc' := 95) (ls' := [_, _, _, _, _]) (st' := [_, _, _]) (cs := []) rfl trivial ?_
                                                   refine aw_ciS (rest := []) (c_X12_in (by omega) (by omega) (by omega)) kX12_in eX12_set_95 lX12_set_95 rfl rfl (Nat.le_of_ble_eq_true rfl) ⟨Nat.le_of_ble_eq_true rfl, Nat.le_of_ble_eq_true rfl⟩ ⟨Nat.le_refl _, Nat.le_refl _⟩ ?_
                                                   refine aw_if_ne (tgt := 104) eX12_set_98 (by decide) bt_r (fun hh => have h445 := bt1 hh; ?_) (fun hh => have h445 := bt0 hh; ?_)
                                                   · first
                                                     | (exfalso; omega; done)
                                                     | (refine aw_blk oX12_set_104 (pc' := 121) (ls' := [_, _, _, _, _]) (st' := [_]) (cs := [(_, _), (_, _)]) rfl (⟨⟨by omega, by omega⟩, ⟨by omega, by omega⟩, trivial⟩) ?_
                                                        refine aw_iret eX12_set_121 rfl (Nat.le_refl _) (Nat.le_refl _) ?_
                                                        exact pe_i rfl rfl rfl)
                                                   · first
                                                     | (exfalso; omega; done)
                                                     | (refine aw_blk oX12_set_101 (pc' := 103) (ls' := [_, _, _, _, _]) (st' := [_]) (cs := []) rfl trivial ?_
                                                        refine aw_iret eX12_set_103 rfl (Nat.le_refl _) (Nat.le_refl _) ?_
                                                        exact pe_i rfl rfl rfl)))))
                               · first
                                 | (exfalso; omega; done)
                                 | (refine aw_blk oX12_set_58 (pc' := 76) (ls' := [_, _, _, _, _]) (st' := [_]) (cs := []) rfl trivial ?_
                                    refine aw_blk oX12_set_76 (pc' := 80) (ls' := [_, _, _, _, _]) (st' := [_, _, _]) (cs := []) rfl trivial ?_
                                    refine aw_icmp_eq (tgt := 89) eX12_set_80 (by decide) (by omega) (by omega) (fun h446 => ?_) (fun h446 => ?_)
                                    · first
                                      | (exfalso; omega; done)
                                      | (refine aw_blk oX12_set_89 (pc' := 94) (ls' := [_, _, _, _, _]) (st' := [_, _]) (cs := []) rfl trivial ?_
                                         refine aw_blk oX12_set_94 (pc' := 95) (ls' := [_, _, _, _, _]) (st' := [_, _, _]) (cs := []) rfl trivial ?_
                                         refine aw_ciS (rest := []) (c_X12_in (by omega) (by omega) (by omega)) kX12_in eX12_set_95 lX12_set_95 rfl rfl (Nat.le_of_ble_eq_true rfl) ⟨Nat.le_of_ble_eq_true rfl, Nat.le_of_ble_eq_true rfl⟩ ⟨Nat.le_refl _, Nat.le_refl _⟩ ?_
                                         refine aw_if_ne (tgt := 104) eX12_set_98 (by decide) bt_r (fun hh => have h447 := bt1 hh; ?_) (fun hh => have h447 := bt0 hh; ?_)
                                         · first
                                           | (exfalso; omega; done)
                                           | (refine aw_blk oX12_set_104 (pc' := 121) (ls' := [_, _, _, _, _]) (st' := [_]) (cs := [(_, _), (_, _)]) rfl (⟨⟨by omega, by omega⟩, ⟨by omega, by omega⟩, trivial⟩) ?_
                                              refine aw_iret eX12_set_121 rfl (Nat.le_refl _) (Nat.le_refl _) ?_
                                              exact pe_i rfl rfl rfl)
                                         · first
                                           | (exfalso; omega; done)
                                           | (refine aw_blk oX12_set_101 (pc' := 103) (ls' := [_, _, _, _, _]) (st' := [_]) (cs := []) rfl trivial ?_
                                              refine aw_iret eX12_set_103 rfl (Nat.le_refl _) (Nat.le_refl _) ?_
                                              exact pe_i rfl rfl rfl))
                                    · first
                                      | (exfalso; omega; done)
                                      | (refine aw_blk oX12_set_83 (pc' := 86) (ls' := [_, _, _, _, _]) (st' := [_, _, _]) (cs := []) rfl trivial ?_
                                         refine aw_icmp_ne (tgt := 93) eX12_set_86 (by decide) (by omega) (by omega) (fun h448 => ?_) (fun h448 => ?_)
                                         · first
                                           | (exfalso; omega; done)
                                           | (refine aw_blk oX12_set_93 (pc' := 94) (ls' := [_, _, _, _, _]) (st' := [_, _]) (cs := []) rfl trivial ?_
                                              refine aw_blk oX12_set_94 (pc' := 95) (ls' := [_, _, _, _, _]) (st' := [_, _, _]) (cs := []) rfl trivial ?_
                                              refine aw_ciS (rest := []) (c_X12_in (by omega) (by omega) (by omega)) kX12_in eX12_set_95 lX12_set_95 rfl rfl (Nat.le_of_ble_eq_true rfl) ⟨Nat.le_of_ble_eq_true rfl, Nat.le_of_ble_eq_true rfl⟩ ⟨Nat.le_refl _, Nat.le_refl _⟩ ?_
                                              refine aw_if_ne (tgt := 104) eX12_set_98 (by decide) bt_r (fun hh => have h449 := bt1 hh; ?_) (fun hh => have h449 := bt0 hh; ?_)
                                              · first
                                                | (exfalso; omega; done)
                                                | (refine aw_blk oX12_set_104 (pc' := 121) (ls' := [_, _, _, _, _]) (st' := [_]) (cs := [(_, _), (_, _)]) rfl (⟨⟨by omega, by omega⟩, ⟨by omega, by omega⟩, trivial⟩) ?_
                                                   refine aw_iret eX12_set_121 rfl (Nat.le_refl _) (Nat.le_refl _) ?_
                                                   exact pe_i rfl rfl rfl)
                                              · first
                                                | (exfalso; omega; done)
                                                | (refine aw_blk oX12_set_101 (pc' := 103) (ls' := [_, _, _, _, _]) (st' := [_]) (cs := []) rfl trivial ?_
                                                   refine aw_iret eX12_set_103 rfl (Nat.le_refl _) (Nat.le_refl _) ?_
                                                   exact pe_i rfl rfl rfl))
                                         · first
                                           | (exfalso; omega; done)
                                           | (refine aw_blk oX12_set_89 (pc' := 94) (ls' := [_, _, _, _, _]) (st' := [_, _]) (cs := []) rfl trivial ?_
                                              refine aw_blk oX12_set_94 (pc' := 95) (ls' := [_, _, _, _, _]) (st' := [_, _, _]) (cs := []) rfl trivial ?_
                                              refine aw_ciS (rest := []) (c_X12_in (by omega) (by omega) (by omega)) kX12_in eX12_set_95 lX12_set_95 rfl rfl (Nat.le_of_ble_eq_true rfl) ⟨Nat.le_of_ble_eq_true rfl, Nat.le_of_ble_eq_true rfl⟩ ⟨Nat.le_refl _, Nat.le_refl _⟩ ?_
                                              refine aw_if_ne (tgt := 104) eX12_set_98 (by decide) bt_r (fun hh => have h450 := bt1 hh; ?_) (fun hh => have h450 := bt0 hh; ?_)
                                              · first
                                                | (exfalso; omega; done)
                                                | (refine aw_blk oX12_set_104 (pc' := 121) (ls' := [_, _, _, _, _]) (st' := [_]) (cs := [(_, _), (_, _)]) rfl (⟨⟨by omega, by omega⟩, ⟨by omega, by omega⟩, trivial⟩) ?_
                                                   refine aw_iret eX12_set_121 rfl (Nat.le_refl _) (Nat.le_refl _) ?_
                                                   exact pe_i rfl rfl rfl)
                                              · first
                                                | (exfalso; omega; done)
                                                | (refine aw_blk oX12_set_101 (pc' := 103) (ls' := [_, _, _, _, _]) (st' := [_]) (cs := []) rfl trivial ?_
                                                   refine aw_iret eX12_set_103 rfl (Nat.le_refl _) (Nat.le_refl _) ?_
                                                   exact pe_i rfl rfl rfl)))))
                          · first
                            | (exfalso; omega; done)
                            | (refine aw_blk oX12_set_48 (pc' := 76) (ls' := [_, _, _, _, _]) (st' := [_]) (cs := []) rfl trivial ?_
                               refine aw_blk oX12_set_76 (pc' := 80) (ls' := [_, _, _, _, _]) (st' := [_, _, _]) (cs := []) rfl trivial ?_
                               refine aw_icmp_eq (tgt := 89) eX12_set_80 (by decide) (by omega) (by omega) (fun h451 => ?_) (fun h451 => ?_)
                               · first
                                 | (exfalso; omega; done)
                                 | (refine aw_blk oX12_set_89 (pc' := 94) (ls' := [_, _, _, _, _]) (st' := [_, _]) (cs := []) rfl trivial ?_
                                    refine aw_blk oX12_set_94 (pc' := 95) (ls' := [_, _, _, _, _]) (st' := [_, _, _]) (cs := []) rfl trivial ?_
                                    refine aw_ciS (rest := []) (c_X12_in (by omega) (by omega) (by omega)) kX12_in eX12_set_95 lX12_set_95 rfl rfl (Nat.le_of_ble_eq_true rfl) ⟨Nat.le_of_ble_eq_true rfl, Nat.le_of_ble_eq_true rfl⟩ ⟨Nat.le_refl _, Nat.le_refl _⟩ ?_
                                    refine aw_if_ne (tgt := 104) eX12_set_98 (by decide) bt_r (fun hh => have h452 := bt1 hh; ?_) (fun hh => have h452 := bt0 hh; ?_)
                                    · first
                                      | (exfalso; omega; done)
                                      | (refine aw_blk oX12_set_104 (pc' := 121) (ls' := [_, _, _, _, _]) (st' := [_]) (cs := [(_, _), (_, _)]) rfl (⟨⟨by omega, by omega⟩, ⟨by omega, by omega⟩, trivial⟩) ?_
                                         refine aw_iret eX12_set_121 rfl (Nat.le_refl _) (Nat.le_refl _) ?_
                                         exact pe_i rfl rfl rfl)
                                    · first
                                      | (exfalso; omega; done)
                                      | (refine aw_blk oX12_set_101 (pc' := 103) (ls' := [_, _, _, _, _]) (st' := [_]) (cs := []) rfl trivial ?_
                                         refine aw_iret eX12_set_103 rfl (Nat.le_refl _) (Nat.le_refl _) ?_
                                         exact pe_i rfl rfl rfl))
                               · first
                                 | (exfalso; omega; done)
                                 | (refine aw_blk oX12_set_83 (pc' := 86) (ls' := [_, _, _, _, _]) (st' := [_, _, _]) (cs := []) rfl trivial ?_
                                    refine aw_icmp_ne (tgt := 93) eX12_set_86 (by decide) (by omega) (by omega) (fun h453 => ?_) (fun h453 => ?_)
                                    · first
                                      | (exfalso; omega; done)
                                      | (refine aw_blk oX12_set_93 (pc' := 94) (ls' := [_, _, _, _, _]) (st' := [_, _]) (cs := []) rfl trivial ?_
                                         refine aw_blk oX12_set_94 (pc' := 95) (ls' := [_, _, _, _, _]) (st' := [_, _, _]) (cs := []) rfl trivial ?_
                                         refine aw_ciS (rest := []) (c_X12_in (by omega) (by omega) (by omega)) kX12_in eX12_set_95 lX12_set_95 rfl rfl (Nat.le_of_ble_eq_true rfl) ⟨Nat.le_of_ble_eq_true rfl, Nat.le_of_ble_eq_true rfl⟩ ⟨Nat.le_refl _, Nat.le_refl _⟩ ?_
                                         refine aw_if_ne (tgt := 104) eX12_set_98 (by decide) bt_r (fun hh => have h454 := bt1 hh; ?_) (fun hh => have h454 := bt0 hh; ?_)
                                         · first
                                           | (exfalso; omega; done)
                                           | (refine aw_blk oX12_set_104 (pc' := 121) (ls' := [_, _, _, _, _]) (st' := [_]) (cs := [(_, _), (_, _)]) rfl (⟨⟨by omega, by omega⟩, ⟨by omega, by omega⟩, trivial⟩) ?_
                                              refine aw_iret eX12_set_121 rfl (Nat.le_refl _) (Nat.le_refl _) ?_
                                              exact pe_i rfl rfl rfl)
                                         · first
                                           | (exfalso; omega; done)
                                           | (refine aw_blk oX12_set_101 (pc' := 103) (ls' := [_, _, _, _, _]) (st' := [_]) (cs := []) rfl trivial ?_
                                              refine aw_iret eX12_set_103 rfl (Nat.le_refl _) (Nat.le_refl _) ?_
                                              exact pe_i rfl rfl rfl))
                                    · first
                                      | (exfalso; omega; done)
                                      | (refine aw_blk oX12_set_89 (pc' := 94) (ls' := [_, _, _, _, _]) (st' := [_, _]) (cs := []) rfl trivial ?_
                                         refine aw_blk oX12_set_94 (pc' := 95) (ls' := [_, _, _, _, _]) (st' := [_, _, _]) (cs := []) rfl trivial ?_
                                         refine aw_ciS (rest := []) (c_X12_in (by omega) (by omega) (by omega)) kX12_in eX12_set_95 lX12_set_95 rfl rfl (Nat.le_of_ble_eq_true rfl) ⟨Nat.le_of_ble_eq_true rfl, Nat.le_of_ble_eq_true rfl⟩ ⟨Nat.le_refl _, Nat.le_refl _⟩ ?_
                                         refine aw_if_ne (tgt := 104) eX12_set_98 (by decide) bt_r (fun hh => have h455 := bt1 hh; ?_) (fun hh => have h455 := bt0 hh; ?_)
                                         · first
                                           | (exfalso; omega; done)
                                           | (refine aw_blk oX12_set_104 (pc' := 121) (ls' := [_, _, _, _, _]) (st' := [_]) (cs := [(_, _), (_, _)]) rfl (⟨⟨by omega, by omega⟩, ⟨by omega, by omega⟩, trivial⟩) ?_
                                              refine aw_iret eX12_set_121 rfl (Nat.le_refl _) (Nat.le_refl _) ?_
                                              exact pe_i rfl rfl rfl)
                                         · first
                                           | (exfalso; omega; done)
                                           | (refine aw_blk oX12_set_101 (pc' := 103) (ls' := [_, _, _, _, _]) (st' := [_]) (cs := []) rfl trivial ?_
                                              refine aw_iret eX12_set_103 rfl (Nat.le_refl _) (Nat.le_refl _) ?_
                                              exact pe_i rfl rfl rfl)))))
                     · first
                       | (exfalso; omega; done)
                       | (refine aw_blk oX12_set_38 (pc' := 76) (ls' := [_, _, _, _, _]) (st' := [_]) (cs := []) rfl trivial ?_
                          refine aw_blk oX12_set_76 (pc' := 80) (ls' := [_, _, _, _, _]) (st' := [_, _, _]) (cs := []) rfl trivial ?_
                          refine aw_icmp_eq (tgt := 89) eX12_set_80 (by decide) (by omega) (by omega) (fun h456 => ?_) (fun h456 => ?_)
                          · first
                            | (exfalso; omega; done)
                            | (refine aw_blk oX12_set_89 (pc' := 94) (ls' := [_, _, _, _, _]) (st' := [_, _]) (cs := []) rfl trivial ?_
                               refine aw_blk oX12_set_94 (pc' := 95) (ls' := [_, _, _, _, _]) (st' := [_, _, _]) (cs := []) rfl trivial ?_
                               refine aw_ciS (rest := []) (c_X12_in (by omega) (by omega) (by omega)) kX12_in eX12_set_95 lX12_set_95 rfl rfl (Nat.le_of_ble_eq_true rfl) ⟨Nat.le_of_ble_eq_true rfl, Nat.le_of_ble_eq_true rfl⟩ ⟨Nat.le_refl _, Nat.le_refl _⟩ ?_
                               refine aw_if_ne (tgt := 104) eX12_set_98 (by decide) bt_r (fun hh => have h457 := bt1 hh; ?_) (fun hh => have h457 := bt0 hh; ?_)
                               · first
                                 | (exfalso; omega; done)
                                 | (refine aw_blk oX12_set_104 (pc' := 121) (ls' := [_, _, _, _, _]) (st' := [_]) (cs := [(_, _), (_, _)]) rfl (⟨⟨by omega, by omega⟩, ⟨by omega, by omega⟩, trivial⟩) ?_
                                    refine aw_iret eX12_set_121 rfl (Nat.le_refl _) (Nat.le_refl _) ?_
                                    exact pe_i rfl rfl rfl)
                               · first
                                 | (exfalso; omega; done)
                                 | (refine aw_blk oX12_set_101 (pc' := 103) (ls' := [_, _, _, _, _]) (st' := [_]) (cs := []) rfl trivial ?_
                                    refine aw_iret eX12_set_103 rfl (Nat.le_refl _) (Nat.le_refl _) ?_
                                    exact pe_i rfl rfl rfl))
                          · first
                            | (exfalso; omega; done)
                            | (refine aw_blk oX12_set_83 (pc' := 86) (ls' := [_, _, _, _, _]) (st' := [_, _, _]) (cs := []) rfl trivial ?_
                               refine aw_icmp_ne (tgt := 93) eX12_set_86 (by decide) (by omega) (by omega) (fun h458 => ?_) (fun h458 => ?_)
                               · first
                                 | (exfalso; omega; done)
                                 | (refine aw_blk oX12_set_93 (pc' := 94) (ls' := [_, _, _, _, _]) (st' := [_, _]) (cs := []) rfl trivial ?_
                                    refine aw_blk oX12_set_94 (pc' := 95) (ls' := [_, _, _, _, _]) (st' := [_, _, _]) (cs := []) rfl trivial ?_
                                    refine aw_ciS (rest := []) (c_X12_in (by omega) (by omega) (by omega)) kX12_in eX12_set_95 lX12_set_95 rfl rfl (Nat.le_of_ble_eq_true rfl) ⟨Nat.le_of_ble_eq_true rfl, Nat.le_of_ble_eq_true rfl⟩ ⟨Nat.le_refl _, Nat.le_refl _⟩ ?_
                                    refine aw_if_ne (tgt := 104) eX12_set_98 (by decide) bt_r (fun hh => have h459 := bt1 hh; ?_) (fun hh => have h459 := bt0 hh; ?_)
                                    · first
                                      | (exfalso; omega; done)
                                      | (refine aw_blk oX12_set_104 (pc' := 121) (ls' := [_, _, _, _, _]) (st' := [_]) (cs := [(_, _), (_, _)]) rfl (⟨⟨by omega, by omega⟩, ⟨by omega, by omega⟩, trivial⟩) ?_
                                         refine aw_iret eX12_set_121 rfl (Nat.le_refl _) (Nat.le_refl _) ?_
                                         exact pe_i rfl rfl rfl)
                                    · first
                                      | (exfalso; omega; done)
                                      | (refine aw_blk oX12_set_101 (pc' := 103) (ls' := [_, _, _, _, _]) (st' := [_]) (cs := []) rfl trivial ?_
                                         refine aw_iret eX12_set_103 rfl (Nat.le_refl _) (Nat.le_refl _) ?_
                                         exact pe_i rfl rfl rfl))
                               · first
                                 | (exfalso; omega; done)
                                 | (refine aw_blk oX12_set_89 (pc' := 94) (ls' := [_, _, _, _, _]) (st' := [_, _]) (cs := []) rfl trivial ?_
                                    refine aw_blk oX12_set_94 (pc' := 95) (ls' := [_, _, _, _, _]) (st' := [_, _, _]) (cs := []) rfl trivial ?_
                                    refine aw_ciS (rest := []) (c_X12_in (by omega) (by omega) (by omega)) kX12_in eX12_set_95 lX12_set_95 rfl rfl (Nat.le_of_ble_eq_true rfl) ⟨Nat.le_of_ble_eq_true rfl, Nat.le_of_ble_eq_true rfl⟩ ⟨Nat.le_refl _, Nat.le_refl _⟩ ?_
                                    refine aw_if_ne (tgt := 104) eX12_set_98 (by decide) bt_r (fun hh => have h460 := bt1 hh; ?_) (fun hh => have h460 := bt0 hh; ?_)
                                    · first
                                      | (exfalso; omega; done)
                                      | (refine aw_blk oX12_set_104 (pc' := 121) (ls' := [_, _, _, _, _]) (st' := [_]) (cs := [(_, _), (_, _)]) rfl (⟨⟨by omega, by omega⟩, ⟨by omega, by omega⟩, trivial⟩) ?_
                                         refine aw_iret eX12_set_121 rfl (Nat.le_refl _) (Nat.le_refl _) ?_
                                         exact pe_i rfl rfl rfl)
                                    · first
                                      | (exfalso; omega; done)
                                      | (refine aw_blk oX12_set_101 (pc' := 103) (ls' := [_, _, _, _, _]) (st' := [_]) (cs := []) rfl trivial ?_
                                         refine aw_iret eX12_set_103 rfl (Nat.le_refl _) (Nat.le_refl _) ?_
                                         exact pe_i rfl rfl rfl)))))
                · first
                  | (exfalso; omega; done)
                  | (refine aw_blk oX12_set_27 (pc' := 76) (ls' := [_, _, _, _, _]) (st' := [_]) (cs := []) rfl trivial ?_
                     refine aw_blk oX12_set_76 (pc' := 80) (ls' := [_, _, _, _, _]) (st' := [_, _, _]) (cs := []) rfl trivial ?_
                     refine aw_icmp_eq (tgt := 89) eX12_set_80 (by decide) (by omega) (by omega) (fun h461 => ?_) (fun h461 => ?_)
                     · first
                       | (exfalso; omega; done)
                       | (refine aw_blk oX12_set_89 (pc' := 94) (ls' := [_, _, _, _, _]) (st' := [_, _]) (cs := []) rfl trivial ?_
                          refine aw_blk oX12_set_94 (pc' := 95) (ls' := [_, _, _, _, _]) (st' := [_, _, _]) (cs := []) rfl trivial ?_
                          refine aw_ciS (rest := []) (c_X12_in (by omega) (by omega) (by omega)) kX12_in eX12_set_95 lX12_set_95 rfl rfl (Nat.le_of_ble_eq_true rfl) ⟨Nat.le_of_ble_eq_true rfl, Nat.le_of_ble_eq_true rfl⟩ ⟨Nat.le_refl _, Nat.le_refl _⟩ ?_
                          refine aw_if_ne (tgt := 104) eX12_set_98 (by decide) bt_r (fun hh => have h462 := bt1 hh; ?_) (fun hh => have h462 := bt0 hh; ?_)
                          · first
                            | (exfalso; omega; done)
                            | (refine aw_blk oX12_set_104 (pc' := 121) (ls' := [_, _, _, _, _]) (st' := [_]) (cs := [(_, _), (_, _)]) rfl (⟨⟨by omega, by omega⟩, ⟨by omega, by omega⟩, trivial⟩) ?_
                               refine aw_iret eX12_set_121 rfl (Nat.le_refl _) (Nat.le_refl _) ?_
                               exact pe_i rfl rfl rfl)
                          · first
                            | (exfalso; omega; done)
                            | (refine aw_blk oX12_set_101 (pc' := 103) (ls' := [_, _, _, _, _]) (st' := [_]) (cs := []) rfl trivial ?_
                               refine aw_iret eX12_set_103 rfl (Nat.le_refl _) (Nat.le_refl _) ?_
                               exact pe_i rfl rfl rfl))
                     · first
                       | (exfalso; omega; done)
                       | (refine aw_blk oX12_set_83 (pc' := 86) (ls' := [_, _, _, _, _]) (st' := [_, _, _]) (cs := []) rfl trivial ?_
                          refine aw_icmp_ne (tgt := 93) eX12_set_86 (by decide) (by omega) (by omega) (fun h463 => ?_) (fun h463 => ?_)
                          · first
                            | (exfalso; omega; done)
                            | (refine aw_blk oX12_set_93 (pc' := 94) (ls' := [_, _, _, _, _]) (st' := [_, _]) (cs := []) rfl trivial ?_
                               refine aw_blk oX12_set_94 (pc' := 95) (ls' := [_, _, _, _, _]) (st' := [_, _, _]) (cs := []) rfl trivial ?_
                               refine aw_ciS (rest := []) (c_X12_in (by omega) (by omega) (by omega)) kX12_in eX12_set_95 lX12_set_95 rfl rfl (Nat.le_of_ble_eq_true rfl) ⟨Nat.le_of_ble_eq_true rfl, Nat.le_of_ble_eq_true rfl⟩ ⟨Nat.le_refl _, Nat.le_refl _⟩ ?_
                               refine aw_if_ne (tgt := 104) eX12_set_98 (by decide) bt_r (fun hh => have h464 := bt1 hh; ?_) (fun hh => have h464 := bt0 hh; ?_)
                               · first
                                 | (exfalso; omega; done)
                                 | (refine aw_blk oX12_set_104 (pc' := 121) (ls' := [_, _, _, _, _]) (st' := [_]) (cs := [(_, _), (_, _)]) rfl (⟨⟨by omega, by omega⟩, ⟨by omega, by omega⟩, trivial⟩) ?_
                                    refine aw_iret eX12_set_121 rfl (Nat.le_refl _) (Nat.le_refl _) ?_
                                    exact pe_i rfl rfl rfl)
                               · first
                                 | (exfalso; omega; done)
                                 | (refine aw_blk oX12_set_101 (pc' := 103) (ls' := [_, _, _, _, _]) (st' := [_]) (cs := []) rfl trivial ?_
                                    refine aw_iret eX12_set_103 rfl (Nat.le_refl _) (Nat.le_refl _) ?_
                                    exact pe_i rfl rfl rfl))
                          · first
                            | (exfalso; omega; done)
                            | (refine aw_blk oX12_set_89 (pc' := 94) (ls' := [_, _, _, _, _]) (st' := [_, _]) (cs := []) rfl trivial ?_
                               refine aw_blk oX12_set_94 (pc' := 95) (ls' := [_, _, _, _, _]) (st' := [_, _, _]) (cs := []) rfl trivial ?_
                               refine aw_ciS (rest := []) (c_X12_in (by omega) (by omega) (by omega)) kX12_in eX12_set_95 lX12_set_95 rfl rfl (Nat.le_of_ble_eq_true rfl) ⟨Nat.le_of_ble_eq_true rfl, Nat.le_of_ble_eq_true rfl⟩ ⟨Nat.le_refl _, Nat.le_refl _⟩ ?_
                               refine aw_if_ne (tgt := 104) eX12_set_98 (by decide) bt_r (fun hh => have h465 := bt1 hh; ?_) (fun hh => have h465 := bt0 hh; ?_)
                               · first
                                 | (exfalso; omega; done)
                                 | (refine aw_blk oX12_set_104 (pc' := 121) (ls' := [_, _, _, _, _]) (st' := [_]) (cs := [(_, _), (_, _)]) rfl (⟨⟨by omega, by omega⟩, ⟨by omega, by omega⟩, trivial⟩) ?_
                                    refine aw_iret eX12_set_121 rfl (Nat.le_refl _) (Nat.le_refl _) ?_
                                    exact pe_i rfl rfl rfl)
                               · first
                                 | (exfalso; omega; done)
                                 | (refine aw_blk oX12_set_101 (pc' := 103) (ls' := [_, _, _, _, _]) (st' := [_]) (cs := []) rfl trivial ?_
                                    refine aw_iret eX12_set_103 rfl (Nat.le_refl _) (Nat.le_refl _) ?_
                                    exact pe_i rfl rfl rfl)))))
           · first
             | (exfalso; omega; done)
             | (refine aw_blk oX12_set_17 (pc' := 76) (ls' := [_, _, _, _, _]) (st' := [_]) (cs := []) rfl trivial ?_
                refine aw_blk oX12_set_76 (pc' := 80) (ls' := [_, _, _, _, _]) (st' := [_, _, _]) (cs := []) rfl trivial ?_
                refine aw_icmp_eq (tgt := 89) eX12_set_80 (by decide) (by omega) (by omega) (fun h466 => ?_) (fun h466 => ?_)
                · first
                  | (exfalso; omega; done)
                  | (refine aw_blk oX12_set_89 (pc' := 94) (ls' := [_, _, _, _, _]) (st' := [_, _]) (cs := []) rfl trivial ?_
                     refine aw_blk oX12_set_94 (pc' := 95) (ls' := [_, _, _, _, _]) (st' := [_, _, _]) (cs := []) rfl trivial ?_
                     refine aw_ciS (rest := []) (c_X12_in (by omega) (by omega) (by omega)) kX12_in eX12_set_95 lX12_set_95 rfl rfl (Nat.le_of_ble_eq_true rfl) ⟨Nat.le_of_ble_eq_true rfl, Nat.le_of_ble_eq_true rfl⟩ ⟨Nat.le_refl _, Nat.le_refl _⟩ ?_
                     refine aw_if_ne (tgt := 104) eX12_set_98 (by decide) bt_r (fun hh => have h467 := bt1 hh; ?_) (fun hh => have h467 := bt0 hh; ?_)
                     · first
                       | (exfalso; omega; done)
                       | (refine aw_blk oX12_set_104 (pc' := 121) (ls' := [_, _, _, _, _]) (st' := [_]) (cs := [(_, _), (_, _)]) rfl (⟨⟨by omega, by omega⟩, ⟨by omega, by omega⟩, trivial⟩) ?_
                          refine aw_iret eX12_set_121 rfl (Nat.le_refl _) (Nat.le_refl _) ?_
                          exact pe_i rfl rfl rfl)
                     · first
                       | (exfalso; omega; done)
                       | (refine aw_blk oX12_set_101 (pc' := 103) (ls' := [_, _, _, _, _]) (st' := [_]) (cs := []) rfl trivial ?_
                          refine aw_iret eX12_set_103 rfl (Nat.le_refl _) (Nat.le_refl _) ?_
                          exact pe_i rfl rfl rfl))
                · first
                  | (exfalso; omega; done)
                  | (refine aw_blk oX12_set_83 (pc' := 86) (ls' := [_, _, _, _, _]) (st' := [_, _, _]) (cs := []) rfl trivial ?_
                     refine aw_icmp_ne (tgt := 93) eX12_set_86 (by decide) (by omega) (by omega) (fun h468 => ?_) (fun h468 => ?_)
                     · first
                       | (exfalso; omega; done)
                       | (refine aw_blk oX12_set_93 (pc' := 94) (ls' := [_, _, _, _, _]) (st' := [_, _]) (cs := []) rfl trivial ?_
                          refine aw_blk oX12_set_94 (pc' := 95) (ls' := [_, _, _, _, _]) (st' := [_, _, _]) (cs := []) rfl trivial ?_
                          refine aw_ciS (rest := []) (c_X12_in (by omega) (by omega) (by omega)) kX12_in eX12_set_95 lX12_set_95 rfl rfl (Nat.le_of_ble_eq_true rfl) ⟨Nat.le_of_ble_eq_true rfl, Nat.le_of_ble_eq_true rfl⟩ ⟨Nat.le_refl _, Nat.le_refl _⟩ ?_
                          refine aw_if_ne (tgt := 104) eX12_set_98 (by decide) bt_r (fun hh => have h469 := bt1 hh; ?_) (fun hh => have h469 := bt0 hh; ?_)
                          · first
                            | (exfalso; omega; done)
                            | (refine aw_blk oX12_set_104 (pc' := 121) (ls' := [_, _, _, _, _]) (st' := [_]) (cs := [(_, _), (_, _)]) rfl (⟨⟨by omega, by omega⟩, ⟨by omega, by omega⟩, trivial⟩) ?_
                               refine aw_iret eX12_set_121 rfl (Nat.le_refl _) (Nat.le_refl _) ?_
                               exact pe_i rfl rfl rfl)
                          · first
                            | (exfalso; omega; done)
                            | (refine aw_blk oX12_set_101 (pc' := 103) (ls' := [_, _, _, _, _]) (st' := [_]) (cs := []) rfl trivial ?_
                               refine aw_iret eX12_set_103 rfl (Nat.le_refl _) (Nat.le_refl _) ?_
                               exact pe_i rfl rfl rfl))
                     · first
                       | (exfalso; omega; done)
                       | (refine aw_blk oX12_set_89 (pc' := 94) (ls' := [_, _, _, _, _]) (st' := [_, _]) (cs := []) rfl trivial ?_
                          refine aw_blk oX12_set_94 (pc' := 95) (ls' := [_, _, _, _, _]) (st' := [_, _, _]) (cs := []) rfl trivial ?_
                          refine aw_ciS (rest := []) (c_X12_in (by omega) (by omega) (by omega)) kX12_in eX12_set_95 lX12_set_95 rfl rfl (Nat.le_of_ble_eq_true rfl) ⟨Nat.le_of_ble_eq_true rfl, Nat.le_of_ble_eq_true rfl⟩ ⟨Nat.le_refl _, Nat.le_refl _⟩ ?_
                          refine aw_if_ne (tgt := 104) eX12_set_98 (by decide) bt_r (fun hh => have h470 := bt1 hh; ?_) (fun hh => have h470 := bt0 hh; ?_)
                          · first
                            | (exfalso; omega; done)
                            | (refine aw_blk oX12_set_104 (pc' := 121) (ls' := [_, _, _, _, _]) (st' := [_]) (cs := [(_, _), (_, _)]) rfl (⟨⟨by omega, by omega⟩, ⟨by omega, by omega⟩, trivial⟩) ?_
                               refine aw_iret eX12_set_121 rfl (Nat.le_refl _) (Nat.le_refl _) ?_
                               exact pe_i rfl rfl rfl)
                          · first
                            | (exfalso; omega; done)
                            | (refine aw_blk oX12_set_101 (pc' := 103) (ls' := [_, _, _, _, _]) (st' := [_]) (cs := []) rfl trivial ?_
                               refine aw_iret eX12_set_103 rfl (Nat.le_refl _) (Nat.le_refl _) ?_
                               exact pe_i rfl rfl rfl)))))
      · first
        | (exfalso; omega; done)
        | (refine aw_blk oX12_set_10 (pc' := 12) (ls' := [_, _, _, _, _]) (st' := [_]) (cs := []) rfl trivial ?_
           refine aw_iret eX12_set_12 rfl (Nat.le_refl _) (Nat.le_refl _) ?_
           exact pe_i rfl rfl rfl)
theorem set_5 {κ : KX} {μ : MM} {ν : ML} {v : Int} (h : RS μ) (hc : 0 ≤ μ 2 8 ∧ μ 2 8 ≤ 10) (hv : R32 v) : LawT κ mX11_set mX12_set [aI 5, aI v] μ ν := by
  have s := h 5 (by decide) (by decide)
  have v0 : stv 0 5 = 0 := rfl
  have l0 : ((stA 0).length : Int) = 7 := rfl
  have l1 : ((stA 1).length : Int) = 7 := rfl
  have v1 : stv 1 5 = 1000 := rfl
  have hc' : R32 (up μ 1 5 v 2 8) := (by omega : R32 (μ 2 8))
  by_cases c1 : 0 ≤ v ∧ v ≤ 1000
  · refine ⟨μ 1 5, up μ 1 5 v, ν, up (up μ 1 5 v) 58 5 v, ?_, ?_, by omega, rfl, Or.inr ⟨?_, ?_, ?_, ?_, ?_⟩⟩
    · refine AMet.of kX11_set.1 (Nat.le_of_ble_eq_true rfl) rfl ?_
      refine aw_blk oX11_set_0 (pc' := 4) (ls' := [_, _, _, _]) (st' := [_, _, _]) (cs := []) rfl trivial ?_
      refine aw_ciS (rest := []) (c_X11_between (by omega) (by omega) (by omega)) kX11_between eX11_set_4 lX11_set_4 rfl rfl (Nat.le_of_ble_eq_true rfl) ⟨Nat.le_of_ble_eq_true rfl, Nat.le_of_ble_eq_true rfl⟩ ⟨Nat.le_refl _, Nat.le_refl _⟩ ?_
      refine aw_if_eq (tgt := 27) eX11_set_7 (by decide) bt_r (fun hh => have h471 := bt0 hh; ?_) (fun hh => have h471 := bt1 hh; ?_)
      · first
        | (exfalso; omega; done)
        | (refine aw_blk oX11_set_27 (pc' := 29) (ls' := [_, _, _, _]) (st' := [_]) (cs := []) rfl trivial ?_
           refine aw_iret eX11_set_29 rfl (Nat.le_refl _) (Nat.le_refl _) ?_
           exact pe_i rfl rfl rfl)
      · first
        | (exfalso; omega; done)
        | (refine aw_blk oX11_set_10 (pc' := 21) (ls' := [_, _, _, _]) (st' := [_, _, _]) (cs := [(_, _), (_, _)]) rfl (⟨⟨by omega, by omega⟩, ⟨by omega, by omega⟩, trivial⟩) ?_
           refine aw_ciS (rest := []) (c_X11_between (by omega) (by omega) (by omega)) kX11_between eX11_set_21 lX11_set_21 rfl rfl (Nat.le_of_ble_eq_true rfl) ⟨Nat.le_of_ble_eq_true rfl, Nat.le_of_ble_eq_true rfl⟩ ⟨Nat.le_refl _, Nat.le_refl _⟩ ?_
           refine aw_if_ne (tgt := 30) eX11_set_24 (by decide) bt_r (fun hh => have h472 := bt1 hh; ?_) (fun hh => have h472 := bt0 hh; ?_)
           · first
             | (exfalso; omega; done)
             | (refine aw_blk oX11_set_30 (pc' := 45) (ls' := [_, _, _, _]) (st' := [_]) (cs := [(_, _), (_, _)]) rfl (⟨⟨by omega, by omega⟩, ⟨by omega, by omega⟩, trivial⟩) ?_
                refine aw_if_ne (tgt := 56) eX11_set_45 (by decide) (by omega) (fun h473 => ?_) (fun h473 => ?_)
                · first
                  | (exfalso; omega; done)
                  | (refine aw_blk oX11_set_56 (pc' := 58) (ls' := [_, _, _, _]) (st' := [_, _]) (cs := []) rfl trivial ?_
                     refine aw_icmp_ne (tgt := 65) eX11_set_58 (by decide) (by omega) (by omega) (fun h474 => ?_) (fun h474 => ?_)
                     · first
                       | (exfalso; omega; done)
                       | (refine aw_blk oX11_set_65 (pc' := 66) (ls' := [_, _, _, _]) (st' := [_]) (cs := []) rfl trivial ?_
                          refine aw_iret eX11_set_66 rfl (Nat.le_refl _) (Nat.le_refl _) ?_
                          exact pe_i rfl rfl rfl)
                     · first
                       | (exfalso; omega; done)
                       | (refine aw_blk oX11_set_61 (pc' := 62) (ls' := [_, _, _, _]) (st' := [_]) (cs := []) rfl trivial ?_
                          refine aw_cvV (rest := []) (c_forget) kX11_forgetShows eX11_set_62 lX11_set_62 rfl rfl rfl rfl (Nat.le_of_ble_eq_true rfl) ⟨Nat.le_of_ble_eq_true rfl, Nat.le_of_ble_eq_true rfl⟩ ⟨Nat.le_refl _, Nat.le_refl _⟩ ?_
                          refine aw_blk oX11_set_65 (pc' := 66) (ls' := [_, _, _, _]) (st' := [_]) (cs := []) rfl trivial ?_
                          refine aw_iret eX11_set_66 rfl (Nat.le_refl _) (Nat.le_refl _) ?_
                          exact pe_i rfl rfl rfl))
                · first
                  | (exfalso; omega; done)
                  | (refine aw_blk oX11_set_48 (pc' := 53) (ls' := [_, _, _, _]) (st' := [_, _]) (cs := []) rfl trivial ?_
                     refine aw_cvV (rest := []) (c_forgetCuts (by omega) (by omega)) kX3_forgetCutsFrom eX11_set_53 lX11_set_53 rfl rfl rfl rfl (Nat.le_of_ble_eq_true rfl) ⟨Nat.le_of_ble_eq_true rfl, Nat.le_of_ble_eq_true rfl⟩ ⟨Nat.le_refl _, Nat.le_refl _⟩ ?_
                     refine aw_blk oX11_set_56 (pc' := 58) (ls' := [_, _, _, _]) (st' := [_, _]) (cs := []) rfl trivial ?_
                     refine aw_icmp_ne (tgt := 65) eX11_set_58 (by decide) (by omega) (by omega) (fun h475 => ?_) (fun h475 => ?_)
                     · first
                       | (exfalso; omega; done)
                       | (refine aw_blk oX11_set_65 (pc' := 66) (ls' := [_, _, _, _]) (st' := [_]) (cs := []) rfl trivial ?_
                          refine aw_iret eX11_set_66 rfl (Nat.le_refl _) (Nat.le_refl _) ?_
                          exact pe_i rfl rfl rfl)
                     · first
                       | (exfalso; omega; done)
                       | (refine aw_blk oX11_set_61 (pc' := 62) (ls' := [_, _, _, _]) (st' := [_]) (cs := []) rfl trivial ?_
                          refine aw_cvV (rest := []) (c_forget) kX11_forgetShows eX11_set_62 lX11_set_62 rfl rfl rfl rfl (Nat.le_of_ble_eq_true rfl) ⟨Nat.le_of_ble_eq_true rfl, Nat.le_of_ble_eq_true rfl⟩ ⟨Nat.le_refl _, Nat.le_refl _⟩ ?_
                          refine aw_blk oX11_set_65 (pc' := 66) (ls' := [_, _, _, _]) (st' := [_]) (cs := []) rfl trivial ?_
                          refine aw_iret eX11_set_66 rfl (Nat.le_refl _) (Nat.le_refl _) ?_
                          exact pe_i rfl rfl rfl)))
           · first
             | (exfalso; omega; done)
             | (refine aw_blk oX11_set_27 (pc' := 29) (ls' := [_, _, _, _]) (st' := [_]) (cs := []) rfl trivial ?_
                refine aw_iret eX11_set_29 rfl (Nat.le_refl _) (Nat.le_refl _) ?_
                exact pe_i rfl rfl rfl))
    · refine AMet.of kX12_set.1 (Nat.le_of_ble_eq_true rfl) rfl ?_
      refine aw_blk oX12_set_0 (pc' := 4) (ls' := [_, _, _, _, _]) (st' := [_, _, _]) (cs := []) rfl trivial ?_
      refine aw_ciS (rest := []) (c_X12_in (by omega) (by omega) (by omega)) kX12_in eX12_set_4 lX12_set_4 rfl rfl (Nat.le_of_ble_eq_true rfl) ⟨Nat.le_of_ble_eq_true rfl, Nat.le_of_ble_eq_true rfl⟩ ⟨Nat.le_refl _, Nat.le_refl _⟩ ?_
      refine aw_if_ne (tgt := 13) eX12_set_7 (by decide) bt_r (fun hh => have h476 := bt1 hh; ?_) (fun hh => have h476 := bt0 hh; ?_)
      · first
        | (exfalso; omega; done)
        | (refine aw_blk oX12_set_13 (pc' := 14) (ls' := [_, _, _, _, _]) (st' := [_]) (cs := []) rfl trivial ?_
           refine aw_if_ne (tgt := 22) eX12_set_14 (by decide) (by omega) (fun h477 => ?_) (fun h477 => ?_)
           · first
             | (exfalso; omega; done)
             | (refine aw_blk oX12_set_22 (pc' := 24) (ls' := [_, _, _, _, _]) (st' := [_, _]) (cs := []) rfl trivial ?_
                refine aw_icmp_ne (tgt := 33) eX12_set_24 (by decide) (by omega) (by omega) (fun h478 => ?_) (fun h478 => ?_)
                · first
                  | (exfalso; omega; done)
                  | (refine aw_blk oX12_set_33 (pc' := 35) (ls' := [_, _, _, _, _]) (st' := [_, _]) (cs := []) rfl trivial ?_
                     refine aw_icmp_ne (tgt := 43) eX12_set_35 (by decide) (by omega) (by omega) (fun h479 => ?_) (fun h479 => ?_)
                     · first
                       | (exfalso; omega; done)
                       | (refine aw_blk oX12_set_43 (pc' := 45) (ls' := [_, _, _, _, _]) (st' := [_, _]) (cs := []) rfl trivial ?_
                          refine aw_icmp_ne (tgt := 53) eX12_set_45 (by decide) (by omega) (by omega) (fun h480 => ?_) (fun h480 => ?_)
                          · first
                            | (exfalso; omega; done)
                            | (refine aw_blk oX12_set_53 (pc' := 55) (ls' := [_, _, _, _, _]) (st' := [_, _]) (cs := []) rfl trivial ?_
                               refine aw_icmp_ne (tgt := 63) eX12_set_55 (by decide) (by omega) (by omega) (fun h481 => ?_) (fun h481 => ?_)
                               · first
                                 | (exfalso; omega; done)
                                 | (refine aw_blk oX12_set_63 (pc' := 65) (ls' := [_, _, _, _, _]) (st' := [_, _]) (cs := []) rfl trivial ?_
                                    refine aw_icmp_ne (tgt := 74) eX12_set_65 (by decide) (by omega) (by omega) (fun h482 => ?_) (fun h482 => ?_)
                                    · first
                                      | (exfalso; omega; done)
                                      | (refine aw_blk oX12_set_74 (pc' := 76) (ls' := [_, _, _, _, _]) (st' := [_]) (cs := []) rfl trivial ?_
                                         refine aw_blk oX12_set_76 (pc' := 80) (ls' := [_, _, _, _, _]) (st' := [_, _, _]) (cs := []) rfl trivial ?_
                                         refine aw_icmp_eq (tgt := 89) eX12_set_80 (by decide) (by omega) (by omega) (fun h483 => ?_) (fun h483 => ?_)
                                         · first
                                           | (exfalso; omega; done)
                                           | (refine aw_blk oX12_set_89 (pc' := 94) (ls' := [_, _, _, _, _]) (st' := [_, _]) (cs := []) rfl trivial ?_
                                              refine aw_blk oX12_set_94 (pc' := 95) (ls' := [_, _, _, _, _]) (st' := [_, _, _]) (cs := []) rfl trivial ?_
                                              refine aw_ciS (rest := []) (c_X12_in (by omega) (by omega) (by omega)) kX12_in eX12_set_95 lX12_set_95 rfl rfl (Nat.le_of_ble_eq_true rfl) ⟨Nat.le_of_ble_eq_true rfl, Nat.le_of_ble_eq_true rfl⟩ ⟨Nat.le_refl _, Nat.le_refl _⟩ ?_
                                              refine aw_if_ne (tgt := 104) eX12_set_98 (by decide) bt_r (fun hh => have h484 := bt1 hh; ?_) (fun hh => have h484 := bt0 hh; ?_)
                                              · first
                                                | (exfalso; omega; done)
                                                | (refine aw_blk oX12_set_104 (pc' := 121) (ls' := [_, _, _, _, _]) (st' := [_]) (cs := [(_, _), (_, _)]) rfl (⟨⟨by omega, by omega⟩, ⟨by omega, by omega⟩, trivial⟩) ?_
                                                   refine aw_iret eX12_set_121 rfl (Nat.le_refl _) (Nat.le_refl _) ?_
                                                   exact pe_i s.1 rfl rfl)
                                              · first
                                                | (exfalso; omega; done)
                                                | (refine aw_blk oX12_set_101 (pc' := 103) (ls' := [_, _, _, _, _]) (st' := [_]) (cs := []) rfl trivial ?_
                                                   refine aw_iret eX12_set_103 rfl (Nat.le_refl _) (Nat.le_refl _) ?_
                                                   exact pe_i s.1 rfl rfl))
                                         · first
                                           | (exfalso; omega; done)
                                           | (refine aw_blk oX12_set_83 (pc' := 86) (ls' := [_, _, _, _, _]) (st' := [_, _, _]) (cs := []) rfl trivial ?_
                                              refine aw_icmp_ne (tgt := 93) eX12_set_86 (by decide) (by omega) (by omega) (fun h485 => ?_) (fun h485 => ?_)
                                              · first
                                                | (exfalso; omega; done)
                                                | (refine aw_blk oX12_set_93 (pc' := 94) (ls' := [_, _, _, _, _]) (st' := [_, _]) (cs := []) rfl trivial ?_
                                                   refine aw_blk oX12_set_94 (pc' := 95) (ls' := [_, _, _, _, _]) (st' := [_, _, _]) (cs := []) rfl trivial ?_
                                                   refine aw_ciS (rest := []) (c_X12_in (by omega) (by omega) (by omega)) kX12_in eX12_set_95 lX12_set_95 rfl rfl (Nat.le_of_ble_eq_true rfl) ⟨Nat.le_of_ble_eq_true rfl, Nat.le_of_ble_eq_true rfl⟩ ⟨Nat.le_refl _, Nat.le_refl _⟩ ?_
                                                   refine aw_if_ne (tgt := 104) eX12_set_98 (by decide) bt_r (fun hh => have h486 := bt1 hh; ?_) (fun hh => have h486 := bt0 hh; ?_)
                                                   · first
                                                     | (exfalso; omega; done)
                                                     | (refine aw_blk oX12_set_104 (pc' := 121) (ls' := [_, _, _, _, _]) (st' := [_]) (cs := [(_, _), (_, _)]) rfl (⟨⟨by omega, by omega⟩, ⟨by omega, by omega⟩, trivial⟩) ?_
                                                        refine aw_iret eX12_set_121 rfl (Nat.le_refl _) (Nat.le_refl _) ?_
                                                        exact pe_i s.1 rfl rfl)
                                                   · first
                                                     | (exfalso; omega; done)
                                                     | (refine aw_blk oX12_set_101 (pc' := 103) (ls' := [_, _, _, _, _]) (st' := [_]) (cs := []) rfl trivial ?_
                                                        refine aw_iret eX12_set_103 rfl (Nat.le_refl _) (Nat.le_refl _) ?_
                                                        exact pe_i s.1 rfl rfl))
                                              · first
                                                | (exfalso; omega; done)
                                                | (refine aw_blk oX12_set_89 (pc' := 94) (ls' := [_, _, _, _, _]) (st' := [_, _]) (cs := []) rfl trivial ?_
                                                   refine aw_blk oX12_set_94 (pc' := 95) (ls' := [_, _, _, _, _]) (st' := [_, _, _]) (cs := []) rfl trivial ?_
                                                   refine aw_ciS (rest := []) (c_X12_in (by omega) (by omega) (by omega)) kX12_in eX12_set_95 lX12_set_95 rfl rfl (Nat.le_of_ble_eq_true rfl) ⟨Nat.le_of_ble_eq_true rfl, Nat.le_of_ble_eq_true rfl⟩ ⟨Nat.le_refl _, Nat.le_refl _⟩ ?_
                                                   refine aw_if_ne (tgt := 104) eX12_set_98 (by decide) bt_r (fun hh => have h487 := bt1 hh; ?_) (fun hh => have h487 := bt0 hh; ?_)
                                                   · first
                                                     | (exfalso; omega; done)
                                                     | (refine aw_blk oX12_set_104 (pc' := 121) (ls' := [_, _, _, _, _]) (st' := [_]) (cs := [(_, _), (_, _)]) rfl (⟨⟨by omega, by omega⟩, ⟨by omega, by omega⟩, trivial⟩) ?_
                                                        refine aw_iret eX12_set_121 rfl (Nat.le_refl _) (Nat.le_refl _) ?_
                                                        exact pe_i s.1 rfl rfl)
                                                   · first
                                                     | (exfalso; omega; done)
                                                     | (refine aw_blk oX12_set_101 (pc' := 103) (ls' := [_, _, _, _, _]) (st' := [_]) (cs := []) rfl trivial ?_
                                                        refine aw_iret eX12_set_103 rfl (Nat.le_refl _) (Nat.le_refl _) ?_
                                                        exact pe_i s.1 rfl rfl))))
                                    · first
                                      | (exfalso; omega; done)
                                      | (refine aw_blk oX12_set_68 (pc' := 76) (ls' := [_, _, _, _, _]) (st' := [_]) (cs := []) rfl trivial ?_
                                         refine aw_blk oX12_set_76 (pc' := 80) (ls' := [_, _, _, _, _]) (st' := [_, _, _]) (cs := []) rfl trivial ?_
                                         refine aw_icmp_eq (tgt := 89) eX12_set_80 (by decide) (by omega) (by omega) (fun h488 => ?_) (fun h488 => ?_)
                                         · first
                                           | (exfalso; omega; done)
                                           | (refine aw_blk oX12_set_89 (pc' := 94) (ls' := [_, _, _, _, _]) (st' := [_, _]) (cs := []) rfl trivial ?_
                                              refine aw_blk oX12_set_94 (pc' := 95) (ls' := [_, _, _, _, _]) (st' := [_, _, _]) (cs := []) rfl trivial ?_
                                              refine aw_ciS (rest := []) (c_X12_in (by omega) (by omega) (by omega)) kX12_in eX12_set_95 lX12_set_95 rfl rfl (Nat.le_of_ble_eq_true rfl) ⟨Nat.le_of_ble_eq_true rfl, Nat.le_of_ble_eq_true rfl⟩ ⟨Nat.le_refl _, Nat.le_refl _⟩ ?_
                                              refine aw_if_ne (tgt := 104) eX12_set_98 (by decide) bt_r (fun hh => have h489 := bt1 hh; ?_) (fun hh => have h489 := bt0 hh; ?_)
                                              · first
                                                | (exfalso; omega; done)
                                                | (refine aw_blk oX12_set_104 (pc' := 121) (ls' := [_, _, _, _, _]) (st' := [_]) (cs := [(_, _), (_, _)]) rfl (⟨⟨by omega, by omega⟩, ⟨by omega, by omega⟩, trivial⟩) ?_
                                                   refine aw_iret eX12_set_121 rfl (Nat.le_refl _) (Nat.le_refl _) ?_
                                                   exact pe_i s.1 rfl rfl)
                                              · first
                                                | (exfalso; omega; done)
                                                | (refine aw_blk oX12_set_101 (pc' := 103) (ls' := [_, _, _, _, _]) (st' := [_]) (cs := []) rfl trivial ?_
                                                   refine aw_iret eX12_set_103 rfl (Nat.le_refl _) (Nat.le_refl _) ?_
                                                   exact pe_i s.1 rfl rfl))
                                         · first
                                           | (exfalso; omega; done)
                                           | (refine aw_blk oX12_set_83 (pc' := 86) (ls' := [_, _, _, _, _]) (st' := [_, _, _]) (cs := []) rfl trivial ?_
                                              refine aw_icmp_ne (tgt := 93) eX12_set_86 (by decide) (by omega) (by omega) (fun h490 => ?_) (fun h490 => ?_)
                                              · first
                                                | (exfalso; omega; done)
                                                | (refine aw_blk oX12_set_93 (pc' := 94) (ls' := [_, _, _, _, _]) (st' := [_, _]) (cs := []) rfl trivial ?_
                                                   refine aw_blk oX12_set_94 (pc' := 95) (ls' := [_, _, _, _, _]) (st' := [_, _, _]) (cs := []) rfl trivial ?_
                                                   refine aw_ciS (rest := []) (c_X12_in (by omega) (by omega) (by omega)) kX12_in eX12_set_95 lX12_set_95 rfl rfl (Nat.le_of_ble_eq_true rfl) ⟨Nat.le_of_ble_eq_true rfl, Nat.le_of_ble_eq_true rfl⟩ ⟨Nat.le_refl _, Nat.le_refl _⟩ ?_
                                                   refine aw_if_ne (tgt := 104) eX12_set_98 (by decide) bt_r (fun hh => have h491 := bt1 hh; ?_) (fun hh => have h491 := bt0 hh; ?_)
                                                   · first
                                                     | (exfalso; omega; done)
                                                     | (refine aw_blk oX12_set_104 (pc' := 121) (ls' := [_, _, _, _, _]) (st' := [_]) (cs := [(_, _), (_, _)]) rfl (⟨⟨by omega, by omega⟩, ⟨by omega, by omega⟩, trivial⟩) ?_
                                                        refine aw_iret eX12_set_121 rfl (Nat.le_refl _) (Nat.le_refl _) ?_
                                                        exact pe_i s.1 rfl rfl)
                                                   · first
                                                     | (exfalso; omega; done)
                                                     | (refine aw_blk oX12_set_101 (pc' := 103) (ls' := [_, _, _, _, _]) (st' := [_]) (cs := []) rfl trivial ?_
                                                        refine aw_iret eX12_set_103 rfl (Nat.le_refl _) (Nat.le_refl _) ?_
                                                        exact pe_i s.1 rfl rfl))
                                              · first
                                                | (exfalso; omega; done)
                                                | (refine aw_blk oX12_set_89 (pc' := 94) (ls' := [_, _, _, _, _]) (st' := [_, _]) (cs := []) rfl trivial ?_
                                                   refine aw_blk oX12_set_94 (pc' := 95) (ls' := [_, _, _, _, _]) (st' := [_, _, _]) (cs := []) rfl trivial ?_
                                                   refine aw_ciS (rest := []) (c_X12_in (by omega) (by omega) (by omega)) kX12_in eX12_set_95 lX12_set_95 rfl rfl (Nat.le_of_ble_eq_true rfl) ⟨Nat.le_of_ble_eq_true rfl, Nat.le_of_ble_eq_true rfl⟩ ⟨Nat.le_refl _, Nat.le_refl _⟩ ?_
                                                   refine aw_if_ne (tgt := 104) eX12_set_98 (by decide) bt_r (fun hh => have h492 := bt1 hh; ?_) (fun hh => have h492 := bt0 hh; ?_)
                                                   · first
                                                     | (exfalso; omega; done)
                                                     | (refine aw_blk oX12_set_104 (pc' := 121) (ls' := [_, _, _, _, _]) (st' := [_]) (cs := [(_, _), (_, _)]) rfl (⟨⟨by omega, by omega⟩, ⟨by omega, by omega⟩, trivial⟩) ?_
                                                        refine aw_iret eX12_set_121 rfl (Nat.le_refl _) (Nat.le_refl _) ?_
                                                        exact pe_i s.1 rfl rfl)
                                                   · first
                                                     | (exfalso; omega; done)
                                                     | (refine aw_blk oX12_set_101 (pc' := 103) (ls' := [_, _, _, _, _]) (st' := [_]) (cs := []) rfl trivial ?_
                                                        refine aw_iret eX12_set_103 rfl (Nat.le_refl _) (Nat.le_refl _) ?_
                                                        exact pe_i s.1 rfl rfl)))))
                               · first
                                 | (exfalso; omega; done)
                                 | (refine aw_blk oX12_set_58 (pc' := 76) (ls' := [_, _, _, _, _]) (st' := [_]) (cs := []) rfl trivial ?_
                                    refine aw_blk oX12_set_76 (pc' := 80) (ls' := [_, _, _, _, _]) (st' := [_, _, _]) (cs := []) rfl trivial ?_
                                    refine aw_icmp_eq (tgt := 89) eX12_set_80 (by decide) (by omega) (by omega) (fun h493 => ?_) (fun h493 => ?_)
                                    · first
                                      | (exfalso; omega; done)
                                      | (refine aw_blk oX12_set_89 (pc' := 94) (ls' := [_, _, _, _, _]) (st' := [_, _]) (cs := []) rfl trivial ?_
                                         refine aw_blk oX12_set_94 (pc' := 95) (ls' := [_, _, _, _, _]) (st' := [_, _, _]) (cs := []) rfl trivial ?_
                                         refine aw_ciS (rest := []) (c_X12_in (by omega) (by omega) (by omega)) kX12_in eX12_set_95 lX12_set_95 rfl rfl (Nat.le_of_ble_eq_true rfl) ⟨Nat.le_of_ble_eq_true rfl, Nat.le_of_ble_eq_true rfl⟩ ⟨Nat.le_refl _, Nat.le_refl _⟩ ?_
                                         refine aw_if_ne (tgt := 104) eX12_set_98 (by decide) bt_r (fun hh => have h494 := bt1 hh; ?_) (fun hh => have h494 := bt0 hh; ?_)
                                         · first
                                           | (exfalso; omega; done)
                                           | (refine aw_blk oX12_set_104 (pc' := 121) (ls' := [_, _, _, _, _]) (st' := [_]) (cs := [(_, _), (_, _)]) rfl (⟨⟨by omega, by omega⟩, ⟨by omega, by omega⟩, trivial⟩) ?_
                                              refine aw_iret eX12_set_121 rfl (Nat.le_refl _) (Nat.le_refl _) ?_
                                              exact pe_i s.1 rfl rfl)
                                         · first
                                           | (exfalso; omega; done)
                                           | (refine aw_blk oX12_set_101 (pc' := 103) (ls' := [_, _, _, _, _]) (st' := [_]) (cs := []) rfl trivial ?_
                                              refine aw_iret eX12_set_103 rfl (Nat.le_refl _) (Nat.le_refl _) ?_
                                              exact pe_i s.1 rfl rfl))
                                    · first
                                      | (exfalso; omega; done)
                                      | (refine aw_blk oX12_set_83 (pc' := 86) (ls' := [_, _, _, _, _]) (st' := [_, _, _]) (cs := []) rfl trivial ?_
                                         refine aw_icmp_ne (tgt := 93) eX12_set_86 (by decide) (by omega) (by omega) (fun h495 => ?_) (fun h495 => ?_)
                                         · first
                                           | (exfalso; omega; done)
                                           | (refine aw_blk oX12_set_93 (pc' := 94) (ls' := [_, _, _, _, _]) (st' := [_, _]) (cs := []) rfl trivial ?_
                                              refine aw_blk oX12_set_94 (pc' := 95) (ls' := [_, _, _, _, _]) (st' := [_, _, _]) (cs := []) rfl trivial ?_
                                              refine aw_ciS (rest := []) (c_X12_in (by omega) (by omega) (by omega)) kX12_in eX12_set_95 lX12_set_95 rfl rfl (Nat.le_of_ble_eq_true rfl) ⟨Nat.le_of_ble_eq_true rfl, Nat.le_of_ble_eq_true rfl⟩ ⟨Nat.le_refl _, Nat.le_refl _⟩ ?_
                                              refine aw_if_ne (tgt := 104) eX12_set_98 (by decide) bt_r (fun hh => have h496 := bt1 hh; ?_) (fun hh => have h496 := bt0 hh; ?_)
                                              · first
                                                | (exfalso; omega; done)
                                                | (refine aw_blk oX12_set_104 (pc' := 121) (ls' := [_, _, _, _, _]) (st' := [_]) (cs := [(_, _), (_, _)]) rfl (⟨⟨by omega, by omega⟩, ⟨by omega, by omega⟩, trivial⟩) ?_
                                                   refine aw_iret eX12_set_121 rfl (Nat.le_refl _) (Nat.le_refl _) ?_
                                                   exact pe_i s.1 rfl rfl)
                                              · first
                                                | (exfalso; omega; done)
                                                | (refine aw_blk oX12_set_101 (pc' := 103) (ls' := [_, _, _, _, _]) (st' := [_]) (cs := []) rfl trivial ?_
                                                   refine aw_iret eX12_set_103 rfl (Nat.le_refl _) (Nat.le_refl _) ?_
                                                   exact pe_i s.1 rfl rfl))
                                         · first
                                           | (exfalso; omega; done)
                                           | (refine aw_blk oX12_set_89 (pc' := 94) (ls' := [_, _, _, _, _]) (st' := [_, _]) (cs := []) rfl trivial ?_
                                              refine aw_blk oX12_set_94 (pc' := 95) (ls' := [_, _, _, _, _]) (st' := [_, _, _]) (cs := []) rfl trivial ?_
                                              refine aw_ciS (rest := []) (c_X12_in (by omega) (by omega) (by omega)) kX12_in eX12_set_95 lX12_set_95 rfl rfl (Nat.le_of_ble_eq_true rfl) ⟨Nat.le_of_ble_eq_true rfl, Nat.le_of_ble_eq_true rfl⟩ ⟨Nat.le_refl _, Nat.le_refl _⟩ ?_
                                              refine aw_if_ne (tgt := 104) eX12_set_98 (by decide) bt_r (fun hh => have h497 := bt1 hh; ?_) (fun hh => have h497 := bt0 hh; ?_)
                                              · first
                                                | (exfalso; omega; done)
                                                | (refine aw_blk oX12_set_104 (pc' := 121) (ls' := [_, _, _, _, _]) (st' := [_]) (cs := [(_, _), (_, _)]) rfl (⟨⟨by omega, by omega⟩, ⟨by omega, by omega⟩, trivial⟩) ?_
                                                   refine aw_iret eX12_set_121 rfl (Nat.le_refl _) (Nat.le_refl _) ?_
                                                   exact pe_i s.1 rfl rfl)
                                              · first
                                                | (exfalso; omega; done)
                                                | (refine aw_blk oX12_set_101 (pc' := 103) (ls' := [_, _, _, _, _]) (st' := [_]) (cs := []) rfl trivial ?_
                                                   refine aw_iret eX12_set_103 rfl (Nat.le_refl _) (Nat.le_refl _) ?_
                                                   exact pe_i s.1 rfl rfl)))))
                          · first
                            | (exfalso; omega; done)
                            | (refine aw_blk oX12_set_48 (pc' := 76) (ls' := [_, _, _, _, _]) (st' := [_]) (cs := []) rfl trivial ?_
                               refine aw_blk oX12_set_76 (pc' := 80) (ls' := [_, _, _, _, _]) (st' := [_, _, _]) (cs := []) rfl trivial ?_
                               refine aw_icmp_eq (tgt := 89) eX12_set_80 (by decide) (by omega) (by omega) (fun h498 => ?_) (fun h498 => ?_)
                               · first
                                 | (exfalso; omega; done)
                                 | (refine aw_blk oX12_set_89 (pc' := 94) (ls' := [_, _, _, _, _]) (st' := [_, _]) (cs := []) rfl trivial ?_
                                    refine aw_blk oX12_set_94 (pc' := 95) (ls' := [_, _, _, _, _]) (st' := [_, _, _]) (cs := []) rfl trivial ?_
                                    refine aw_ciS (rest := []) (c_X12_in (by omega) (by omega) (by omega)) kX12_in eX12_set_95 lX12_set_95 rfl rfl (Nat.le_of_ble_eq_true rfl) ⟨Nat.le_of_ble_eq_true rfl, Nat.le_of_ble_eq_true rfl⟩ ⟨Nat.le_refl _, Nat.le_refl _⟩ ?_
                                    refine aw_if_ne (tgt := 104) eX12_set_98 (by decide) bt_r (fun hh => have h499 := bt1 hh; ?_) (fun hh => have h499 := bt0 hh; ?_)
                                    · first
                                      | (exfalso; omega; done)
                                      | (refine aw_blk oX12_set_104 (pc' := 121) (ls' := [_, _, _, _, _]) (st' := [_]) (cs := [(_, _), (_, _)]) rfl (⟨⟨by omega, by omega⟩, ⟨by omega, by omega⟩, trivial⟩) ?_
                                         refine aw_iret eX12_set_121 rfl (Nat.le_refl _) (Nat.le_refl _) ?_
                                         exact pe_i s.1 rfl rfl)
                                    · first
                                      | (exfalso; omega; done)
                                      | (refine aw_blk oX12_set_101 (pc' := 103) (ls' := [_, _, _, _, _]) (st' := [_]) (cs := []) rfl trivial ?_
                                         refine aw_iret eX12_set_103 rfl (Nat.le_refl _) (Nat.le_refl _) ?_
                                         exact pe_i s.1 rfl rfl))
                               · first
                                 | (exfalso; omega; done)
                                 | (refine aw_blk oX12_set_83 (pc' := 86) (ls' := [_, _, _, _, _]) (st' := [_, _, _]) (cs := []) rfl trivial ?_
                                    refine aw_icmp_ne (tgt := 93) eX12_set_86 (by decide) (by omega) (by omega) (fun h500 => ?_) (fun h500 => ?_)
                                    · first
                                      | (exfalso; omega; done)
                                      | (refine aw_blk oX12_set_93 (pc' := 94) (ls' := [_, _, _, _, _]) (st' := [_, _]) (cs := []) rfl trivial ?_
                                         refine aw_blk oX12_set_94 (pc' := 95) (ls' := [_, _, _, _, _]) (st' := [_, _, _]) (cs := []) rfl trivial ?_
                                         refine aw_ciS (rest := []) (c_X12_in (by omega) (by omega) (by omega)) kX12_in eX12_set_95 lX12_set_95 rfl rfl (Nat.le_of_ble_eq_true rfl) ⟨Nat.le_of_ble_eq_true rfl, Nat.le_of_ble_eq_true rfl⟩ ⟨Nat.le_refl _, Nat.le_refl _⟩ ?_
                                         refine aw_if_ne (tgt := 104) eX12_set_98 (by decide) bt_r (fun hh => have h501 := bt1 hh; ?_) (fun hh => have h501 := bt0 hh; ?_)
                                         · first
                                           | (exfalso; omega; done)
                                           | (refine aw_blk oX12_set_104 (pc' := 121) (ls' := [_, _, _, _, _]) (st' := [_]) (cs := [(_, _), (_, _)]) rfl (⟨⟨by omega, by omega⟩, ⟨by omega, by omega⟩, trivial⟩) ?_
                                              refine aw_iret eX12_set_121 rfl (Nat.le_refl _) (Nat.le_refl _) ?_
                                              exact pe_i s.1 rfl rfl)
                                         · first
                                           | (exfalso; omega; done)
                                           | (refine aw_blk oX12_set_101 (pc' := 103) (ls' := [_, _, _, _, _]) (st' := [_]) (cs := []) rfl trivial ?_
                                              refine aw_iret eX12_set_103 rfl (Nat.le_refl _) (Nat.le_refl _) ?_
                                              exact pe_i s.1 rfl rfl))
                                    · first
                                      | (exfalso; omega; done)
                                      | (refine aw_blk oX12_set_89 (pc' := 94) (ls' := [_, _, _, _, _]) (st' := [_, _]) (cs := []) rfl trivial ?_
                                         refine aw_blk oX12_set_94 (pc' := 95) (ls' := [_, _, _, _, _]) (st' := [_, _, _]) (cs := []) rfl trivial ?_
                                         refine aw_ciS (rest := []) (c_X12_in (by omega) (by omega) (by omega)) kX12_in eX12_set_95 lX12_set_95 rfl rfl (Nat.le_of_ble_eq_true rfl) ⟨Nat.le_of_ble_eq_true rfl, Nat.le_of_ble_eq_true rfl⟩ ⟨Nat.le_refl _, Nat.le_refl _⟩ ?_
                                         refine aw_if_ne (tgt := 104) eX12_set_98 (by decide) bt_r (fun hh => have h502 := bt1 hh; ?_) (fun hh => have h502 := bt0 hh; ?_)
                                         · first
                                           | (exfalso; omega; done)
                                           | (refine aw_blk oX12_set_104 (pc' := 121) (ls' := [_, _, _, _, _]) (st' := [_]) (cs := [(_, _), (_, _)]) rfl (⟨⟨by omega, by omega⟩, ⟨by omega, by omega⟩, trivial⟩) ?_
                                              refine aw_iret eX12_set_121 rfl (Nat.le_refl _) (Nat.le_refl _) ?_
                                              exact pe_i s.1 rfl rfl)
                                         · first
                                           | (exfalso; omega; done)
                                           | (refine aw_blk oX12_set_101 (pc' := 103) (ls' := [_, _, _, _, _]) (st' := [_]) (cs := []) rfl trivial ?_
                                              refine aw_iret eX12_set_103 rfl (Nat.le_refl _) (Nat.le_refl _) ?_
                                              exact pe_i s.1 rfl rfl)))))
                     · first
                       | (exfalso; omega; done)
                       | (refine aw_blk oX12_set_38 (pc' := 76) (ls' := [_, _, _, _, _]) (st' := [_]) (cs := []) rfl trivial ?_
                          refine aw_blk oX12_set_76 (pc' := 80) (ls' := [_, _, _, _, _]) (st' := [_, _, _]) (cs := []) rfl trivial ?_
                          refine aw_icmp_eq (tgt := 89) eX12_set_80 (by decide) (by omega) (by omega) (fun h503 => ?_) (fun h503 => ?_)
                          · first
                            | (exfalso; omega; done)
                            | (refine aw_blk oX12_set_89 (pc' := 94) (ls' := [_, _, _, _, _]) (st' := [_, _]) (cs := []) rfl trivial ?_
                               refine aw_blk oX12_set_94 (pc' := 95) (ls' := [_, _, _, _, _]) (st' := [_, _, _]) (cs := []) rfl trivial ?_
                               refine aw_ciS (rest := []) (c_X12_in (by omega) (by omega) (by omega)) kX12_in eX12_set_95 lX12_set_95 rfl rfl (Nat.le_of_ble_eq_true rfl) ⟨Nat.le_of_ble_eq_true rfl, Nat.le_of_ble_eq_true rfl⟩ ⟨Nat.le_refl _, Nat.le_refl _⟩ ?_
                               refine aw_if_ne (tgt := 104) eX12_set_98 (by decide) bt_r (fun hh => have h504 := bt1 hh; ?_) (fun hh => have h504 := bt0 hh; ?_)
                               · first
                                 | (exfalso; omega; done)
                                 | (refine aw_blk oX12_set_104 (pc' := 121) (ls' := [_, _, _, _, _]) (st' := [_]) (cs := [(_, _), (_, _)]) rfl (⟨⟨by omega, by omega⟩, ⟨by omega, by omega⟩, trivial⟩) ?_
                                    refine aw_iret eX12_set_121 rfl (Nat.le_refl _) (Nat.le_refl _) ?_
                                    exact pe_i s.1 rfl rfl)
                               · first
                                 | (exfalso; omega; done)
                                 | (refine aw_blk oX12_set_101 (pc' := 103) (ls' := [_, _, _, _, _]) (st' := [_]) (cs := []) rfl trivial ?_
                                    refine aw_iret eX12_set_103 rfl (Nat.le_refl _) (Nat.le_refl _) ?_
                                    exact pe_i s.1 rfl rfl))
                          · first
                            | (exfalso; omega; done)
                            | (refine aw_blk oX12_set_83 (pc' := 86) (ls' := [_, _, _, _, _]) (st' := [_, _, _]) (cs := []) rfl trivial ?_
                               refine aw_icmp_ne (tgt := 93) eX12_set_86 (by decide) (by omega) (by omega) (fun h505 => ?_) (fun h505 => ?_)
                               · first
                                 | (exfalso; omega; done)
                                 | (refine aw_blk oX12_set_93 (pc' := 94) (ls' := [_, _, _, _, _]) (st' := [_, _]) (cs := []) rfl trivial ?_
                                    refine aw_blk oX12_set_94 (pc' := 95) (ls' := [_, _, _, _, _]) (st' := [_, _, _]) (cs := []) rfl trivial ?_
                                    refine aw_ciS (rest := []) (c_X12_in (by omega) (by omega) (by omega)) kX12_in eX12_set_95 lX12_set_95 rfl rfl (Nat.le_of_ble_eq_true rfl) ⟨Nat.le_of_ble_eq_true rfl, Nat.le_of_ble_eq_true rfl⟩ ⟨Nat.le_refl _, Nat.le_refl _⟩ ?_
                                    refine aw_if_ne (tgt := 104) eX12_set_98 (by decide) bt_r (fun hh => have h506 := bt1 hh; ?_) (fun hh => have h506 := bt0 hh; ?_)
                                    · first
                                      | (exfalso; omega; done)
                                      | (refine aw_blk oX12_set_104 (pc' := 121) (ls' := [_, _, _, _, _]) (st' := [_]) (cs := [(_, _), (_, _)]) rfl (⟨⟨by omega, by omega⟩, ⟨by omega, by omega⟩, trivial⟩) ?_
                                         refine aw_iret eX12_set_121 rfl (Nat.le_refl _) (Nat.le_refl _) ?_
                                         exact pe_i s.1 rfl rfl)
                                    · first
                                      | (exfalso; omega; done)
                                      | (refine aw_blk oX12_set_101 (pc' := 103) (ls' := [_, _, _, _, _]) (st' := [_]) (cs := []) rfl trivial ?_
                                         refine aw_iret eX12_set_103 rfl (Nat.le_refl _) (Nat.le_refl _) ?_
                                         exact pe_i s.1 rfl rfl))
                               · first
                                 | (exfalso; omega; done)
                                 | (refine aw_blk oX12_set_89 (pc' := 94) (ls' := [_, _, _, _, _]) (st' := [_, _]) (cs := []) rfl trivial ?_
                                    refine aw_blk oX12_set_94 (pc' := 95) (ls' := [_, _, _, _, _]) (st' := [_, _, _]) (cs := []) rfl trivial ?_
                                    refine aw_ciS (rest := []) (c_X12_in (by omega) (by omega) (by omega)) kX12_in eX12_set_95 lX12_set_95 rfl rfl (Nat.le_of_ble_eq_true rfl) ⟨Nat.le_of_ble_eq_true rfl, Nat.le_of_ble_eq_true rfl⟩ ⟨Nat.le_refl _, Nat.le_refl _⟩ ?_
                                    refine aw_if_ne (tgt := 104) eX12_set_98 (by decide) bt_r (fun hh => have h507 := bt1 hh; ?_) (fun hh => have h507 := bt0 hh; ?_)
                                    · first
                                      | (exfalso; omega; done)
                                      | (refine aw_blk oX12_set_104 (pc' := 121) (ls' := [_, _, _, _, _]) (st' := [_]) (cs := [(_, _), (_, _)]) rfl (⟨⟨by omega, by omega⟩, ⟨by omega, by omega⟩, trivial⟩) ?_
                                         refine aw_iret eX12_set_121 rfl (Nat.le_refl _) (Nat.le_refl _) ?_
                                         exact pe_i s.1 rfl rfl)
                                    · first
                                      | (exfalso; omega; done)
                                      | (refine aw_blk oX12_set_101 (pc' := 103) (ls' := [_, _, _, _, _]) (st' := [_]) (cs := []) rfl trivial ?_
                                         refine aw_iret eX12_set_103 rfl (Nat.le_refl _) (Nat.le_refl _) ?_
                                         exact pe_i s.1 rfl rfl)))))
                · first
                  | (exfalso; omega; done)
                  | (refine aw_blk oX12_set_27 (pc' := 76) (ls' := [_, _, _, _, _]) (st' := [_]) (cs := []) rfl trivial ?_
                     refine aw_blk oX12_set_76 (pc' := 80) (ls' := [_, _, _, _, _]) (st' := [_, _, _]) (cs := []) rfl trivial ?_
                     refine aw_icmp_eq (tgt := 89) eX12_set_80 (by decide) (by omega) (by omega) (fun h508 => ?_) (fun h508 => ?_)
                     · first
                       | (exfalso; omega; done)
                       | (refine aw_blk oX12_set_89 (pc' := 94) (ls' := [_, _, _, _, _]) (st' := [_, _]) (cs := []) rfl trivial ?_
                          refine aw_blk oX12_set_94 (pc' := 95) (ls' := [_, _, _, _, _]) (st' := [_, _, _]) (cs := []) rfl trivial ?_
                          refine aw_ciS (rest := []) (c_X12_in (by omega) (by omega) (by omega)) kX12_in eX12_set_95 lX12_set_95 rfl rfl (Nat.le_of_ble_eq_true rfl) ⟨Nat.le_of_ble_eq_true rfl, Nat.le_of_ble_eq_true rfl⟩ ⟨Nat.le_refl _, Nat.le_refl _⟩ ?_
                          refine aw_if_ne (tgt := 104) eX12_set_98 (by decide) bt_r (fun hh => have h509 := bt1 hh; ?_) (fun hh => have h509 := bt0 hh; ?_)
                          · first
                            | (exfalso; omega; done)
                            | (refine aw_blk oX12_set_104 (pc' := 121) (ls' := [_, _, _, _, _]) (st' := [_]) (cs := [(_, _), (_, _)]) rfl (⟨⟨by omega, by omega⟩, ⟨by omega, by omega⟩, trivial⟩) ?_
                               refine aw_iret eX12_set_121 rfl (Nat.le_refl _) (Nat.le_refl _) ?_
                               exact pe_i s.1 rfl rfl)
                          · first
                            | (exfalso; omega; done)
                            | (refine aw_blk oX12_set_101 (pc' := 103) (ls' := [_, _, _, _, _]) (st' := [_]) (cs := []) rfl trivial ?_
                               refine aw_iret eX12_set_103 rfl (Nat.le_refl _) (Nat.le_refl _) ?_
                               exact pe_i s.1 rfl rfl))
                     · first
                       | (exfalso; omega; done)
                       | (refine aw_blk oX12_set_83 (pc' := 86) (ls' := [_, _, _, _, _]) (st' := [_, _, _]) (cs := []) rfl trivial ?_
                          refine aw_icmp_ne (tgt := 93) eX12_set_86 (by decide) (by omega) (by omega) (fun h510 => ?_) (fun h510 => ?_)
                          · first
                            | (exfalso; omega; done)
                            | (refine aw_blk oX12_set_93 (pc' := 94) (ls' := [_, _, _, _, _]) (st' := [_, _]) (cs := []) rfl trivial ?_
                               refine aw_blk oX12_set_94 (pc' := 95) (ls' := [_, _, _, _, _]) (st' := [_, _, _]) (cs := []) rfl trivial ?_
                               refine aw_ciS (rest := []) (c_X12_in (by omega) (by omega) (by omega)) kX12_in eX12_set_95 lX12_set_95 rfl rfl (Nat.le_of_ble_eq_true rfl) ⟨Nat.le_of_ble_eq_true rfl, Nat.le_of_ble_eq_true rfl⟩ ⟨Nat.le_refl _, Nat.le_refl _⟩ ?_
                               refine aw_if_ne (tgt := 104) eX12_set_98 (by decide) bt_r (fun hh => have h511 := bt1 hh; ?_) (fun hh => have h511 := bt0 hh; ?_)
                               · first
                                 | (exfalso; omega; done)
                                 | (refine aw_blk oX12_set_104 (pc' := 121) (ls' := [_, _, _, _, _]) (st' := [_]) (cs := [(_, _), (_, _)]) rfl (⟨⟨by omega, by omega⟩, ⟨by omega, by omega⟩, trivial⟩) ?_
                                    refine aw_iret eX12_set_121 rfl (Nat.le_refl _) (Nat.le_refl _) ?_
                                    exact pe_i s.1 rfl rfl)
                               · first
                                 | (exfalso; omega; done)
                                 | (refine aw_blk oX12_set_101 (pc' := 103) (ls' := [_, _, _, _, _]) (st' := [_]) (cs := []) rfl trivial ?_
                                    refine aw_iret eX12_set_103 rfl (Nat.le_refl _) (Nat.le_refl _) ?_
                                    exact pe_i s.1 rfl rfl))
                          · first
                            | (exfalso; omega; done)
                            | (refine aw_blk oX12_set_89 (pc' := 94) (ls' := [_, _, _, _, _]) (st' := [_, _]) (cs := []) rfl trivial ?_
                               refine aw_blk oX12_set_94 (pc' := 95) (ls' := [_, _, _, _, _]) (st' := [_, _, _]) (cs := []) rfl trivial ?_
                               refine aw_ciS (rest := []) (c_X12_in (by omega) (by omega) (by omega)) kX12_in eX12_set_95 lX12_set_95 rfl rfl (Nat.le_of_ble_eq_true rfl) ⟨Nat.le_of_ble_eq_true rfl, Nat.le_of_ble_eq_true rfl⟩ ⟨Nat.le_refl _, Nat.le_refl _⟩ ?_
                               refine aw_if_ne (tgt := 104) eX12_set_98 (by decide) bt_r (fun hh => have h512 := bt1 hh; ?_) (fun hh => have h512 := bt0 hh; ?_)
                               · first
                                 | (exfalso; omega; done)
                                 | (refine aw_blk oX12_set_104 (pc' := 121) (ls' := [_, _, _, _, _]) (st' := [_]) (cs := [(_, _), (_, _)]) rfl (⟨⟨by omega, by omega⟩, ⟨by omega, by omega⟩, trivial⟩) ?_
                                    refine aw_iret eX12_set_121 rfl (Nat.le_refl _) (Nat.le_refl _) ?_
                                    exact pe_i s.1 rfl rfl)
                               · first
                                 | (exfalso; omega; done)
                                 | (refine aw_blk oX12_set_101 (pc' := 103) (ls' := [_, _, _, _, _]) (st' := [_]) (cs := []) rfl trivial ?_
                                    refine aw_iret eX12_set_103 rfl (Nat.le_refl _) (Nat.le_refl _) ?_
                                    exact pe_i s.1 rfl rfl)))))
           · first
             | (exfalso; omega; done)
             | (refine aw_blk oX12_set_17 (pc' := 76) (ls' := [_, _, _, _, _]) (st' := [_]) (cs := []) rfl trivial ?_
                refine aw_blk oX12_set_76 (pc' := 80) (ls' := [_, _, _, _, _]) (st' := [_, _, _]) (cs := []) rfl trivial ?_
                refine aw_icmp_eq (tgt := 89) eX12_set_80 (by decide) (by omega) (by omega) (fun h513 => ?_) (fun h513 => ?_)
                · first
                  | (exfalso; omega; done)
                  | (refine aw_blk oX12_set_89 (pc' := 94) (ls' := [_, _, _, _, _]) (st' := [_, _]) (cs := []) rfl trivial ?_
                     refine aw_blk oX12_set_94 (pc' := 95) (ls' := [_, _, _, _, _]) (st' := [_, _, _]) (cs := []) rfl trivial ?_
                     refine aw_ciS (rest := []) (c_X12_in (by omega) (by omega) (by omega)) kX12_in eX12_set_95 lX12_set_95 rfl rfl (Nat.le_of_ble_eq_true rfl) ⟨Nat.le_of_ble_eq_true rfl, Nat.le_of_ble_eq_true rfl⟩ ⟨Nat.le_refl _, Nat.le_refl _⟩ ?_
                     refine aw_if_ne (tgt := 104) eX12_set_98 (by decide) bt_r (fun hh => have h514 := bt1 hh; ?_) (fun hh => have h514 := bt0 hh; ?_)
                     · first
                       | (exfalso; omega; done)
                       | (refine aw_blk oX12_set_104 (pc' := 121) (ls' := [_, _, _, _, _]) (st' := [_]) (cs := [(_, _), (_, _)]) rfl (⟨⟨by omega, by omega⟩, ⟨by omega, by omega⟩, trivial⟩) ?_
                          refine aw_iret eX12_set_121 rfl (Nat.le_refl _) (Nat.le_refl _) ?_
                          exact pe_i s.1 rfl rfl)
                     · first
                       | (exfalso; omega; done)
                       | (refine aw_blk oX12_set_101 (pc' := 103) (ls' := [_, _, _, _, _]) (st' := [_]) (cs := []) rfl trivial ?_
                          refine aw_iret eX12_set_103 rfl (Nat.le_refl _) (Nat.le_refl _) ?_
                          exact pe_i s.1 rfl rfl))
                · first
                  | (exfalso; omega; done)
                  | (refine aw_blk oX12_set_83 (pc' := 86) (ls' := [_, _, _, _, _]) (st' := [_, _, _]) (cs := []) rfl trivial ?_
                     refine aw_icmp_ne (tgt := 93) eX12_set_86 (by decide) (by omega) (by omega) (fun h515 => ?_) (fun h515 => ?_)
                     · first
                       | (exfalso; omega; done)
                       | (refine aw_blk oX12_set_93 (pc' := 94) (ls' := [_, _, _, _, _]) (st' := [_, _]) (cs := []) rfl trivial ?_
                          refine aw_blk oX12_set_94 (pc' := 95) (ls' := [_, _, _, _, _]) (st' := [_, _, _]) (cs := []) rfl trivial ?_
                          refine aw_ciS (rest := []) (c_X12_in (by omega) (by omega) (by omega)) kX12_in eX12_set_95 lX12_set_95 rfl rfl (Nat.le_of_ble_eq_true rfl) ⟨Nat.le_of_ble_eq_true rfl, Nat.le_of_ble_eq_true rfl⟩ ⟨Nat.le_refl _, Nat.le_refl _⟩ ?_
                          refine aw_if_ne (tgt := 104) eX12_set_98 (by decide) bt_r (fun hh => have h516 := bt1 hh; ?_) (fun hh => have h516 := bt0 hh; ?_)
                          · first
                            | (exfalso; omega; done)
                            | (refine aw_blk oX12_set_104 (pc' := 121) (ls' := [_, _, _, _, _]) (st' := [_]) (cs := [(_, _), (_, _)]) rfl (⟨⟨by omega, by omega⟩, ⟨by omega, by omega⟩, trivial⟩) ?_
                               refine aw_iret eX12_set_121 rfl (Nat.le_refl _) (Nat.le_refl _) ?_
                               exact pe_i s.1 rfl rfl)
                          · first
                            | (exfalso; omega; done)
                            | (refine aw_blk oX12_set_101 (pc' := 103) (ls' := [_, _, _, _, _]) (st' := [_]) (cs := []) rfl trivial ?_
                               refine aw_iret eX12_set_103 rfl (Nat.le_refl _) (Nat.le_refl _) ?_
                               exact pe_i s.1 rfl rfl))
                     · first
                       | (exfalso; omega; done)
                       | (refine aw_blk oX12_set_89 (pc' := 94) (ls' := [_, _, _, _, _]) (st' := [_, _]) (cs := []) rfl trivial ?_
                          refine aw_blk oX12_set_94 (pc' := 95) (ls' := [_, _, _, _, _]) (st' := [_, _, _]) (cs := []) rfl trivial ?_
                          refine aw_ciS (rest := []) (c_X12_in (by omega) (by omega) (by omega)) kX12_in eX12_set_95 lX12_set_95 rfl rfl (Nat.le_of_ble_eq_true rfl) ⟨Nat.le_of_ble_eq_true rfl, Nat.le_of_ble_eq_true rfl⟩ ⟨Nat.le_refl _, Nat.le_refl _⟩ ?_
                          refine aw_if_ne (tgt := 104) eX12_set_98 (by decide) bt_r (fun hh => have h517 := bt1 hh; ?_) (fun hh => have h517 := bt0 hh; ?_)
                          · first
                            | (exfalso; omega; done)
                            | (refine aw_blk oX12_set_104 (pc' := 121) (ls' := [_, _, _, _, _]) (st' := [_]) (cs := [(_, _), (_, _)]) rfl (⟨⟨by omega, by omega⟩, ⟨by omega, by omega⟩, trivial⟩) ?_
                               refine aw_iret eX12_set_121 rfl (Nat.le_refl _) (Nat.le_refl _) ?_
                               exact pe_i s.1 rfl rfl)
                          · first
                            | (exfalso; omega; done)
                            | (refine aw_blk oX12_set_101 (pc' := 103) (ls' := [_, _, _, _, _]) (st' := [_]) (cs := []) rfl trivial ?_
                               refine aw_iret eX12_set_103 rfl (Nat.le_refl _) (Nat.le_refl _) ?_
                               exact pe_i s.1 rfl rfl)))))
      · first
        | (exfalso; omega; done)
        | (refine aw_blk oX12_set_10 (pc' := 12) (ls' := [_, _, _, _, _]) (st' := [_]) (cs := []) rfl trivial ?_
           refine aw_iret eX12_set_12 rfl (Nat.le_refl _) (Nat.le_refl _) ?_
           exact pe_i s.1 rfl rfl)
    · exact h.up (k := 5) (v := v) (by omega) (by omega) rfl rfl
    · exact ((SR.rf.put (by decide)).put (by decide))
    · intro j hj
      rfl
    · exact Or.inl ⟨rfl, rfl⟩
    · exact Or.inl ⟨rfl, rfl⟩
  · refine ⟨-2, μ, ν, μ, ?_, ?_, by decide, rfl, Or.inl rfl⟩
    · refine AMet.of kX11_set.1 (Nat.le_of_ble_eq_true rfl) rfl ?_
      refine aw_blk oX11_set_0 (pc' := 4) (ls' := [_, _, _, _]) (st' := [_, _, _]) (cs := []) rfl trivial ?_
      refine aw_ciS (rest := []) (c_X11_between (by omega) (by omega) (by omega)) kX11_between eX11_set_4 lX11_set_4 rfl rfl (Nat.le_of_ble_eq_true rfl) ⟨Nat.le_of_ble_eq_true rfl, Nat.le_of_ble_eq_true rfl⟩ ⟨Nat.le_refl _, Nat.le_refl _⟩ ?_
      refine aw_if_eq (tgt := 27) eX11_set_7 (by decide) bt_r (fun hh => have h518 := bt0 hh; ?_) (fun hh => have h518 := bt1 hh; ?_)
      · first
        | (exfalso; omega; done)
        | (refine aw_blk oX11_set_27 (pc' := 29) (ls' := [_, _, _, _]) (st' := [_]) (cs := []) rfl trivial ?_
           refine aw_iret eX11_set_29 rfl (Nat.le_refl _) (Nat.le_refl _) ?_
           exact pe_i rfl rfl rfl)
      · first
        | (exfalso; omega; done)
        | (refine aw_blk oX11_set_10 (pc' := 21) (ls' := [_, _, _, _]) (st' := [_, _, _]) (cs := [(_, _), (_, _)]) rfl (⟨⟨by omega, by omega⟩, ⟨by omega, by omega⟩, trivial⟩) ?_
           refine aw_ciS (rest := []) (c_X11_between (by omega) (by omega) (by omega)) kX11_between eX11_set_21 lX11_set_21 rfl rfl (Nat.le_of_ble_eq_true rfl) ⟨Nat.le_of_ble_eq_true rfl, Nat.le_of_ble_eq_true rfl⟩ ⟨Nat.le_refl _, Nat.le_refl _⟩ ?_
           refine aw_if_ne (tgt := 30) eX11_set_24 (by decide) bt_r (fun hh => have h519 := bt1 hh; ?_) (fun hh => have h519 := bt0 hh; ?_)
           · first
             | (exfalso; omega; done)
             | (refine aw_blk oX11_set_30 (pc' := 45) (ls' := [_, _, _, _]) (st' := [_]) (cs := [(_, _), (_, _)]) rfl (⟨⟨by omega, by omega⟩, ⟨by omega, by omega⟩, trivial⟩) ?_
                refine aw_if_ne (tgt := 56) eX11_set_45 (by decide) (by omega) (fun h520 => ?_) (fun h520 => ?_)
                · first
                  | (exfalso; omega; done)
                  | (refine aw_blk oX11_set_56 (pc' := 58) (ls' := [_, _, _, _]) (st' := [_, _]) (cs := []) rfl trivial ?_
                     refine aw_icmp_ne (tgt := 65) eX11_set_58 (by decide) (by omega) (by omega) (fun h521 => ?_) (fun h521 => ?_)
                     · first
                       | (exfalso; omega; done)
                       | (refine aw_blk oX11_set_65 (pc' := 66) (ls' := [_, _, _, _]) (st' := [_]) (cs := []) rfl trivial ?_
                          refine aw_iret eX11_set_66 rfl (Nat.le_refl _) (Nat.le_refl _) ?_
                          exact pe_i rfl rfl rfl)
                     · first
                       | (exfalso; omega; done)
                       | (refine aw_blk oX11_set_61 (pc' := 62) (ls' := [_, _, _, _]) (st' := [_]) (cs := []) rfl trivial ?_
                          refine aw_cvV (rest := []) (c_forget) kX11_forgetShows eX11_set_62 lX11_set_62 rfl rfl rfl rfl (Nat.le_of_ble_eq_true rfl) ⟨Nat.le_of_ble_eq_true rfl, Nat.le_of_ble_eq_true rfl⟩ ⟨Nat.le_refl _, Nat.le_refl _⟩ ?_
                          refine aw_blk oX11_set_65 (pc' := 66) (ls' := [_, _, _, _]) (st' := [_]) (cs := []) rfl trivial ?_
                          refine aw_iret eX11_set_66 rfl (Nat.le_refl _) (Nat.le_refl _) ?_
                          exact pe_i rfl rfl rfl))
                · first
                  | (exfalso; omega; done)
                  | (refine aw_blk oX11_set_48 (pc' := 53) (ls' := [_, _, _, _]) (st' := [_, _]) (cs := []) rfl trivial ?_
                     refine aw_cvV (rest := []) (c_forgetCuts (by omega) (by omega)) kX3_forgetCutsFrom eX11_set_53 lX11_set_53 rfl rfl rfl rfl (Nat.le_of_ble_eq_true rfl) ⟨Nat.le_of_ble_eq_true rfl, Nat.le_of_ble_eq_true rfl⟩ ⟨Nat.le_refl _, Nat.le_refl _⟩ ?_
                     refine aw_blk oX11_set_56 (pc' := 58) (ls' := [_, _, _, _]) (st' := [_, _]) (cs := []) rfl trivial ?_
                     refine aw_icmp_ne (tgt := 65) eX11_set_58 (by decide) (by omega) (by omega) (fun h522 => ?_) (fun h522 => ?_)
                     · first
                       | (exfalso; omega; done)
                       | (refine aw_blk oX11_set_65 (pc' := 66) (ls' := [_, _, _, _]) (st' := [_]) (cs := []) rfl trivial ?_
                          refine aw_iret eX11_set_66 rfl (Nat.le_refl _) (Nat.le_refl _) ?_
                          exact pe_i rfl rfl rfl)
                     · first
                       | (exfalso; omega; done)
                       | (refine aw_blk oX11_set_61 (pc' := 62) (ls' := [_, _, _, _]) (st' := [_]) (cs := []) rfl trivial ?_
                          refine aw_cvV (rest := []) (c_forget) kX11_forgetShows eX11_set_62 lX11_set_62 rfl rfl rfl rfl (Nat.le_of_ble_eq_true rfl) ⟨Nat.le_of_ble_eq_true rfl, Nat.le_of_ble_eq_true rfl⟩ ⟨Nat.le_refl _, Nat.le_refl _⟩ ?_
                          refine aw_blk oX11_set_65 (pc' := 66) (ls' := [_, _, _, _]) (st' := [_]) (cs := []) rfl trivial ?_
                          refine aw_iret eX11_set_66 rfl (Nat.le_refl _) (Nat.le_refl _) ?_
                          exact pe_i rfl rfl rfl)))
           · first
             | (exfalso; omega; done)
             | (refine aw_blk oX11_set_27 (pc' := 29) (ls' := [_, _, _, _]) (st' := [_]) (cs := []) rfl trivial ?_
                refine aw_iret eX11_set_29 rfl (Nat.le_refl _) (Nat.le_refl _) ?_
                exact pe_i rfl rfl rfl))
    · refine AMet.of kX12_set.1 (Nat.le_of_ble_eq_true rfl) rfl ?_
      refine aw_blk oX12_set_0 (pc' := 4) (ls' := [_, _, _, _, _]) (st' := [_, _, _]) (cs := []) rfl trivial ?_
      refine aw_ciS (rest := []) (c_X12_in (by omega) (by omega) (by omega)) kX12_in eX12_set_4 lX12_set_4 rfl rfl (Nat.le_of_ble_eq_true rfl) ⟨Nat.le_of_ble_eq_true rfl, Nat.le_of_ble_eq_true rfl⟩ ⟨Nat.le_refl _, Nat.le_refl _⟩ ?_
      refine aw_if_ne (tgt := 13) eX12_set_7 (by decide) bt_r (fun hh => have h523 := bt1 hh; ?_) (fun hh => have h523 := bt0 hh; ?_)
      · first
        | (exfalso; omega; done)
        | (refine aw_blk oX12_set_13 (pc' := 14) (ls' := [_, _, _, _, _]) (st' := [_]) (cs := []) rfl trivial ?_
           refine aw_if_ne (tgt := 22) eX12_set_14 (by decide) (by omega) (fun h524 => ?_) (fun h524 => ?_)
           · first
             | (exfalso; omega; done)
             | (refine aw_blk oX12_set_22 (pc' := 24) (ls' := [_, _, _, _, _]) (st' := [_, _]) (cs := []) rfl trivial ?_
                refine aw_icmp_ne (tgt := 33) eX12_set_24 (by decide) (by omega) (by omega) (fun h525 => ?_) (fun h525 => ?_)
                · first
                  | (exfalso; omega; done)
                  | (refine aw_blk oX12_set_33 (pc' := 35) (ls' := [_, _, _, _, _]) (st' := [_, _]) (cs := []) rfl trivial ?_
                     refine aw_icmp_ne (tgt := 43) eX12_set_35 (by decide) (by omega) (by omega) (fun h526 => ?_) (fun h526 => ?_)
                     · first
                       | (exfalso; omega; done)
                       | (refine aw_blk oX12_set_43 (pc' := 45) (ls' := [_, _, _, _, _]) (st' := [_, _]) (cs := []) rfl trivial ?_
                          refine aw_icmp_ne (tgt := 53) eX12_set_45 (by decide) (by omega) (by omega) (fun h527 => ?_) (fun h527 => ?_)
                          · first
                            | (exfalso; omega; done)
                            | (refine aw_blk oX12_set_53 (pc' := 55) (ls' := [_, _, _, _, _]) (st' := [_, _]) (cs := []) rfl trivial ?_
                               refine aw_icmp_ne (tgt := 63) eX12_set_55 (by decide) (by omega) (by omega) (fun h528 => ?_) (fun h528 => ?_)
                               · first
                                 | (exfalso; omega; done)
                                 | (refine aw_blk oX12_set_63 (pc' := 65) (ls' := [_, _, _, _, _]) (st' := [_, _]) (cs := []) rfl trivial ?_
                                    refine aw_icmp_ne (tgt := 74) eX12_set_65 (by decide) (by omega) (by omega) (fun h529 => ?_) (fun h529 => ?_)
                                    · first
                                      | (exfalso; omega; done)
                                      | (refine aw_blk oX12_set_74 (pc' := 76) (ls' := [_, _, _, _, _]) (st' := [_]) (cs := []) rfl trivial ?_
                                         refine aw_blk oX12_set_76 (pc' := 80) (ls' := [_, _, _, _, _]) (st' := [_, _, _]) (cs := []) rfl trivial ?_
                                         refine aw_icmp_eq (tgt := 89) eX12_set_80 (by decide) (by omega) (by omega) (fun h530 => ?_) (fun h530 => ?_)
                                         · first
                                           | (exfalso; omega; done)
                                           | (refine aw_blk oX12_set_89 (pc' := 94) (ls' := [_, _, _, _, _]) (st' := [_, _]) (cs := []) rfl trivial ?_
                                              refine aw_blk oX12_set_94 (pc' := 95) (ls' := [_, _, _, _, _]) (st' := [_, _, _]) (cs := []) rfl trivial ?_
                                              refine aw_ciS (rest := []) (c_X12_in (by omega) (by omega) (by omega)) kX12_in eX12_set_95 lX12_set_95 rfl rfl (Nat.le_of_ble_eq_true rfl) ⟨Nat.le_of_ble_eq_true rfl, Nat.le_of_ble_eq_true rfl⟩ ⟨Nat.le_refl _, Nat.le_refl _⟩ ?_
                                              refine aw_if_ne (tgt := 104) eX12_set_98 (by decide) bt_r (fun hh => have h531 := bt1 hh; ?_) (fun hh => have h531 := bt0 hh; ?_)
                                              · first
                                                | (exfalso; omega; done)
                                                | (refine aw_blk oX12_set_104 (pc' := 121) (ls' := [_, _, _, _, _]) (st' := [_]) (cs := [(_, _), (_, _)]) rfl (⟨⟨by omega, by omega⟩, ⟨by omega, by omega⟩, trivial⟩) ?_
                                                   refine aw_iret eX12_set_121 rfl (Nat.le_refl _) (Nat.le_refl _) ?_
                                                   exact pe_i rfl rfl rfl)
                                              · first
                                                | (exfalso; omega; done)
                                                | (refine aw_blk oX12_set_101 (pc' := 103) (ls' := [_, _, _, _, _]) (st' := [_]) (cs := []) rfl trivial ?_
                                                   refine aw_iret eX12_set_103 rfl (Nat.le_refl _) (Nat.le_refl _) ?_
                                                   exact pe_i rfl rfl rfl))
                                         · first
                                           | (exfalso; omega; done)
                                           | (refine aw_blk oX12_set_83 (pc' := 86) (ls' := [_, _, _, _, _]) (st' := [_, _, _]) (cs := []) rfl trivial ?_
                                              refine aw_icmp_ne (tgt := 93) eX12_set_86 (by decide) (by omega) (by omega) (fun h532 => ?_) (fun h532 => ?_)
                                              · first
                                                | (exfalso; omega; done)
                                                | (refine aw_blk oX12_set_93 (pc' := 94) (ls' := [_, _, _, _, _]) (st' := [_, _]) (cs := []) rfl trivial ?_
                                                   refine aw_blk oX12_set_94 (pc' := 95) (ls' := [_, _, _, _, _]) (st' := [_, _, _]) (cs := []) rfl trivial ?_
                                                   refine aw_ciS (rest := []) (c_X12_in (by omega) (by omega) (by omega)) kX12_in eX12_set_95 lX12_set_95 rfl rfl (Nat.le_of_ble_eq_true rfl) ⟨Nat.le_of_ble_eq_true rfl, Nat.le_of_ble_eq_true rfl⟩ ⟨Nat.le_refl _, Nat.le_refl _⟩ ?_
                                                   refine aw_if_ne (tgt := 104) eX12_set_98 (by decide) bt_r (fun hh => have h533 := bt1 hh; ?_) (fun hh => have h533 := bt0 hh; ?_)
                                                   · first
                                                     | (exfalso; omega; done)
                                                     | (refine aw_blk oX12_set_104 (pc' := 121) (ls' := [_, _, _, _, _]) (st' := [_]) (cs := [(_, _), (_, _)]) rfl (⟨⟨by omega, by omega⟩, ⟨by omega, by omega⟩, trivial⟩) ?_
                                                        refine aw_iret eX12_set_121 rfl (Nat.le_refl _) (Nat.le_refl _) ?_
                                                        exact pe_i rfl rfl rfl)
                                                   · first
                                                     | (exfalso; omega; done)
                                                     | (refine aw_blk oX12_set_101 (pc' := 103) (ls' := [_, _, _, _, _]) (st' := [_]) (cs := []) rfl trivial ?_
                                                        refine aw_iret eX12_set_103 rfl (Nat.le_refl _) (Nat.le_refl _) ?_
                                                        exact pe_i rfl rfl rfl))
                                              · first
                                                | (exfalso; omega; done)
                                                | (refine aw_blk oX12_set_89 (pc' := 94) (ls' := [_, _, _, _, _]) (st' := [_, _]) (cs := []) rfl trivial ?_
                                                   refine aw_blk oX12_set_94 (pc' := 95) (ls' := [_, _, _, _, _]) (st' := [_, _, _]) (cs := []) rfl trivial ?_
                                                   refine aw_ciS (rest := []) (c_X12_in (by omega) (by omega) (by omega)) kX12_in eX12_set_95 lX12_set_95 rfl rfl (Nat.le_of_ble_eq_true rfl) ⟨Nat.le_of_ble_eq_true rfl, Nat.le_of_ble_eq_true rfl⟩ ⟨Nat.le_refl _, Nat.le_refl _⟩ ?_
                                                   refine aw_if_ne (tgt := 104) eX12_set_98 (by decide) bt_r (fun hh => have h534 := bt1 hh; ?_) (fun hh => have h534 := bt0 hh; ?_)
                                                   · first
                                                     | (exfalso; omega; done)
                                                     | (refine aw_blk oX12_set_104 (pc' := 121) (ls' := [_, _, _, _, _]) (st' := [_]) (cs := [(_, _), (_, _)]) rfl (⟨⟨by omega, by omega⟩, ⟨by omega, by omega⟩, trivial⟩) ?_
                                                        refine aw_iret eX12_set_121 rfl (Nat.le_refl _) (Nat.le_refl _) ?_
                                                        exact pe_i rfl rfl rfl)
                                                   · first
                                                     | (exfalso; omega; done)
                                                     | (refine aw_blk oX12_set_101 (pc' := 103) (ls' := [_, _, _, _, _]) (st' := [_]) (cs := []) rfl trivial ?_
                                                        refine aw_iret eX12_set_103 rfl (Nat.le_refl _) (Nat.le_refl _) ?_
                                                        exact pe_i rfl rfl rfl))))
                                    · first
                                      | (exfalso; omega; done)
                                      | (refine aw_blk oX12_set_68 (pc' := 76) (ls' := [_, _, _, _, _]) (st' := [_]) (cs := []) rfl trivial ?_
                                         refine aw_blk oX12_set_76 (pc' := 80) (ls' := [_, _, _, _, _]) (st' := [_, _, _]) (cs := []) rfl trivial ?_
                                         refine aw_icmp_eq (tgt := 89) eX12_set_80 (by decide) (by omega) (by omega) (fun h535 => ?_) (fun h535 => ?_)
                                         · first
                                           | (exfalso; omega; done)
                                           | (refine aw_blk oX12_set_89 (pc' := 94) (ls' := [_, _, _, _, _]) (st' := [_, _]) (cs := []) rfl trivial ?_
                                              refine aw_blk oX12_set_94 (pc' := 95) (ls' := [_, _, _, _, _]) (st' := [_, _, _]) (cs := []) rfl trivial ?_
                                              refine aw_ciS (rest := []) (c_X12_in (by omega) (by omega) (by omega)) kX12_in eX12_set_95 lX12_set_95 rfl rfl (Nat.le_of_ble_eq_true rfl) ⟨Nat.le_of_ble_eq_true rfl, Nat.le_of_ble_eq_true rfl⟩ ⟨Nat.le_refl _, Nat.le_refl _⟩ ?_
                                              refine aw_if_ne (tgt := 104) eX12_set_98 (by decide) bt_r (fun hh => have h536 := bt1 hh; ?_) (fun hh => have h536 := bt0 hh; ?_)
                                              · first
                                                | (exfalso; omega; done)
                                                | (refine aw_blk oX12_set_104 (pc' := 121) (ls' := [_, _, _, _, _]) (st' := [_]) (cs := [(_, _), (_, _)]) rfl (⟨⟨by omega, by omega⟩, ⟨by omega, by omega⟩, trivial⟩) ?_
                                                   refine aw_iret eX12_set_121 rfl (Nat.le_refl _) (Nat.le_refl _) ?_
                                                   exact pe_i rfl rfl rfl)
                                              · first
                                                | (exfalso; omega; done)
                                                | (refine aw_blk oX12_set_101 (pc' := 103) (ls' := [_, _, _, _, _]) (st' := [_]) (cs := []) rfl trivial ?_
                                                   refine aw_iret eX12_set_103 rfl (Nat.le_refl _) (Nat.le_refl _) ?_
                                                   exact pe_i rfl rfl rfl))
                                         · first
                                           | (exfalso; omega; done)
                                           | (refine aw_blk oX12_set_83 (pc' := 86) (ls' := [_, _, _, _, _]) (st' := [_, _, _]) (cs := []) rfl trivial ?_
                                              refine aw_icmp_ne (tgt := 93) eX12_set_86 (by decide) (by omega) (by omega) (fun h537 => ?_) (fun h537 => ?_)
                                              · first
                                                | (exfalso; omega; done)
                                                | (refine aw_blk oX12_set_93 (pc' := 94) (ls' := [_, _, _, _, _]) (st' := [_, _]) (cs := []) rfl trivial ?_
                                                   refine aw_blk oX12_set_94 (pc' := 95) (ls' := [_, _, _, _, _]) (st' := [_, _, _]) (cs := []) rfl trivial ?_
                                                   refine aw_ciS (rest := []) (c_X12_in (by omega) (by omega) (by omega)) kX12_in eX12_set_95 lX12_set_95 rfl rfl (Nat.le_of_ble_eq_true rfl) ⟨Nat.le_of_ble_eq_true rfl, Nat.le_of_ble_eq_true rfl⟩ ⟨Nat.le_refl _, Nat.le_refl _⟩ ?_
                                                   refine aw_if_ne (tgt := 104) eX12_set_98 (by decide) bt_r (fun hh => have h538 := bt1 hh; ?_) (fun hh => have h538 := bt0 hh; ?_)
                                                   · first
                                                     | (exfalso; omega; done)
                                                     | (refine aw_blk oX12_set_104 (pc' := 121) (ls' := [_, _, _, _, _]) (st' := [_]) (cs := [(_, _), (_, _)]) rfl (⟨⟨by omega, by omega⟩, ⟨by omega, by omega⟩, trivial⟩) ?_
                                                        refine aw_iret eX12_set_121 rfl (Nat.le_refl _) (Nat.le_refl _) ?_
                                                        exact pe_i rfl rfl rfl)
                                                   · first
                                                     | (exfalso; omega; done)
                                                     | (refine aw_blk oX12_set_101 (pc' := 103) (ls' := [_, _, _, _, _]) (st' := [_]) (cs := []) rfl trivial ?_
                                                        refine aw_iret eX12_set_103 rfl (Nat.le_refl _) (Nat.le_refl _) ?_
                                                        exact pe_i rfl rfl rfl))
                                              · first
                                                | (exfalso; omega; done)
                                                | (refine aw_blk oX12_set_89 (pc' := 94) (ls' := [_, _, _, _, _]) (st' := [_, _]) (cs := []) rfl trivial ?_
                                                   refine aw_blk oX12_set_94 (pc' := 95) (ls' := [_, _, _, _, _]) (st' := [_, _, _]) (cs := []) rfl trivial ?_
                                                   refine aw_ciS (rest := []) (c_X12_in (by omega) (by omega) (by omega)) kX12_in eX12_set_95 lX12_set_95 rfl rfl (Nat.le_of_ble_eq_true rfl) ⟨Nat.le_of_ble_eq_true rfl, Nat.le_of_ble_eq_true rfl⟩ ⟨Nat.le_refl _, Nat.le_refl _⟩ ?_
                                                   refine aw_if_ne (tgt := 104) eX12_set_98 (by decide) bt_r (fun hh => have h539 := bt1 hh; ?_) (fun hh => have h539 := bt0 hh; ?_)
                                                   · first
                                                     | (exfalso; omega; done)
                                                     | (refine aw_blk oX12_set_104 (pc' := 121) (ls' := [_, _, _, _, _]) (st' := [_]) (cs := [(_, _), (_, _)]) rfl (⟨⟨by omega, by omega⟩, ⟨by omega, by omega⟩, trivial⟩) ?_
                                                        refine aw_iret eX12_set_121 rfl (Nat.le_refl _) (Nat.le_refl _) ?_
                                                        exact pe_i rfl rfl rfl)
                                                   · first
                                                     | (exfalso; omega; done)
                                                     | (refine aw_blk oX12_set_101 (pc' := 103) (ls' := [_, _, _, _, _]) (st' := [_]) (cs := []) rfl trivial ?_
                                                        refine aw_iret eX12_set_103 rfl (Nat.le_refl _) (Nat.le_refl _) ?_
                                                        exact pe_i rfl rfl rfl)))))
                               · first
                                 | (exfalso; omega; done)
                                 | (refine aw_blk oX12_set_58 (pc' := 76) (ls' := [_, _, _, _, _]) (st' := [_]) (cs := []) rfl trivial ?_
                                    refine aw_blk oX12_set_76 (pc' := 80) (ls' := [_, _, _, _, _]) (st' := [_, _, _]) (cs := []) rfl trivial ?_
                                    refine aw_icmp_eq (tgt := 89) eX12_set_80 (by decide) (by omega) (by omega) (fun h540 => ?_) (fun h540 => ?_)
                                    · first
                                      | (exfalso; omega; done)
                                      | (refine aw_blk oX12_set_89 (pc' := 94) (ls' := [_, _, _, _, _]) (st' := [_, _]) (cs := []) rfl trivial ?_
                                         refine aw_blk oX12_set_94 (pc' := 95) (ls' := [_, _, _, _, _]) (st' := [_, _, _]) (cs := []) rfl trivial ?_
                                         refine aw_ciS (rest := []) (c_X12_in (by omega) (by omega) (by omega)) kX12_in eX12_set_95 lX12_set_95 rfl rfl (Nat.le_of_ble_eq_true rfl) ⟨Nat.le_of_ble_eq_true rfl, Nat.le_of_ble_eq_true rfl⟩ ⟨Nat.le_refl _, Nat.le_refl _⟩ ?_
                                         refine aw_if_ne (tgt := 104) eX12_set_98 (by decide) bt_r (fun hh => have h541 := bt1 hh; ?_) (fun hh => have h541 := bt0 hh; ?_)
                                         · first
                                           | (exfalso; omega; done)
                                           | (refine aw_blk oX12_set_104 (pc' := 121) (ls' := [_, _, _, _, _]) (st' := [_]) (cs := [(_, _), (_, _)]) rfl (⟨⟨by omega, by omega⟩, ⟨by omega, by omega⟩, trivial⟩) ?_
                                              refine aw_iret eX12_set_121 rfl (Nat.le_refl _) (Nat.le_refl _) ?_
                                              exact pe_i rfl rfl rfl)
                                         · first
                                           | (exfalso; omega; done)
                                           | (refine aw_blk oX12_set_101 (pc' := 103) (ls' := [_, _, _, _, _]) (st' := [_]) (cs := []) rfl trivial ?_
                                              refine aw_iret eX12_set_103 rfl (Nat.le_refl _) (Nat.le_refl _) ?_
                                              exact pe_i rfl rfl rfl))
                                    · first
                                      | (exfalso; omega; done)
                                      | (refine aw_blk oX12_set_83 (pc' := 86) (ls' := [_, _, _, _, _]) (st' := [_, _, _]) (cs := []) rfl trivial ?_
                                         refine aw_icmp_ne (tgt := 93) eX12_set_86 (by decide) (by omega) (by omega) (fun h542 => ?_) (fun h542 => ?_)
                                         · first
                                           | (exfalso; omega; done)
                                           | (refine aw_blk oX12_set_93 (pc' := 94) (ls' := [_, _, _, _, _]) (st' := [_, _]) (cs := []) rfl trivial ?_
                                              refine aw_blk oX12_set_94 (pc' := 95) (ls' := [_, _, _, _, _]) (st' := [_, _, _]) (cs := []) rfl trivial ?_
                                              refine aw_ciS (rest := []) (c_X12_in (by omega) (by omega) (by omega)) kX12_in eX12_set_95 lX12_set_95 rfl rfl (Nat.le_of_ble_eq_true rfl) ⟨Nat.le_of_ble_eq_true rfl, Nat.le_of_ble_eq_true rfl⟩ ⟨Nat.le_refl _, Nat.le_refl _⟩ ?_
                                              refine aw_if_ne (tgt := 104) eX12_set_98 (by decide) bt_r (fun hh => have h543 := bt1 hh; ?_) (fun hh => have h543 := bt0 hh; ?_)
                                              · first
                                                | (exfalso; omega; done)
                                                | (refine aw_blk oX12_set_104 (pc' := 121) (ls' := [_, _, _, _, _]) (st' := [_]) (cs := [(_, _), (_, _)]) rfl (⟨⟨by omega, by omega⟩, ⟨by omega, by omega⟩, trivial⟩) ?_
                                                   refine aw_iret eX12_set_121 rfl (Nat.le_refl _) (Nat.le_refl _) ?_
                                                   exact pe_i rfl rfl rfl)
                                              · first
                                                | (exfalso; omega; done)
                                                | (refine aw_blk oX12_set_101 (pc' := 103) (ls' := [_, _, _, _, _]) (st' := [_]) (cs := []) rfl trivial ?_
                                                   refine aw_iret eX12_set_103 rfl (Nat.le_refl _) (Nat.le_refl _) ?_
                                                   exact pe_i rfl rfl rfl))
                                         · first
                                           | (exfalso; omega; done)
                                           | (refine aw_blk oX12_set_89 (pc' := 94) (ls' := [_, _, _, _, _]) (st' := [_, _]) (cs := []) rfl trivial ?_
                                              refine aw_blk oX12_set_94 (pc' := 95) (ls' := [_, _, _, _, _]) (st' := [_, _, _]) (cs := []) rfl trivial ?_
                                              refine aw_ciS (rest := []) (c_X12_in (by omega) (by omega) (by omega)) kX12_in eX12_set_95 lX12_set_95 rfl rfl (Nat.le_of_ble_eq_true rfl) ⟨Nat.le_of_ble_eq_true rfl, Nat.le_of_ble_eq_true rfl⟩ ⟨Nat.le_refl _, Nat.le_refl _⟩ ?_
                                              refine aw_if_ne (tgt := 104) eX12_set_98 (by decide) bt_r (fun hh => have h544 := bt1 hh; ?_) (fun hh => have h544 := bt0 hh; ?_)
                                              · first
                                                | (exfalso; omega; done)
                                                | (refine aw_blk oX12_set_104 (pc' := 121) (ls' := [_, _, _, _, _]) (st' := [_]) (cs := [(_, _), (_, _)]) rfl (⟨⟨by omega, by omega⟩, ⟨by omega, by omega⟩, trivial⟩) ?_
                                                   refine aw_iret eX12_set_121 rfl (Nat.le_refl _) (Nat.le_refl _) ?_
                                                   exact pe_i rfl rfl rfl)
                                              · first
                                                | (exfalso; omega; done)
                                                | (refine aw_blk oX12_set_101 (pc' := 103) (ls' := [_, _, _, _, _]) (st' := [_]) (cs := []) rfl trivial ?_
                                                   refine aw_iret eX12_set_103 rfl (Nat.le_refl _) (Nat.le_refl _) ?_
                                                   exact pe_i rfl rfl rfl)))))
                          · first
                            | (exfalso; omega; done)
                            | (refine aw_blk oX12_set_48 (pc' := 76) (ls' := [_, _, _, _, _]) (st' := [_]) (cs := []) rfl trivial ?_
                               refine aw_blk oX12_set_76 (pc' := 80) (ls' := [_, _, _, _, _]) (st' := [_, _, _]) (cs := []) rfl trivial ?_
                               refine aw_icmp_eq (tgt := 89) eX12_set_80 (by decide) (by omega) (by omega) (fun h545 => ?_) (fun h545 => ?_)
                               · first
                                 | (exfalso; omega; done)
                                 | (refine aw_blk oX12_set_89 (pc' := 94) (ls' := [_, _, _, _, _]) (st' := [_, _]) (cs := []) rfl trivial ?_
                                    refine aw_blk oX12_set_94 (pc' := 95) (ls' := [_, _, _, _, _]) (st' := [_, _, _]) (cs := []) rfl trivial ?_
                                    refine aw_ciS (rest := []) (c_X12_in (by omega) (by omega) (by omega)) kX12_in eX12_set_95 lX12_set_95 rfl rfl (Nat.le_of_ble_eq_true rfl) ⟨Nat.le_of_ble_eq_true rfl, Nat.le_of_ble_eq_true rfl⟩ ⟨Nat.le_refl _, Nat.le_refl _⟩ ?_
                                    refine aw_if_ne (tgt := 104) eX12_set_98 (by decide) bt_r (fun hh => have h546 := bt1 hh; ?_) (fun hh => have h546 := bt0 hh; ?_)
                                    · first
                                      | (exfalso; omega; done)
                                      | (refine aw_blk oX12_set_104 (pc' := 121) (ls' := [_, _, _, _, _]) (st' := [_]) (cs := [(_, _), (_, _)]) rfl (⟨⟨by omega, by omega⟩, ⟨by omega, by omega⟩, trivial⟩) ?_
                                         refine aw_iret eX12_set_121 rfl (Nat.le_refl _) (Nat.le_refl _) ?_
                                         exact pe_i rfl rfl rfl)
                                    · first
                                      | (exfalso; omega; done)
                                      | (refine aw_blk oX12_set_101 (pc' := 103) (ls' := [_, _, _, _, _]) (st' := [_]) (cs := []) rfl trivial ?_
                                         refine aw_iret eX12_set_103 rfl (Nat.le_refl _) (Nat.le_refl _) ?_
                                         exact pe_i rfl rfl rfl))
                               · first
                                 | (exfalso; omega; done)
                                 | (refine aw_blk oX12_set_83 (pc' := 86) (ls' := [_, _, _, _, _]) (st' := [_, _, _]) (cs := []) rfl trivial ?_
                                    refine aw_icmp_ne (tgt := 93) eX12_set_86 (by decide) (by omega) (by omega) (fun h547 => ?_) (fun h547 => ?_)
                                    · first
                                      | (exfalso; omega; done)
                                      | (refine aw_blk oX12_set_93 (pc' := 94) (ls' := [_, _, _, _, _]) (st' := [_, _]) (cs := []) rfl trivial ?_
                                         refine aw_blk oX12_set_94 (pc' := 95) (ls' := [_, _, _, _, _]) (st' := [_, _, _]) (cs := []) rfl trivial ?_
                                         refine aw_ciS (rest := []) (c_X12_in (by omega) (by omega) (by omega)) kX12_in eX12_set_95 lX12_set_95 rfl rfl (Nat.le_of_ble_eq_true rfl) ⟨Nat.le_of_ble_eq_true rfl, Nat.le_of_ble_eq_true rfl⟩ ⟨Nat.le_refl _, Nat.le_refl _⟩ ?_
                                         refine aw_if_ne (tgt := 104) eX12_set_98 (by decide) bt_r (fun hh => have h548 := bt1 hh; ?_) (fun hh => have h548 := bt0 hh; ?_)
                                         · first
                                           | (exfalso; omega; done)
                                           | (refine aw_blk oX12_set_104 (pc' := 121) (ls' := [_, _, _, _, _]) (st' := [_]) (cs := [(_, _), (_, _)]) rfl (⟨⟨by omega, by omega⟩, ⟨by omega, by omega⟩, trivial⟩) ?_
                                              refine aw_iret eX12_set_121 rfl (Nat.le_refl _) (Nat.le_refl _) ?_
                                              exact pe_i rfl rfl rfl)
                                         · first
                                           | (exfalso; omega; done)
                                           | (refine aw_blk oX12_set_101 (pc' := 103) (ls' := [_, _, _, _, _]) (st' := [_]) (cs := []) rfl trivial ?_
                                              refine aw_iret eX12_set_103 rfl (Nat.le_refl _) (Nat.le_refl _) ?_
                                              exact pe_i rfl rfl rfl))
                                    · first
                                      | (exfalso; omega; done)
                                      | (refine aw_blk oX12_set_89 (pc' := 94) (ls' := [_, _, _, _, _]) (st' := [_, _]) (cs := []) rfl trivial ?_
                                         refine aw_blk oX12_set_94 (pc' := 95) (ls' := [_, _, _, _, _]) (st' := [_, _, _]) (cs := []) rfl trivial ?_
                                         refine aw_ciS (rest := []) (c_X12_in (by omega) (by omega) (by omega)) kX12_in eX12_set_95 lX12_set_95 rfl rfl (Nat.le_of_ble_eq_true rfl) ⟨Nat.le_of_ble_eq_true rfl, Nat.le_of_ble_eq_true rfl⟩ ⟨Nat.le_refl _, Nat.le_refl _⟩ ?_
                                         refine aw_if_ne (tgt := 104) eX12_set_98 (by decide) bt_r (fun hh => have h549 := bt1 hh; ?_) (fun hh => have h549 := bt0 hh; ?_)
                                         · first
                                           | (exfalso; omega; done)
                                           | (refine aw_blk oX12_set_104 (pc' := 121) (ls' := [_, _, _, _, _]) (st' := [_]) (cs := [(_, _), (_, _)]) rfl (⟨⟨by omega, by omega⟩, ⟨by omega, by omega⟩, trivial⟩) ?_
                                              refine aw_iret eX12_set_121 rfl (Nat.le_refl _) (Nat.le_refl _) ?_
                                              exact pe_i rfl rfl rfl)
                                         · first
                                           | (exfalso; omega; done)
                                           | (refine aw_blk oX12_set_101 (pc' := 103) (ls' := [_, _, _, _, _]) (st' := [_]) (cs := []) rfl trivial ?_
                                              refine aw_iret eX12_set_103 rfl (Nat.le_refl _) (Nat.le_refl _) ?_
                                              exact pe_i rfl rfl rfl)))))
                     · first
                       | (exfalso; omega; done)
                       | (refine aw_blk oX12_set_38 (pc' := 76) (ls' := [_, _, _, _, _]) (st' := [_]) (cs := []) rfl trivial ?_
                          refine aw_blk oX12_set_76 (pc' := 80) (ls' := [_, _, _, _, _]) (st' := [_, _, _]) (cs := []) rfl trivial ?_
                          refine aw_icmp_eq (tgt := 89) eX12_set_80 (by decide) (by omega) (by omega) (fun h550 => ?_) (fun h550 => ?_)
                          · first
                            | (exfalso; omega; done)
                            | (refine aw_blk oX12_set_89 (pc' := 94) (ls' := [_, _, _, _, _]) (st' := [_, _]) (cs := []) rfl trivial ?_
                               refine aw_blk oX12_set_94 (pc' := 95) (ls' := [_, _, _, _, _]) (st' := [_, _, _]) (cs := []) rfl trivial ?_
                               refine aw_ciS (rest := []) (c_X12_in (by omega) (by omega) (by omega)) kX12_in eX12_set_95 lX12_set_95 rfl rfl (Nat.le_of_ble_eq_true rfl) ⟨Nat.le_of_ble_eq_true rfl, Nat.le_of_ble_eq_true rfl⟩ ⟨Nat.le_refl _, Nat.le_refl _⟩ ?_
                               refine aw_if_ne (tgt := 104) eX12_set_98 (by decide) bt_r (fun hh => have h551 := bt1 hh; ?_) (fun hh => have h551 := bt0 hh; ?_)
                               · first
                                 | (exfalso; omega; done)
                                 | (refine aw_blk oX12_set_104 (pc' := 121) (ls' := [_, _, _, _, _]) (st' := [_]) (cs := [(_, _), (_, _)]) rfl (⟨⟨by omega, by omega⟩, ⟨by omega, by omega⟩, trivial⟩) ?_
                                    refine aw_iret eX12_set_121 rfl (Nat.le_refl _) (Nat.le_refl _) ?_
                                    exact pe_i rfl rfl rfl)
                               · first
                                 | (exfalso; omega; done)
                                 | (refine aw_blk oX12_set_101 (pc' := 103) (ls' := [_, _, _, _, _]) (st' := [_]) (cs := []) rfl trivial ?_
                                    refine aw_iret eX12_set_103 rfl (Nat.le_refl _) (Nat.le_refl _) ?_
                                    exact pe_i rfl rfl rfl))
                          · first
                            | (exfalso; omega; done)
                            | (refine aw_blk oX12_set_83 (pc' := 86) (ls' := [_, _, _, _, _]) (st' := [_, _, _]) (cs := []) rfl trivial ?_
                               refine aw_icmp_ne (tgt := 93) eX12_set_86 (by decide) (by omega) (by omega) (fun h552 => ?_) (fun h552 => ?_)
                               · first
                                 | (exfalso; omega; done)
                                 | (refine aw_blk oX12_set_93 (pc' := 94) (ls' := [_, _, _, _, _]) (st' := [_, _]) (cs := []) rfl trivial ?_
                                    refine aw_blk oX12_set_94 (pc' := 95) (ls' := [_, _, _, _, _]) (st' := [_, _, _]) (cs := []) rfl trivial ?_
                                    refine aw_ciS (rest := []) (c_X12_in (by omega) (by omega) (by omega)) kX12_in eX12_set_95 lX12_set_95 rfl rfl (Nat.le_of_ble_eq_true rfl) ⟨Nat.le_of_ble_eq_true rfl, Nat.le_of_ble_eq_true rfl⟩ ⟨Nat.le_refl _, Nat.le_refl _⟩ ?_
                                    refine aw_if_ne (tgt := 104) eX12_set_98 (by decide) bt_r (fun hh => have h553 := bt1 hh; ?_) (fun hh => have h553 := bt0 hh; ?_)
                                    · first
                                      | (exfalso; omega; done)
                                      | (refine aw_blk oX12_set_104 (pc' := 121) (ls' := [_, _, _, _, _]) (st' := [_]) (cs := [(_, _), (_, _)]) rfl (⟨⟨by omega, by omega⟩, ⟨by omega, by omega⟩, trivial⟩) ?_
                                         refine aw_iret eX12_set_121 rfl (Nat.le_refl _) (Nat.le_refl _) ?_
                                         exact pe_i rfl rfl rfl)
                                    · first
                                      | (exfalso; omega; done)
                                      | (refine aw_blk oX12_set_101 (pc' := 103) (ls' := [_, _, _, _, _]) (st' := [_]) (cs := []) rfl trivial ?_
                                         refine aw_iret eX12_set_103 rfl (Nat.le_refl _) (Nat.le_refl _) ?_
                                         exact pe_i rfl rfl rfl))
                               · first
                                 | (exfalso; omega; done)
                                 | (refine aw_blk oX12_set_89 (pc' := 94) (ls' := [_, _, _, _, _]) (st' := [_, _]) (cs := []) rfl trivial ?_
                                    refine aw_blk oX12_set_94 (pc' := 95) (ls' := [_, _, _, _, _]) (st' := [_, _, _]) (cs := []) rfl trivial ?_
                                    refine aw_ciS (rest := []) (c_X12_in (by omega) (by omega) (by omega)) kX12_in eX12_set_95 lX12_set_95 rfl rfl (Nat.le_of_ble_eq_true rfl) ⟨Nat.le_of_ble_eq_true rfl, Nat.le_of_ble_eq_true rfl⟩ ⟨Nat.le_refl _, Nat.le_refl _⟩ ?_
                                    refine aw_if_ne (tgt := 104) eX12_set_98 (by decide) bt_r (fun hh => have h554 := bt1 hh; ?_) (fun hh => have h554 := bt0 hh; ?_)
                                    · first
                                      | (exfalso; omega; done)
                                      | (refine aw_blk oX12_set_104 (pc' := 121) (ls' := [_, _, _, _, _]) (st' := [_]) (cs := [(_, _), (_, _)]) rfl (⟨⟨by omega, by omega⟩, ⟨by omega, by omega⟩, trivial⟩) ?_
                                         refine aw_iret eX12_set_121 rfl (Nat.le_refl _) (Nat.le_refl _) ?_
                                         exact pe_i rfl rfl rfl)
                                    · first
                                      | (exfalso; omega; done)
                                      | (refine aw_blk oX12_set_101 (pc' := 103) (ls' := [_, _, _, _, _]) (st' := [_]) (cs := []) rfl trivial ?_
                                         refine aw_iret eX12_set_103 rfl (Nat.le_refl _) (Nat.le_refl _) ?_
                                         exact pe_i rfl rfl rfl)))))
                · first
                  | (exfalso; omega; done)
                  | (refine aw_blk oX12_set_27 (pc' := 76) (ls' := [_, _, _, _, _]) (st' := [_]) (cs := []) rfl trivial ?_
                     refine aw_blk oX12_set_76 (pc' := 80) (ls' := [_, _, _, _, _]) (st' := [_, _, _]) (cs := []) rfl trivial ?_
                     refine aw_icmp_eq (tgt := 89) eX12_set_80 (by decide) (by omega) (by omega) (fun h555 => ?_) (fun h555 => ?_)
                     · first
                       | (exfalso; omega; done)
                       | (refine aw_blk oX12_set_89 (pc' := 94) (ls' := [_, _, _, _, _]) (st' := [_, _]) (cs := []) rfl trivial ?_
                          refine aw_blk oX12_set_94 (pc' := 95) (ls' := [_, _, _, _, _]) (st' := [_, _, _]) (cs := []) rfl trivial ?_
                          refine aw_ciS (rest := []) (c_X12_in (by omega) (by omega) (by omega)) kX12_in eX12_set_95 lX12_set_95 rfl rfl (Nat.le_of_ble_eq_true rfl) ⟨Nat.le_of_ble_eq_true rfl, Nat.le_of_ble_eq_true rfl⟩ ⟨Nat.le_refl _, Nat.le_refl _⟩ ?_
                          refine aw_if_ne (tgt := 104) eX12_set_98 (by decide) bt_r (fun hh => have h556 := bt1 hh; ?_) (fun hh => have h556 := bt0 hh; ?_)
                          · first
                            | (exfalso; omega; done)
                            | (refine aw_blk oX12_set_104 (pc' := 121) (ls' := [_, _, _, _, _]) (st' := [_]) (cs := [(_, _), (_, _)]) rfl (⟨⟨by omega, by omega⟩, ⟨by omega, by omega⟩, trivial⟩) ?_
                               refine aw_iret eX12_set_121 rfl (Nat.le_refl _) (Nat.le_refl _) ?_
                               exact pe_i rfl rfl rfl)
                          · first
                            | (exfalso; omega; done)
                            | (refine aw_blk oX12_set_101 (pc' := 103) (ls' := [_, _, _, _, _]) (st' := [_]) (cs := []) rfl trivial ?_
                               refine aw_iret eX12_set_103 rfl (Nat.le_refl _) (Nat.le_refl _) ?_
                               exact pe_i rfl rfl rfl))
                     · first
                       | (exfalso; omega; done)
                       | (refine aw_blk oX12_set_83 (pc' := 86) (ls' := [_, _, _, _, _]) (st' := [_, _, _]) (cs := []) rfl trivial ?_
                          refine aw_icmp_ne (tgt := 93) eX12_set_86 (by decide) (by omega) (by omega) (fun h557 => ?_) (fun h557 => ?_)
                          · first
                            | (exfalso; omega; done)
                            | (refine aw_blk oX12_set_93 (pc' := 94) (ls' := [_, _, _, _, _]) (st' := [_, _]) (cs := []) rfl trivial ?_
                               refine aw_blk oX12_set_94 (pc' := 95) (ls' := [_, _, _, _, _]) (st' := [_, _, _]) (cs := []) rfl trivial ?_
                               refine aw_ciS (rest := []) (c_X12_in (by omega) (by omega) (by omega)) kX12_in eX12_set_95 lX12_set_95 rfl rfl (Nat.le_of_ble_eq_true rfl) ⟨Nat.le_of_ble_eq_true rfl, Nat.le_of_ble_eq_true rfl⟩ ⟨Nat.le_refl _, Nat.le_refl _⟩ ?_
                               refine aw_if_ne (tgt := 104) eX12_set_98 (by decide) bt_r (fun hh => have h558 := bt1 hh; ?_) (fun hh => have h558 := bt0 hh; ?_)
                               · first
                                 | (exfalso; omega; done)
                                 | (refine aw_blk oX12_set_104 (pc' := 121) (ls' := [_, _, _, _, _]) (st' := [_]) (cs := [(_, _), (_, _)]) rfl (⟨⟨by omega, by omega⟩, ⟨by omega, by omega⟩, trivial⟩) ?_
                                    refine aw_iret eX12_set_121 rfl (Nat.le_refl _) (Nat.le_refl _) ?_
                                    exact pe_i rfl rfl rfl)
                               · first
                                 | (exfalso; omega; done)
                                 | (refine aw_blk oX12_set_101 (pc' := 103) (ls' := [_, _, _, _, _]) (st' := [_]) (cs := []) rfl trivial ?_
                                    refine aw_iret eX12_set_103 rfl (Nat.le_refl _) (Nat.le_refl _) ?_
                                    exact pe_i rfl rfl rfl))
                          · first
                            | (exfalso; omega; done)
                            | (refine aw_blk oX12_set_89 (pc' := 94) (ls' := [_, _, _, _, _]) (st' := [_, _]) (cs := []) rfl trivial ?_
                               refine aw_blk oX12_set_94 (pc' := 95) (ls' := [_, _, _, _, _]) (st' := [_, _, _]) (cs := []) rfl trivial ?_
                               refine aw_ciS (rest := []) (c_X12_in (by omega) (by omega) (by omega)) kX12_in eX12_set_95 lX12_set_95 rfl rfl (Nat.le_of_ble_eq_true rfl) ⟨Nat.le_of_ble_eq_true rfl, Nat.le_of_ble_eq_true rfl⟩ ⟨Nat.le_refl _, Nat.le_refl _⟩ ?_
                               refine aw_if_ne (tgt := 104) eX12_set_98 (by decide) bt_r (fun hh => have h559 := bt1 hh; ?_) (fun hh => have h559 := bt0 hh; ?_)
                               · first
                                 | (exfalso; omega; done)
                                 | (refine aw_blk oX12_set_104 (pc' := 121) (ls' := [_, _, _, _, _]) (st' := [_]) (cs := [(_, _), (_, _)]) rfl (⟨⟨by omega, by omega⟩, ⟨by omega, by omega⟩, trivial⟩) ?_
                                    refine aw_iret eX12_set_121 rfl (Nat.le_refl _) (Nat.le_refl _) ?_
                                    exact pe_i rfl rfl rfl)
                               · first
                                 | (exfalso; omega; done)
                                 | (refine aw_blk oX12_set_101 (pc' := 103) (ls' := [_, _, _, _, _]) (st' := [_]) (cs := []) rfl trivial ?_
                                    refine aw_iret eX12_set_103 rfl (Nat.le_refl _) (Nat.le_refl _) ?_
                                    exact pe_i rfl rfl rfl)))))
           · first
             | (exfalso; omega; done)
             | (refine aw_blk oX12_set_17 (pc' := 76) (ls' := [_, _, _, _, _]) (st' := [_]) (cs := []) rfl trivial ?_
                refine aw_blk oX12_set_76 (pc' := 80) (ls' := [_, _, _, _, _]) (st' := [_, _, _]) (cs := []) rfl trivial ?_
                refine aw_icmp_eq (tgt := 89) eX12_set_80 (by decide) (by omega) (by omega) (fun h560 => ?_) (fun h560 => ?_)
                · first
                  | (exfalso; omega; done)
                  | (refine aw_blk oX12_set_89 (pc' := 94) (ls' := [_, _, _, _, _]) (st' := [_, _]) (cs := []) rfl trivial ?_
                     refine aw_blk oX12_set_94 (pc' := 95) (ls' := [_, _, _, _, _]) (st' := [_, _, _]) (cs := []) rfl trivial ?_
                     refine aw_ciS (rest := []) (c_X12_in (by omega) (by omega) (by omega)) kX12_in eX12_set_95 lX12_set_95 rfl rfl (Nat.le_of_ble_eq_true rfl) ⟨Nat.le_of_ble_eq_true rfl, Nat.le_of_ble_eq_true rfl⟩ ⟨Nat.le_refl _, Nat.le_refl _⟩ ?_
                     refine aw_if_ne (tgt := 104) eX12_set_98 (by decide) bt_r (fun hh => have h561 := bt1 hh; ?_) (fun hh => have h561 := bt0 hh; ?_)
                     · first
                       | (exfalso; omega; done)
                       | (refine aw_blk oX12_set_104 (pc' := 121) (ls' := [_, _, _, _, _]) (st' := [_]) (cs := [(_, _), (_, _)]) rfl (⟨⟨by omega, by omega⟩, ⟨by omega, by omega⟩, trivial⟩) ?_
                          refine aw_iret eX12_set_121 rfl (Nat.le_refl _) (Nat.le_refl _) ?_
                          exact pe_i rfl rfl rfl)
                     · first
                       | (exfalso; omega; done)
                       | (refine aw_blk oX12_set_101 (pc' := 103) (ls' := [_, _, _, _, _]) (st' := [_]) (cs := []) rfl trivial ?_
                          refine aw_iret eX12_set_103 rfl (Nat.le_refl _) (Nat.le_refl _) ?_
                          exact pe_i rfl rfl rfl))
                · first
                  | (exfalso; omega; done)
                  | (refine aw_blk oX12_set_83 (pc' := 86) (ls' := [_, _, _, _, _]) (st' := [_, _, _]) (cs := []) rfl trivial ?_
                     refine aw_icmp_ne (tgt := 93) eX12_set_86 (by decide) (by omega) (by omega) (fun h562 => ?_) (fun h562 => ?_)
                     · first
                       | (exfalso; omega; done)
                       | (refine aw_blk oX12_set_93 (pc' := 94) (ls' := [_, _, _, _, _]) (st' := [_, _]) (cs := []) rfl trivial ?_
                          refine aw_blk oX12_set_94 (pc' := 95) (ls' := [_, _, _, _, _]) (st' := [_, _, _]) (cs := []) rfl trivial ?_
                          refine aw_ciS (rest := []) (c_X12_in (by omega) (by omega) (by omega)) kX12_in eX12_set_95 lX12_set_95 rfl rfl (Nat.le_of_ble_eq_true rfl) ⟨Nat.le_of_ble_eq_true rfl, Nat.le_of_ble_eq_true rfl⟩ ⟨Nat.le_refl _, Nat.le_refl _⟩ ?_
                          refine aw_if_ne (tgt := 104) eX12_set_98 (by decide) bt_r (fun hh => have h563 := bt1 hh; ?_) (fun hh => have h563 := bt0 hh; ?_)
                          · first
                            | (exfalso; omega; done)
                            | (refine aw_blk oX12_set_104 (pc' := 121) (ls' := [_, _, _, _, _]) (st' := [_]) (cs := [(_, _), (_, _)]) rfl (⟨⟨by omega, by omega⟩, ⟨by omega, by omega⟩, trivial⟩) ?_
                               refine aw_iret eX12_set_121 rfl (Nat.le_refl _) (Nat.le_refl _) ?_
                               exact pe_i rfl rfl rfl)
                          · first
                            | (exfalso; omega; done)
                            | (refine aw_blk oX12_set_101 (pc' := 103) (ls' := [_, _, _, _, _]) (st' := [_]) (cs := []) rfl trivial ?_
                               refine aw_iret eX12_set_103 rfl (Nat.le_refl _) (Nat.le_refl _) ?_
                               exact pe_i rfl rfl rfl))
                     · first
                       | (exfalso; omega; done)
                       | (refine aw_blk oX12_set_89 (pc' := 94) (ls' := [_, _, _, _, _]) (st' := [_, _]) (cs := []) rfl trivial ?_
                          refine aw_blk oX12_set_94 (pc' := 95) (ls' := [_, _, _, _, _]) (st' := [_, _, _]) (cs := []) rfl trivial ?_
                          refine aw_ciS (rest := []) (c_X12_in (by omega) (by omega) (by omega)) kX12_in eX12_set_95 lX12_set_95 rfl rfl (Nat.le_of_ble_eq_true rfl) ⟨Nat.le_of_ble_eq_true rfl, Nat.le_of_ble_eq_true rfl⟩ ⟨Nat.le_refl _, Nat.le_refl _⟩ ?_
                          refine aw_if_ne (tgt := 104) eX12_set_98 (by decide) bt_r (fun hh => have h564 := bt1 hh; ?_) (fun hh => have h564 := bt0 hh; ?_)
                          · first
                            | (exfalso; omega; done)
                            | (refine aw_blk oX12_set_104 (pc' := 121) (ls' := [_, _, _, _, _]) (st' := [_]) (cs := [(_, _), (_, _)]) rfl (⟨⟨by omega, by omega⟩, ⟨by omega, by omega⟩, trivial⟩) ?_
                               refine aw_iret eX12_set_121 rfl (Nat.le_refl _) (Nat.le_refl _) ?_
                               exact pe_i rfl rfl rfl)
                          · first
                            | (exfalso; omega; done)
                            | (refine aw_blk oX12_set_101 (pc' := 103) (ls' := [_, _, _, _, _]) (st' := [_]) (cs := []) rfl trivial ?_
                               refine aw_iret eX12_set_103 rfl (Nat.le_refl _) (Nat.le_refl _) ?_
                               exact pe_i rfl rfl rfl)))))
      · first
        | (exfalso; omega; done)
        | (refine aw_blk oX12_set_10 (pc' := 12) (ls' := [_, _, _, _, _]) (st' := [_]) (cs := []) rfl trivial ?_
           refine aw_iret eX12_set_12 rfl (Nat.le_refl _) (Nat.le_refl _) ?_
           exact pe_i rfl rfl rfl)
theorem set_6 {κ : KX} {μ : MM} {ν : ML} {v : Int} (h : RS μ) (hc : 0 ≤ μ 2 8 ∧ μ 2 8 ≤ 10) (hv : R32 v) : LawT κ mX11_set mX12_set [aI 6, aI v] μ ν := by
  have s := h 6 (by decide) (by decide)
  have v0 : stv 0 6 = 1 := rfl
  have l0 : ((stA 0).length : Int) = 7 := rfl
  have l1 : ((stA 1).length : Int) = 7 := rfl
  have v1 : stv 1 6 = 9 := rfl
  have hc' : R32 (up μ 1 6 v 2 8) := (by omega : R32 (μ 2 8))
  by_cases c1 : 1 ≤ v ∧ v ≤ 9
  · refine ⟨μ 1 6, up μ 1 6 v, ν, up (up μ 1 6 v) 58 6 v, ?_, ?_, by omega, rfl, Or.inr ⟨?_, ?_, ?_, ?_, ?_⟩⟩
    · refine AMet.of kX11_set.1 (Nat.le_of_ble_eq_true rfl) rfl ?_
      refine aw_blk oX11_set_0 (pc' := 4) (ls' := [_, _, _, _]) (st' := [_, _, _]) (cs := []) rfl trivial ?_
      refine aw_ciS (rest := []) (c_X11_between (by omega) (by omega) (by omega)) kX11_between eX11_set_4 lX11_set_4 rfl rfl (Nat.le_of_ble_eq_true rfl) ⟨Nat.le_of_ble_eq_true rfl, Nat.le_of_ble_eq_true rfl⟩ ⟨Nat.le_refl _, Nat.le_refl _⟩ ?_
      refine aw_if_eq (tgt := 27) eX11_set_7 (by decide) bt_r (fun hh => have h565 := bt0 hh; ?_) (fun hh => have h565 := bt1 hh; ?_)
      · first
        | (exfalso; omega; done)
        | (refine aw_blk oX11_set_27 (pc' := 29) (ls' := [_, _, _, _]) (st' := [_]) (cs := []) rfl trivial ?_
           refine aw_iret eX11_set_29 rfl (Nat.le_refl _) (Nat.le_refl _) ?_
           exact pe_i rfl rfl rfl)
      · first
        | (exfalso; omega; done)
        | (refine aw_blk oX11_set_10 (pc' := 21) (ls' := [_, _, _, _]) (st' := [_, _, _]) (cs := [(_, _), (_, _)]) rfl (⟨⟨by omega, by omega⟩, ⟨by omega, by omega⟩, trivial⟩) ?_
           refine aw_ciS (rest := []) (c_X11_between (by omega) (by omega) (by omega)) kX11_between eX11_set_21 lX11_set_21 rfl rfl (Nat.le_of_ble_eq_true rfl) ⟨Nat.le_of_ble_eq_true rfl, Nat.le_of_ble_eq_true rfl⟩ ⟨Nat.le_refl _, Nat.le_refl _⟩ ?_
           refine aw_if_ne (tgt := 30) eX11_set_24 (by decide) bt_r (fun hh => have h566 := bt1 hh; ?_) (fun hh => have h566 := bt0 hh; ?_)
           · first
             | (exfalso; omega; done)
             | (refine aw_blk oX11_set_30 (pc' := 45) (ls' := [_, _, _, _]) (st' := [_]) (cs := [(_, _), (_, _)]) rfl (⟨⟨by omega, by omega⟩, ⟨by omega, by omega⟩, trivial⟩) ?_
                refine aw_if_ne (tgt := 56) eX11_set_45 (by decide) (by omega) (fun h567 => ?_) (fun h567 => ?_)
                · first
                  | (exfalso; omega; done)
                  | (refine aw_blk oX11_set_56 (pc' := 58) (ls' := [_, _, _, _]) (st' := [_, _]) (cs := []) rfl trivial ?_
                     refine aw_icmp_ne (tgt := 65) eX11_set_58 (by decide) (by omega) (by omega) (fun h568 => ?_) (fun h568 => ?_)
                     · first
                       | (exfalso; omega; done)
                       | (refine aw_blk oX11_set_65 (pc' := 66) (ls' := [_, _, _, _]) (st' := [_]) (cs := []) rfl trivial ?_
                          refine aw_iret eX11_set_66 rfl (Nat.le_refl _) (Nat.le_refl _) ?_
                          exact pe_i rfl rfl rfl)
                     · first
                       | (exfalso; omega; done)
                       | (refine aw_blk oX11_set_61 (pc' := 62) (ls' := [_, _, _, _]) (st' := [_]) (cs := []) rfl trivial ?_
                          refine aw_cvV (rest := []) (c_forget) kX11_forgetShows eX11_set_62 lX11_set_62 rfl rfl rfl rfl (Nat.le_of_ble_eq_true rfl) ⟨Nat.le_of_ble_eq_true rfl, Nat.le_of_ble_eq_true rfl⟩ ⟨Nat.le_refl _, Nat.le_refl _⟩ ?_
                          refine aw_blk oX11_set_65 (pc' := 66) (ls' := [_, _, _, _]) (st' := [_]) (cs := []) rfl trivial ?_
                          refine aw_iret eX11_set_66 rfl (Nat.le_refl _) (Nat.le_refl _) ?_
                          exact pe_i rfl rfl rfl))
                · first
                  | (exfalso; omega; done)
                  | (refine aw_blk oX11_set_48 (pc' := 53) (ls' := [_, _, _, _]) (st' := [_, _]) (cs := []) rfl trivial ?_
                     refine aw_cvV (rest := []) (c_forgetCuts (by omega) (by omega)) kX3_forgetCutsFrom eX11_set_53 lX11_set_53 rfl rfl rfl rfl (Nat.le_of_ble_eq_true rfl) ⟨Nat.le_of_ble_eq_true rfl, Nat.le_of_ble_eq_true rfl⟩ ⟨Nat.le_refl _, Nat.le_refl _⟩ ?_
                     refine aw_blk oX11_set_56 (pc' := 58) (ls' := [_, _, _, _]) (st' := [_, _]) (cs := []) rfl trivial ?_
                     refine aw_icmp_ne (tgt := 65) eX11_set_58 (by decide) (by omega) (by omega) (fun h569 => ?_) (fun h569 => ?_)
                     · first
                       | (exfalso; omega; done)
                       | (refine aw_blk oX11_set_65 (pc' := 66) (ls' := [_, _, _, _]) (st' := [_]) (cs := []) rfl trivial ?_
                          refine aw_iret eX11_set_66 rfl (Nat.le_refl _) (Nat.le_refl _) ?_
                          exact pe_i rfl rfl rfl)
                     · first
                       | (exfalso; omega; done)
                       | (refine aw_blk oX11_set_61 (pc' := 62) (ls' := [_, _, _, _]) (st' := [_]) (cs := []) rfl trivial ?_
                          refine aw_cvV (rest := []) (c_forget) kX11_forgetShows eX11_set_62 lX11_set_62 rfl rfl rfl rfl (Nat.le_of_ble_eq_true rfl) ⟨Nat.le_of_ble_eq_true rfl, Nat.le_of_ble_eq_true rfl⟩ ⟨Nat.le_refl _, Nat.le_refl _⟩ ?_
                          refine aw_blk oX11_set_65 (pc' := 66) (ls' := [_, _, _, _]) (st' := [_]) (cs := []) rfl trivial ?_
                          refine aw_iret eX11_set_66 rfl (Nat.le_refl _) (Nat.le_refl _) ?_
                          exact pe_i rfl rfl rfl)))
           · first
             | (exfalso; omega; done)
             | (refine aw_blk oX11_set_27 (pc' := 29) (ls' := [_, _, _, _]) (st' := [_]) (cs := []) rfl trivial ?_
                refine aw_iret eX11_set_29 rfl (Nat.le_refl _) (Nat.le_refl _) ?_
                exact pe_i rfl rfl rfl))
    · refine AMet.of kX12_set.1 (Nat.le_of_ble_eq_true rfl) rfl ?_
      refine aw_blk oX12_set_0 (pc' := 4) (ls' := [_, _, _, _, _]) (st' := [_, _, _]) (cs := []) rfl trivial ?_
      refine aw_ciS (rest := []) (c_X12_in (by omega) (by omega) (by omega)) kX12_in eX12_set_4 lX12_set_4 rfl rfl (Nat.le_of_ble_eq_true rfl) ⟨Nat.le_of_ble_eq_true rfl, Nat.le_of_ble_eq_true rfl⟩ ⟨Nat.le_refl _, Nat.le_refl _⟩ ?_
      refine aw_if_ne (tgt := 13) eX12_set_7 (by decide) bt_r (fun hh => have h570 := bt1 hh; ?_) (fun hh => have h570 := bt0 hh; ?_)
      · first
        | (exfalso; omega; done)
        | (refine aw_blk oX12_set_13 (pc' := 14) (ls' := [_, _, _, _, _]) (st' := [_]) (cs := []) rfl trivial ?_
           refine aw_if_ne (tgt := 22) eX12_set_14 (by decide) (by omega) (fun h571 => ?_) (fun h571 => ?_)
           · first
             | (exfalso; omega; done)
             | (refine aw_blk oX12_set_22 (pc' := 24) (ls' := [_, _, _, _, _]) (st' := [_, _]) (cs := []) rfl trivial ?_
                refine aw_icmp_ne (tgt := 33) eX12_set_24 (by decide) (by omega) (by omega) (fun h572 => ?_) (fun h572 => ?_)
                · first
                  | (exfalso; omega; done)
                  | (refine aw_blk oX12_set_33 (pc' := 35) (ls' := [_, _, _, _, _]) (st' := [_, _]) (cs := []) rfl trivial ?_
                     refine aw_icmp_ne (tgt := 43) eX12_set_35 (by decide) (by omega) (by omega) (fun h573 => ?_) (fun h573 => ?_)
                     · first
                       | (exfalso; omega; done)
                       | (refine aw_blk oX12_set_43 (pc' := 45) (ls' := [_, _, _, _, _]) (st' := [_, _]) (cs := []) rfl trivial ?_
                          refine aw_icmp_ne (tgt := 53) eX12_set_45 (by decide) (by omega) (by omega) (fun h574 => ?_) (fun h574 => ?_)
                          · first
                            | (exfalso; omega; done)
                            | (refine aw_blk oX12_set_53 (pc' := 55) (ls' := [_, _, _, _, _]) (st' := [_, _]) (cs := []) rfl trivial ?_
                               refine aw_icmp_ne (tgt := 63) eX12_set_55 (by decide) (by omega) (by omega) (fun h575 => ?_) (fun h575 => ?_)
                               · first
                                 | (exfalso; omega; done)
                                 | (refine aw_blk oX12_set_63 (pc' := 65) (ls' := [_, _, _, _, _]) (st' := [_, _]) (cs := []) rfl trivial ?_
                                    refine aw_icmp_ne (tgt := 74) eX12_set_65 (by decide) (by omega) (by omega) (fun h576 => ?_) (fun h576 => ?_)
                                    · first
                                      | (exfalso; omega; done)
                                      | (refine aw_blk oX12_set_74 (pc' := 76) (ls' := [_, _, _, _, _]) (st' := [_]) (cs := []) rfl trivial ?_
                                         refine aw_blk oX12_set_76 (pc' := 80) (ls' := [_, _, _, _, _]) (st' := [_, _, _]) (cs := []) rfl trivial ?_
                                         refine aw_icmp_eq (tgt := 89) eX12_set_80 (by decide) (by omega) (by omega) (fun h577 => ?_) (fun h577 => ?_)
                                         · first
                                           | (exfalso; omega; done)
                                           | (refine aw_blk oX12_set_89 (pc' := 94) (ls' := [_, _, _, _, _]) (st' := [_, _]) (cs := []) rfl trivial ?_
                                              refine aw_blk oX12_set_94 (pc' := 95) (ls' := [_, _, _, _, _]) (st' := [_, _, _]) (cs := []) rfl trivial ?_
                                              refine aw_ciS (rest := []) (c_X12_in (by omega) (by omega) (by omega)) kX12_in eX12_set_95 lX12_set_95 rfl rfl (Nat.le_of_ble_eq_true rfl) ⟨Nat.le_of_ble_eq_true rfl, Nat.le_of_ble_eq_true rfl⟩ ⟨Nat.le_refl _, Nat.le_refl _⟩ ?_
                                              refine aw_if_ne (tgt := 104) eX12_set_98 (by decide) bt_r (fun hh => have h578 := bt1 hh; ?_) (fun hh => have h578 := bt0 hh; ?_)
                                              · first
                                                | (exfalso; omega; done)
                                                | (refine aw_blk oX12_set_104 (pc' := 121) (ls' := [_, _, _, _, _]) (st' := [_]) (cs := [(_, _), (_, _)]) rfl (⟨⟨by omega, by omega⟩, ⟨by omega, by omega⟩, trivial⟩) ?_
                                                   refine aw_iret eX12_set_121 rfl (Nat.le_refl _) (Nat.le_refl _) ?_
                                                   exact pe_i s.1 rfl rfl)
                                              · first
                                                | (exfalso; omega; done)
                                                | (refine aw_blk oX12_set_101 (pc' := 103) (ls' := [_, _, _, _, _]) (st' := [_]) (cs := []) rfl trivial ?_
                                                   refine aw_iret eX12_set_103 rfl (Nat.le_refl _) (Nat.le_refl _) ?_
                                                   exact pe_i s.1 rfl rfl))
                                         · first
                                           | (exfalso; omega; done)
                                           | (refine aw_blk oX12_set_83 (pc' := 86) (ls' := [_, _, _, _, _]) (st' := [_, _, _]) (cs := []) rfl trivial ?_
                                              refine aw_icmp_ne (tgt := 93) eX12_set_86 (by decide) (by omega) (by omega) (fun h579 => ?_) (fun h579 => ?_)
                                              · first
                                                | (exfalso; omega; done)
                                                | (refine aw_blk oX12_set_93 (pc' := 94) (ls' := [_, _, _, _, _]) (st' := [_, _]) (cs := []) rfl trivial ?_
                                                   refine aw_blk oX12_set_94 (pc' := 95) (ls' := [_, _, _, _, _]) (st' := [_, _, _]) (cs := []) rfl trivial ?_
                                                   refine aw_ciS (rest := []) (c_X12_in (by omega) (by omega) (by omega)) kX12_in eX12_set_95 lX12_set_95 rfl rfl (Nat.le_of_ble_eq_true rfl) ⟨Nat.le_of_ble_eq_true rfl, Nat.le_of_ble_eq_true rfl⟩ ⟨Nat.le_refl _, Nat.le_refl _⟩ ?_
                                                   refine aw_if_ne (tgt := 104) eX12_set_98 (by decide) bt_r (fun hh => have h580 := bt1 hh; ?_) (fun hh => have h580 := bt0 hh; ?_)
                                                   · first
                                                     | (exfalso; omega; done)
                                                     | (refine aw_blk oX12_set_104 (pc' := 121) (ls' := [_, _, _, _, _]) (st' := [_]) (cs := [(_, _), (_, _)]) rfl (⟨⟨by omega, by omega⟩, ⟨by omega, by omega⟩, trivial⟩) ?_
                                                        refine aw_iret eX12_set_121 rfl (Nat.le_refl _) (Nat.le_refl _) ?_
                                                        exact pe_i s.1 rfl rfl)
                                                   · first
                                                     | (exfalso; omega; done)
                                                     | (refine aw_blk oX12_set_101 (pc' := 103) (ls' := [_, _, _, _, _]) (st' := [_]) (cs := []) rfl trivial ?_
                                                        refine aw_iret eX12_set_103 rfl (Nat.le_refl _) (Nat.le_refl _) ?_
                                                        exact pe_i s.1 rfl rfl))
                                              · first
                                                | (exfalso; omega; done)
                                                | (refine aw_blk oX12_set_89 (pc' := 94) (ls' := [_, _, _, _, _]) (st' := [_, _]) (cs := []) rfl trivial ?_
                                                   refine aw_blk oX12_set_94 (pc' := 95) (ls' := [_, _, _, _, _]) (st' := [_, _, _]) (cs := []) rfl trivial ?_
                                                   refine aw_ciS (rest := []) (c_X12_in (by omega) (by omega) (by omega)) kX12_in eX12_set_95 lX12_set_95 rfl rfl (Nat.le_of_ble_eq_true rfl) ⟨Nat.le_of_ble_eq_true rfl, Nat.le_of_ble_eq_true rfl⟩ ⟨Nat.le_refl _, Nat.le_refl _⟩ ?_
                                                   refine aw_if_ne (tgt := 104) eX12_set_98 (by decide) bt_r (fun hh => have h581 := bt1 hh; ?_) (fun hh => have h581 := bt0 hh; ?_)
                                                   · first
                                                     | (exfalso; omega; done)
                                                     | (refine aw_blk oX12_set_104 (pc' := 121) (ls' := [_, _, _, _, _]) (st' := [_]) (cs := [(_, _), (_, _)]) rfl (⟨⟨by omega, by omega⟩, ⟨by omega, by omega⟩, trivial⟩) ?_
                                                        refine aw_iret eX12_set_121 rfl (Nat.le_refl _) (Nat.le_refl _) ?_
                                                        exact pe_i s.1 rfl rfl)
                                                   · first
                                                     | (exfalso; omega; done)
                                                     | (refine aw_blk oX12_set_101 (pc' := 103) (ls' := [_, _, _, _, _]) (st' := [_]) (cs := []) rfl trivial ?_
                                                        refine aw_iret eX12_set_103 rfl (Nat.le_refl _) (Nat.le_refl _) ?_
                                                        exact pe_i s.1 rfl rfl))))
                                    · first
                                      | (exfalso; omega; done)
                                      | (refine aw_blk oX12_set_68 (pc' := 76) (ls' := [_, _, _, _, _]) (st' := [_]) (cs := []) rfl trivial ?_
                                         refine aw_blk oX12_set_76 (pc' := 80) (ls' := [_, _, _, _, _]) (st' := [_, _, _]) (cs := []) rfl trivial ?_
                                         refine aw_icmp_eq (tgt := 89) eX12_set_80 (by decide) (by omega) (by omega) (fun h582 => ?_) (fun h582 => ?_)
                                         · first
                                           | (exfalso; omega; done)
                                           | (refine aw_blk oX12_set_89 (pc' := 94) (ls' := [_, _, _, _, _]) (st' := [_, _]) (cs := []) rfl trivial ?_
                                              refine aw_blk oX12_set_94 (pc' := 95) (ls' := [_, _, _, _, _]) (st' := [_, _, _]) (cs := []) rfl trivial ?_
                                              refine aw_ciS (rest := []) (c_X12_in (by omega) (by omega) (by omega)) kX12_in eX12_set_95 lX12_set_95 rfl rfl (Nat.le_of_ble_eq_true rfl) ⟨Nat.le_of_ble_eq_true rfl, Nat.le_of_ble_eq_true rfl⟩ ⟨Nat.le_refl _, Nat.le_refl _⟩ ?_
                                              refine aw_if_ne (tgt := 104) eX12_set_98 (by decide) bt_r (fun hh => have h583 := bt1 hh; ?_) (fun hh => have h583 := bt0 hh; ?_)
                                              · first
                                                | (exfalso; omega; done)
                                                | (refine aw_blk oX12_set_104 (pc' := 121) (ls' := [_, _, _, _, _]) (st' := [_]) (cs := [(_, _), (_, _)]) rfl (⟨⟨by omega, by omega⟩, ⟨by omega, by omega⟩, trivial⟩) ?_
                                                   refine aw_iret eX12_set_121 rfl (Nat.le_refl _) (Nat.le_refl _) ?_
                                                   exact pe_i s.1 rfl rfl)
                                              · first
                                                | (exfalso; omega; done)
                                                | (refine aw_blk oX12_set_101 (pc' := 103) (ls' := [_, _, _, _, _]) (st' := [_]) (cs := []) rfl trivial ?_
                                                   refine aw_iret eX12_set_103 rfl (Nat.le_refl _) (Nat.le_refl _) ?_
                                                   exact pe_i s.1 rfl rfl))
                                         · first
                                           | (exfalso; omega; done)
                                           | (refine aw_blk oX12_set_83 (pc' := 86) (ls' := [_, _, _, _, _]) (st' := [_, _, _]) (cs := []) rfl trivial ?_
                                              refine aw_icmp_ne (tgt := 93) eX12_set_86 (by decide) (by omega) (by omega) (fun h584 => ?_) (fun h584 => ?_)
                                              · first
                                                | (exfalso; omega; done)
                                                | (refine aw_blk oX12_set_93 (pc' := 94) (ls' := [_, _, _, _, _]) (st' := [_, _]) (cs := []) rfl trivial ?_
                                                   refine aw_blk oX12_set_94 (pc' := 95) (ls' := [_, _, _, _, _]) (st' := [_, _, _]) (cs := []) rfl trivial ?_
                                                   refine aw_ciS (rest := []) (c_X12_in (by omega) (by omega) (by omega)) kX12_in eX12_set_95 lX12_set_95 rfl rfl (Nat.le_of_ble_eq_true rfl) ⟨Nat.le_of_ble_eq_true rfl, Nat.le_of_ble_eq_true rfl⟩ ⟨Nat.le_refl _, Nat.le_refl _⟩ ?_
                                                   refine aw_if_ne (tgt := 104) eX12_set_98 (by decide) bt_r (fun hh => have h585 := bt1 hh; ?_) (fun hh => have h585 := bt0 hh; ?_)
                                                   · first
                                                     | (exfalso; omega; done)
                                                     | (refine aw_blk oX12_set_104 (pc' := 121) (ls' := [_, _, _, _, _]) (st' := [_]) (cs := [(_, _), (_, _)]) rfl (⟨⟨by omega, by omega⟩, ⟨by omega, by omega⟩, trivial⟩) ?_
                                                        refine aw_iret eX12_set_121 rfl (Nat.le_refl _) (Nat.le_refl _) ?_
                                                        exact pe_i s.1 rfl rfl)
                                                   · first
                                                     | (exfalso; omega; done)
                                                     | (refine aw_blk oX12_set_101 (pc' := 103) (ls' := [_, _, _, _, _]) (st' := [_]) (cs := []) rfl trivial ?_
                                                        refine aw_iret eX12_set_103 rfl (Nat.le_refl _) (Nat.le_refl _) ?_
                                                        exact pe_i s.1 rfl rfl))
                                              · first
                                                | (exfalso; omega; done)
                                                | (refine aw_blk oX12_set_89 (pc' := 94) (ls' := [_, _, _, _, _]) (st' := [_, _]) (cs := []) rfl trivial ?_
                                                   refine aw_blk oX12_set_94 (pc' := 95) (ls' := [_, _, _, _, _]) (st' := [_, _, _]) (cs := []) rfl trivial ?_
                                                   refine aw_ciS (rest := []) (c_X12_in (by omega) (by omega) (by omega)) kX12_in eX12_set_95 lX12_set_95 rfl rfl (Nat.le_of_ble_eq_true rfl) ⟨Nat.le_of_ble_eq_true rfl, Nat.le_of_ble_eq_true rfl⟩ ⟨Nat.le_refl _, Nat.le_refl _⟩ ?_
                                                   refine aw_if_ne (tgt := 104) eX12_set_98 (by decide) bt_r (fun hh => have h586 := bt1 hh; ?_) (fun hh => have h586 := bt0 hh; ?_)
                                                   · first
                                                     | (exfalso; omega; done)
                                                     | (refine aw_blk oX12_set_104 (pc' := 121) (ls' := [_, _, _, _, _]) (st' := [_]) (cs := [(_, _), (_, _)]) rfl (⟨⟨by omega, by omega⟩, ⟨by omega, by omega⟩, trivial⟩) ?_
                                                        refine aw_iret eX12_set_121 rfl (Nat.le_refl _) (Nat.le_refl _) ?_
                                                        exact pe_i s.1 rfl rfl)
                                                   · first
                                                     | (exfalso; omega; done)
                                                     | (refine aw_blk oX12_set_101 (pc' := 103) (ls' := [_, _, _, _, _]) (st' := [_]) (cs := []) rfl trivial ?_
                                                        refine aw_iret eX12_set_103 rfl (Nat.le_refl _) (Nat.le_refl _) ?_
                                                        exact pe_i s.1 rfl rfl)))))
                               · first
                                 | (exfalso; omega; done)
                                 | (refine aw_blk oX12_set_58 (pc' := 76) (ls' := [_, _, _, _, _]) (st' := [_]) (cs := []) rfl trivial ?_
                                    refine aw_blk oX12_set_76 (pc' := 80) (ls' := [_, _, _, _, _]) (st' := [_, _, _]) (cs := []) rfl trivial ?_
                                    refine aw_icmp_eq (tgt := 89) eX12_set_80 (by decide) (by omega) (by omega) (fun h587 => ?_) (fun h587 => ?_)
                                    · first
                                      | (exfalso; omega; done)
                                      | (refine aw_blk oX12_set_89 (pc' := 94) (ls' := [_, _, _, _, _]) (st' := [_, _]) (cs := []) rfl trivial ?_
                                         refine aw_blk oX12_set_94 (pc' := 95) (ls' := [_, _, _, _, _]) (st' := [_, _, _]) (cs := []) rfl trivial ?_
                                         refine aw_ciS (rest := []) (c_X12_in (by omega) (by omega) (by omega)) kX12_in eX12_set_95 lX12_set_95 rfl rfl (Nat.le_of_ble_eq_true rfl) ⟨Nat.le_of_ble_eq_true rfl, Nat.le_of_ble_eq_true rfl⟩ ⟨Nat.le_refl _, Nat.le_refl _⟩ ?_
                                         refine aw_if_ne (tgt := 104) eX12_set_98 (by decide) bt_r (fun hh => have h588 := bt1 hh; ?_) (fun hh => have h588 := bt0 hh; ?_)
                                         · first
                                           | (exfalso; omega; done)
                                           | (refine aw_blk oX12_set_104 (pc' := 121) (ls' := [_, _, _, _, _]) (st' := [_]) (cs := [(_, _), (_, _)]) rfl (⟨⟨by omega, by omega⟩, ⟨by omega, by omega⟩, trivial⟩) ?_
                                              refine aw_iret eX12_set_121 rfl (Nat.le_refl _) (Nat.le_refl _) ?_
                                              exact pe_i s.1 rfl rfl)
                                         · first
                                           | (exfalso; omega; done)
                                           | (refine aw_blk oX12_set_101 (pc' := 103) (ls' := [_, _, _, _, _]) (st' := [_]) (cs := []) rfl trivial ?_
                                              refine aw_iret eX12_set_103 rfl (Nat.le_refl _) (Nat.le_refl _) ?_
                                              exact pe_i s.1 rfl rfl))
                                    · first
                                      | (exfalso; omega; done)
                                      | (refine aw_blk oX12_set_83 (pc' := 86) (ls' := [_, _, _, _, _]) (st' := [_, _, _]) (cs := []) rfl trivial ?_
                                         refine aw_icmp_ne (tgt := 93) eX12_set_86 (by decide) (by omega) (by omega) (fun h589 => ?_) (fun h589 => ?_)
                                         · first
                                           | (exfalso; omega; done)
                                           | (refine aw_blk oX12_set_93 (pc' := 94) (ls' := [_, _, _, _, _]) (st' := [_, _]) (cs := []) rfl trivial ?_
                                              refine aw_blk oX12_set_94 (pc' := 95) (ls' := [_, _, _, _, _]) (st' := [_, _, _]) (cs := []) rfl trivial ?_
                                              refine aw_ciS (rest := []) (c_X12_in (by omega) (by omega) (by omega)) kX12_in eX12_set_95 lX12_set_95 rfl rfl (Nat.le_of_ble_eq_true rfl) ⟨Nat.le_of_ble_eq_true rfl, Nat.le_of_ble_eq_true rfl⟩ ⟨Nat.le_refl _, Nat.le_refl _⟩ ?_
                                              refine aw_if_ne (tgt := 104) eX12_set_98 (by decide) bt_r (fun hh => have h590 := bt1 hh; ?_) (fun hh => have h590 := bt0 hh; ?_)
                                              · first
                                                | (exfalso; omega; done)
                                                | (refine aw_blk oX12_set_104 (pc' := 121) (ls' := [_, _, _, _, _]) (st' := [_]) (cs := [(_, _), (_, _)]) rfl (⟨⟨by omega, by omega⟩, ⟨by omega, by omega⟩, trivial⟩) ?_
                                                   refine aw_iret eX12_set_121 rfl (Nat.le_refl _) (Nat.le_refl _) ?_
                                                   exact pe_i s.1 rfl rfl)
                                              · first
                                                | (exfalso; omega; done)
                                                | (refine aw_blk oX12_set_101 (pc' := 103) (ls' := [_, _, _, _, _]) (st' := [_]) (cs := []) rfl trivial ?_
                                                   refine aw_iret eX12_set_103 rfl (Nat.le_refl _) (Nat.le_refl _) ?_
                                                   exact pe_i s.1 rfl rfl))
                                         · first
                                           | (exfalso; omega; done)
                                           | (refine aw_blk oX12_set_89 (pc' := 94) (ls' := [_, _, _, _, _]) (st' := [_, _]) (cs := []) rfl trivial ?_
                                              refine aw_blk oX12_set_94 (pc' := 95) (ls' := [_, _, _, _, _]) (st' := [_, _, _]) (cs := []) rfl trivial ?_
                                              refine aw_ciS (rest := []) (c_X12_in (by omega) (by omega) (by omega)) kX12_in eX12_set_95 lX12_set_95 rfl rfl (Nat.le_of_ble_eq_true rfl) ⟨Nat.le_of_ble_eq_true rfl, Nat.le_of_ble_eq_true rfl⟩ ⟨Nat.le_refl _, Nat.le_refl _⟩ ?_
                                              refine aw_if_ne (tgt := 104) eX12_set_98 (by decide) bt_r (fun hh => have h591 := bt1 hh; ?_) (fun hh => have h591 := bt0 hh; ?_)
                                              · first
                                                | (exfalso; omega; done)
                                                | (refine aw_blk oX12_set_104 (pc' := 121) (ls' := [_, _, _, _, _]) (st' := [_]) (cs := [(_, _), (_, _)]) rfl (⟨⟨by omega, by omega⟩, ⟨by omega, by omega⟩, trivial⟩) ?_
                                                   refine aw_iret eX12_set_121 rfl (Nat.le_refl _) (Nat.le_refl _) ?_
                                                   exact pe_i s.1 rfl rfl)
                                              · first
                                                | (exfalso; omega; done)
                                                | (refine aw_blk oX12_set_101 (pc' := 103) (ls' := [_, _, _, _, _]) (st' := [_]) (cs := []) rfl trivial ?_
                                                   refine aw_iret eX12_set_103 rfl (Nat.le_refl _) (Nat.le_refl _) ?_
                                                   exact pe_i s.1 rfl rfl)))))
                          · first
                            | (exfalso; omega; done)
                            | (refine aw_blk oX12_set_48 (pc' := 76) (ls' := [_, _, _, _, _]) (st' := [_]) (cs := []) rfl trivial ?_
                               refine aw_blk oX12_set_76 (pc' := 80) (ls' := [_, _, _, _, _]) (st' := [_, _, _]) (cs := []) rfl trivial ?_
                               refine aw_icmp_eq (tgt := 89) eX12_set_80 (by decide) (by omega) (by omega) (fun h592 => ?_) (fun h592 => ?_)
                               · first
                                 | (exfalso; omega; done)
                                 | (refine aw_blk oX12_set_89 (pc' := 94) (ls' := [_, _, _, _, _]) (st' := [_, _]) (cs := []) rfl trivial ?_
                                    refine aw_blk oX12_set_94 (pc' := 95) (ls' := [_, _, _, _, _]) (st' := [_, _, _]) (cs := []) rfl trivial ?_
                                    refine aw_ciS (rest := []) (c_X12_in (by omega) (by omega) (by omega)) kX12_in eX12_set_95 lX12_set_95 rfl rfl (Nat.le_of_ble_eq_true rfl) ⟨Nat.le_of_ble_eq_true rfl, Nat.le_of_ble_eq_true rfl⟩ ⟨Nat.le_refl _, Nat.le_refl _⟩ ?_
                                    refine aw_if_ne (tgt := 104) eX12_set_98 (by decide) bt_r (fun hh => have h593 := bt1 hh; ?_) (fun hh => have h593 := bt0 hh; ?_)
                                    · first
                                      | (exfalso; omega; done)
                                      | (refine aw_blk oX12_set_104 (pc' := 121) (ls' := [_, _, _, _, _]) (st' := [_]) (cs := [(_, _), (_, _)]) rfl (⟨⟨by omega, by omega⟩, ⟨by omega, by omega⟩, trivial⟩) ?_
                                         refine aw_iret eX12_set_121 rfl (Nat.le_refl _) (Nat.le_refl _) ?_
                                         exact pe_i s.1 rfl rfl)
                                    · first
                                      | (exfalso; omega; done)
                                      | (refine aw_blk oX12_set_101 (pc' := 103) (ls' := [_, _, _, _, _]) (st' := [_]) (cs := []) rfl trivial ?_
                                         refine aw_iret eX12_set_103 rfl (Nat.le_refl _) (Nat.le_refl _) ?_
                                         exact pe_i s.1 rfl rfl))
                               · first
                                 | (exfalso; omega; done)
                                 | (refine aw_blk oX12_set_83 (pc' := 86) (ls' := [_, _, _, _, _]) (st' := [_, _, _]) (cs := []) rfl trivial ?_
                                    refine aw_icmp_ne (tgt := 93) eX12_set_86 (by decide) (by omega) (by omega) (fun h594 => ?_) (fun h594 => ?_)
                                    · first
                                      | (exfalso; omega; done)
                                      | (refine aw_blk oX12_set_93 (pc' := 94) (ls' := [_, _, _, _, _]) (st' := [_, _]) (cs := []) rfl trivial ?_
                                         refine aw_blk oX12_set_94 (pc' := 95) (ls' := [_, _, _, _, _]) (st' := [_, _, _]) (cs := []) rfl trivial ?_
                                         refine aw_ciS (rest := []) (c_X12_in (by omega) (by omega) (by omega)) kX12_in eX12_set_95 lX12_set_95 rfl rfl (Nat.le_of_ble_eq_true rfl) ⟨Nat.le_of_ble_eq_true rfl, Nat.le_of_ble_eq_true rfl⟩ ⟨Nat.le_refl _, Nat.le_refl _⟩ ?_
                                         refine aw_if_ne (tgt := 104) eX12_set_98 (by decide) bt_r (fun hh => have h595 := bt1 hh; ?_) (fun hh => have h595 := bt0 hh; ?_)
                                         · first
                                           | (exfalso; omega; done)
                                           | (refine aw_blk oX12_set_104 (pc' := 121) (ls' := [_, _, _, _, _]) (st' := [_]) (cs := [(_, _), (_, _)]) rfl (⟨⟨by omega, by omega⟩, ⟨by omega, by omega⟩, trivial⟩) ?_
                                              refine aw_iret eX12_set_121 rfl (Nat.le_refl _) (Nat.le_refl _) ?_
                                              exact pe_i s.1 rfl rfl)
                                         · first
                                           | (exfalso; omega; done)
                                           | (refine aw_blk oX12_set_101 (pc' := 103) (ls' := [_, _, _, _, _]) (st' := [_]) (cs := []) rfl trivial ?_
                                              refine aw_iret eX12_set_103 rfl (Nat.le_refl _) (Nat.le_refl _) ?_
                                              exact pe_i s.1 rfl rfl))
                                    · first
                                      | (exfalso; omega; done)
                                      | (refine aw_blk oX12_set_89 (pc' := 94) (ls' := [_, _, _, _, _]) (st' := [_, _]) (cs := []) rfl trivial ?_
                                         refine aw_blk oX12_set_94 (pc' := 95) (ls' := [_, _, _, _, _]) (st' := [_, _, _]) (cs := []) rfl trivial ?_
                                         refine aw_ciS (rest := []) (c_X12_in (by omega) (by omega) (by omega)) kX12_in eX12_set_95 lX12_set_95 rfl rfl (Nat.le_of_ble_eq_true rfl) ⟨Nat.le_of_ble_eq_true rfl, Nat.le_of_ble_eq_true rfl⟩ ⟨Nat.le_refl _, Nat.le_refl _⟩ ?_
                                         refine aw_if_ne (tgt := 104) eX12_set_98 (by decide) bt_r (fun hh => have h596 := bt1 hh; ?_) (fun hh => have h596 := bt0 hh; ?_)
                                         · first
                                           | (exfalso; omega; done)
                                           | (refine aw_blk oX12_set_104 (pc' := 121) (ls' := [_, _, _, _, _]) (st' := [_]) (cs := [(_, _), (_, _)]) rfl (⟨⟨by omega, by omega⟩, ⟨by omega, by omega⟩, trivial⟩) ?_
                                              refine aw_iret eX12_set_121 rfl (Nat.le_refl _) (Nat.le_refl _) ?_
                                              exact pe_i s.1 rfl rfl)
                                         · first
                                           | (exfalso; omega; done)
                                           | (refine aw_blk oX12_set_101 (pc' := 103) (ls' := [_, _, _, _, _]) (st' := [_]) (cs := []) rfl trivial ?_
                                              refine aw_iret eX12_set_103 rfl (Nat.le_refl _) (Nat.le_refl _) ?_
                                              exact pe_i s.1 rfl rfl)))))
                     · first
                       | (exfalso; omega; done)
                       | (refine aw_blk oX12_set_38 (pc' := 76) (ls' := [_, _, _, _, _]) (st' := [_]) (cs := []) rfl trivial ?_
                          refine aw_blk oX12_set_76 (pc' := 80) (ls' := [_, _, _, _, _]) (st' := [_, _, _]) (cs := []) rfl trivial ?_
                          refine aw_icmp_eq (tgt := 89) eX12_set_80 (by decide) (by omega) (by omega) (fun h597 => ?_) (fun h597 => ?_)
                          · first
                            | (exfalso; omega; done)
                            | (refine aw_blk oX12_set_89 (pc' := 94) (ls' := [_, _, _, _, _]) (st' := [_, _]) (cs := []) rfl trivial ?_
                               refine aw_blk oX12_set_94 (pc' := 95) (ls' := [_, _, _, _, _]) (st' := [_, _, _]) (cs := []) rfl trivial ?_
                               refine aw_ciS (rest := []) (c_X12_in (by omega) (by omega) (by omega)) kX12_in eX12_set_95 lX12_set_95 rfl rfl (Nat.le_of_ble_eq_true rfl) ⟨Nat.le_of_ble_eq_true rfl, Nat.le_of_ble_eq_true rfl⟩ ⟨Nat.le_refl _, Nat.le_refl _⟩ ?_
                               refine aw_if_ne (tgt := 104) eX12_set_98 (by decide) bt_r (fun hh => have h598 := bt1 hh; ?_) (fun hh => have h598 := bt0 hh; ?_)
                               · first
                                 | (exfalso; omega; done)
                                 | (refine aw_blk oX12_set_104 (pc' := 121) (ls' := [_, _, _, _, _]) (st' := [_]) (cs := [(_, _), (_, _)]) rfl (⟨⟨by omega, by omega⟩, ⟨by omega, by omega⟩, trivial⟩) ?_
                                    refine aw_iret eX12_set_121 rfl (Nat.le_refl _) (Nat.le_refl _) ?_
                                    exact pe_i s.1 rfl rfl)
                               · first
                                 | (exfalso; omega; done)
                                 | (refine aw_blk oX12_set_101 (pc' := 103) (ls' := [_, _, _, _, _]) (st' := [_]) (cs := []) rfl trivial ?_
                                    refine aw_iret eX12_set_103 rfl (Nat.le_refl _) (Nat.le_refl _) ?_
                                    exact pe_i s.1 rfl rfl))
                          · first
                            | (exfalso; omega; done)
                            | (refine aw_blk oX12_set_83 (pc' := 86) (ls' := [_, _, _, _, _]) (st' := [_, _, _]) (cs := []) rfl trivial ?_
                               refine aw_icmp_ne (tgt := 93) eX12_set_86 (by decide) (by omega) (by omega) (fun h599 => ?_) (fun h599 => ?_)
                               · first
                                 | (exfalso; omega; done)
                                 | (refine aw_blk oX12_set_93 (pc' := 94) (ls' := [_, _, _, _, _]) (st' := [_, _]) (cs := []) rfl trivial ?_
                                    refine aw_blk oX12_set_94 (pc' := 95) (ls' := [_, _, _, _, _]) (st' := [_, _, _]) (cs := []) rfl trivial ?_
                                    refine aw_ciS (rest := []) (c_X12_in (by omega) (by omega) (by omega)) kX12_in eX12_set_95 lX12_set_95 rfl rfl (Nat.le_of_ble_eq_true rfl) ⟨Nat.le_of_ble_eq_true rfl, Nat.le_of_ble_eq_true rfl⟩ ⟨Nat.le_refl _, Nat.le_refl _⟩ ?_
                                    refine aw_if_ne (tgt := 104) eX12_set_98 (by decide) bt_r (fun hh => have h600 := bt1 hh; ?_) (fun hh => have h600 := bt0 hh; ?_)
                                    · first
                                      | (exfalso; omega; done)
                                      | (refine aw_blk oX12_set_104 (pc' := 121) (ls' := [_, _, _, _, _]) (st' := [_]) (cs := [(_, _), (_, _)]) rfl (⟨⟨by omega, by omega⟩, ⟨by omega, by omega⟩, trivial⟩) ?_
                                         refine aw_iret eX12_set_121 rfl (Nat.le_refl _) (Nat.le_refl _) ?_
                                         exact pe_i s.1 rfl rfl)
                                    · first
                                      | (exfalso; omega; done)
                                      | (refine aw_blk oX12_set_101 (pc' := 103) (ls' := [_, _, _, _, _]) (st' := [_]) (cs := []) rfl trivial ?_
                                         refine aw_iret eX12_set_103 rfl (Nat.le_refl _) (Nat.le_refl _) ?_
                                         exact pe_i s.1 rfl rfl))
                               · first
                                 | (exfalso; omega; done)
                                 | (refine aw_blk oX12_set_89 (pc' := 94) (ls' := [_, _, _, _, _]) (st' := [_, _]) (cs := []) rfl trivial ?_
                                    refine aw_blk oX12_set_94 (pc' := 95) (ls' := [_, _, _, _, _]) (st' := [_, _, _]) (cs := []) rfl trivial ?_
                                    refine aw_ciS (rest := []) (c_X12_in (by omega) (by omega) (by omega)) kX12_in eX12_set_95 lX12_set_95 rfl rfl (Nat.le_of_ble_eq_true rfl) ⟨Nat.le_of_ble_eq_true rfl, Nat.le_of_ble_eq_true rfl⟩ ⟨Nat.le_refl _, Nat.le_refl _⟩ ?_
                                    refine aw_if_ne (tgt := 104) eX12_set_98 (by decide) bt_r (fun hh => have h601 := bt1 hh; ?_) (fun hh => have h601 := bt0 hh; ?_)
                                    · first
                                      | (exfalso; omega; done)
                                      | (refine aw_blk oX12_set_104 (pc' := 121) (ls' := [_, _, _, _, _]) (st' := [_]) (cs := [(_, _), (_, _)]) rfl (⟨⟨by omega, by omega⟩, ⟨by omega, by omega⟩, trivial⟩) ?_
                                         refine aw_iret eX12_set_121 rfl (Nat.le_refl _) (Nat.le_refl _) ?_
                                         exact pe_i s.1 rfl rfl)
                                    · first
                                      | (exfalso; omega; done)
                                      | (refine aw_blk oX12_set_101 (pc' := 103) (ls' := [_, _, _, _, _]) (st' := [_]) (cs := []) rfl trivial ?_
                                         refine aw_iret eX12_set_103 rfl (Nat.le_refl _) (Nat.le_refl _) ?_
                                         exact pe_i s.1 rfl rfl)))))
                · first
                  | (exfalso; omega; done)
                  | (refine aw_blk oX12_set_27 (pc' := 76) (ls' := [_, _, _, _, _]) (st' := [_]) (cs := []) rfl trivial ?_
                     refine aw_blk oX12_set_76 (pc' := 80) (ls' := [_, _, _, _, _]) (st' := [_, _, _]) (cs := []) rfl trivial ?_
                     refine aw_icmp_eq (tgt := 89) eX12_set_80 (by decide) (by omega) (by omega) (fun h602 => ?_) (fun h602 => ?_)
                     · first
                       | (exfalso; omega; done)
                       | (refine aw_blk oX12_set_89 (pc' := 94) (ls' := [_, _, _, _, _]) (st' := [_, _]) (cs := []) rfl trivial ?_
                          refine aw_blk oX12_set_94 (pc' := 95) (ls' := [_, _, _, _, _]) (st' := [_, _, _]) (cs := []) rfl trivial ?_
                          refine aw_ciS (rest := []) (c_X12_in (by omega) (by omega) (by omega)) kX12_in eX12_set_95 lX12_set_95 rfl rfl (Nat.le_of_ble_eq_true rfl) ⟨Nat.le_of_ble_eq_true rfl, Nat.le_of_ble_eq_true rfl⟩ ⟨Nat.le_refl _, Nat.le_refl _⟩ ?_
                          refine aw_if_ne (tgt := 104) eX12_set_98 (by decide) bt_r (fun hh => have h603 := bt1 hh; ?_) (fun hh => have h603 := bt0 hh; ?_)
                          · first
                            | (exfalso; omega; done)
                            | (refine aw_blk oX12_set_104 (pc' := 121) (ls' := [_, _, _, _, _]) (st' := [_]) (cs := [(_, _), (_, _)]) rfl (⟨⟨by omega, by omega⟩, ⟨by omega, by omega⟩, trivial⟩) ?_
                               refine aw_iret eX12_set_121 rfl (Nat.le_refl _) (Nat.le_refl _) ?_
                               exact pe_i s.1 rfl rfl)
                          · first
                            | (exfalso; omega; done)
                            | (refine aw_blk oX12_set_101 (pc' := 103) (ls' := [_, _, _, _, _]) (st' := [_]) (cs := []) rfl trivial ?_
                               refine aw_iret eX12_set_103 rfl (Nat.le_refl _) (Nat.le_refl _) ?_
                               exact pe_i s.1 rfl rfl))
                     · first
                       | (exfalso; omega; done)
                       | (refine aw_blk oX12_set_83 (pc' := 86) (ls' := [_, _, _, _, _]) (st' := [_, _, _]) (cs := []) rfl trivial ?_
                          refine aw_icmp_ne (tgt := 93) eX12_set_86 (by decide) (by omega) (by omega) (fun h604 => ?_) (fun h604 => ?_)
                          · first
                            | (exfalso; omega; done)
                            | (refine aw_blk oX12_set_93 (pc' := 94) (ls' := [_, _, _, _, _]) (st' := [_, _]) (cs := []) rfl trivial ?_
                               refine aw_blk oX12_set_94 (pc' := 95) (ls' := [_, _, _, _, _]) (st' := [_, _, _]) (cs := []) rfl trivial ?_
                               refine aw_ciS (rest := []) (c_X12_in (by omega) (by omega) (by omega)) kX12_in eX12_set_95 lX12_set_95 rfl rfl (Nat.le_of_ble_eq_true rfl) ⟨Nat.le_of_ble_eq_true rfl, Nat.le_of_ble_eq_true rfl⟩ ⟨Nat.le_refl _, Nat.le_refl _⟩ ?_
                               refine aw_if_ne (tgt := 104) eX12_set_98 (by decide) bt_r (fun hh => have h605 := bt1 hh; ?_) (fun hh => have h605 := bt0 hh; ?_)
                               · first
                                 | (exfalso; omega; done)
                                 | (refine aw_blk oX12_set_104 (pc' := 121) (ls' := [_, _, _, _, _]) (st' := [_]) (cs := [(_, _), (_, _)]) rfl (⟨⟨by omega, by omega⟩, ⟨by omega, by omega⟩, trivial⟩) ?_
                                    refine aw_iret eX12_set_121 rfl (Nat.le_refl _) (Nat.le_refl _) ?_
                                    exact pe_i s.1 rfl rfl)
                               · first
                                 | (exfalso; omega; done)
                                 | (refine aw_blk oX12_set_101 (pc' := 103) (ls' := [_, _, _, _, _]) (st' := [_]) (cs := []) rfl trivial ?_
                                    refine aw_iret eX12_set_103 rfl (Nat.le_refl _) (Nat.le_refl _) ?_
                                    exact pe_i s.1 rfl rfl))
                          · first
                            | (exfalso; omega; done)
                            | (refine aw_blk oX12_set_89 (pc' := 94) (ls' := [_, _, _, _, _]) (st' := [_, _]) (cs := []) rfl trivial ?_
                               refine aw_blk oX12_set_94 (pc' := 95) (ls' := [_, _, _, _, _]) (st' := [_, _, _]) (cs := []) rfl trivial ?_
                               refine aw_ciS (rest := []) (c_X12_in (by omega) (by omega) (by omega)) kX12_in eX12_set_95 lX12_set_95 rfl rfl (Nat.le_of_ble_eq_true rfl) ⟨Nat.le_of_ble_eq_true rfl, Nat.le_of_ble_eq_true rfl⟩ ⟨Nat.le_refl _, Nat.le_refl _⟩ ?_
                               refine aw_if_ne (tgt := 104) eX12_set_98 (by decide) bt_r (fun hh => have h606 := bt1 hh; ?_) (fun hh => have h606 := bt0 hh; ?_)
                               · first
                                 | (exfalso; omega; done)
                                 | (refine aw_blk oX12_set_104 (pc' := 121) (ls' := [_, _, _, _, _]) (st' := [_]) (cs := [(_, _), (_, _)]) rfl (⟨⟨by omega, by omega⟩, ⟨by omega, by omega⟩, trivial⟩) ?_
                                    refine aw_iret eX12_set_121 rfl (Nat.le_refl _) (Nat.le_refl _) ?_
                                    exact pe_i s.1 rfl rfl)
                               · first
                                 | (exfalso; omega; done)
                                 | (refine aw_blk oX12_set_101 (pc' := 103) (ls' := [_, _, _, _, _]) (st' := [_]) (cs := []) rfl trivial ?_
                                    refine aw_iret eX12_set_103 rfl (Nat.le_refl _) (Nat.le_refl _) ?_
                                    exact pe_i s.1 rfl rfl)))))
           · first
             | (exfalso; omega; done)
             | (refine aw_blk oX12_set_17 (pc' := 76) (ls' := [_, _, _, _, _]) (st' := [_]) (cs := []) rfl trivial ?_
                refine aw_blk oX12_set_76 (pc' := 80) (ls' := [_, _, _, _, _]) (st' := [_, _, _]) (cs := []) rfl trivial ?_
                refine aw_icmp_eq (tgt := 89) eX12_set_80 (by decide) (by omega) (by omega) (fun h607 => ?_) (fun h607 => ?_)
                · first
                  | (exfalso; omega; done)
                  | (refine aw_blk oX12_set_89 (pc' := 94) (ls' := [_, _, _, _, _]) (st' := [_, _]) (cs := []) rfl trivial ?_
                     refine aw_blk oX12_set_94 (pc' := 95) (ls' := [_, _, _, _, _]) (st' := [_, _, _]) (cs := []) rfl trivial ?_
                     refine aw_ciS (rest := []) (c_X12_in (by omega) (by omega) (by omega)) kX12_in eX12_set_95 lX12_set_95 rfl rfl (Nat.le_of_ble_eq_true rfl) ⟨Nat.le_of_ble_eq_true rfl, Nat.le_of_ble_eq_true rfl⟩ ⟨Nat.le_refl _, Nat.le_refl _⟩ ?_
                     refine aw_if_ne (tgt := 104) eX12_set_98 (by decide) bt_r (fun hh => have h608 := bt1 hh; ?_) (fun hh => have h608 := bt0 hh; ?_)
                     · first
                       | (exfalso; omega; done)
                       | (refine aw_blk oX12_set_104 (pc' := 121) (ls' := [_, _, _, _, _]) (st' := [_]) (cs := [(_, _), (_, _)]) rfl (⟨⟨by omega, by omega⟩, ⟨by omega, by omega⟩, trivial⟩) ?_
                          refine aw_iret eX12_set_121 rfl (Nat.le_refl _) (Nat.le_refl _) ?_
                          exact pe_i s.1 rfl rfl)
                     · first
                       | (exfalso; omega; done)
                       | (refine aw_blk oX12_set_101 (pc' := 103) (ls' := [_, _, _, _, _]) (st' := [_]) (cs := []) rfl trivial ?_
                          refine aw_iret eX12_set_103 rfl (Nat.le_refl _) (Nat.le_refl _) ?_
                          exact pe_i s.1 rfl rfl))
                · first
                  | (exfalso; omega; done)
                  | (refine aw_blk oX12_set_83 (pc' := 86) (ls' := [_, _, _, _, _]) (st' := [_, _, _]) (cs := []) rfl trivial ?_
                     refine aw_icmp_ne (tgt := 93) eX12_set_86 (by decide) (by omega) (by omega) (fun h609 => ?_) (fun h609 => ?_)
                     · first
                       | (exfalso; omega; done)
                       | (refine aw_blk oX12_set_93 (pc' := 94) (ls' := [_, _, _, _, _]) (st' := [_, _]) (cs := []) rfl trivial ?_
                          refine aw_blk oX12_set_94 (pc' := 95) (ls' := [_, _, _, _, _]) (st' := [_, _, _]) (cs := []) rfl trivial ?_
                          refine aw_ciS (rest := []) (c_X12_in (by omega) (by omega) (by omega)) kX12_in eX12_set_95 lX12_set_95 rfl rfl (Nat.le_of_ble_eq_true rfl) ⟨Nat.le_of_ble_eq_true rfl, Nat.le_of_ble_eq_true rfl⟩ ⟨Nat.le_refl _, Nat.le_refl _⟩ ?_
                          refine aw_if_ne (tgt := 104) eX12_set_98 (by decide) bt_r (fun hh => have h610 := bt1 hh; ?_) (fun hh => have h610 := bt0 hh; ?_)
                          · first
                            | (exfalso; omega; done)
                            | (refine aw_blk oX12_set_104 (pc' := 121) (ls' := [_, _, _, _, _]) (st' := [_]) (cs := [(_, _), (_, _)]) rfl (⟨⟨by omega, by omega⟩, ⟨by omega, by omega⟩, trivial⟩) ?_
                               refine aw_iret eX12_set_121 rfl (Nat.le_refl _) (Nat.le_refl _) ?_
                               exact pe_i s.1 rfl rfl)
                          · first
                            | (exfalso; omega; done)
                            | (refine aw_blk oX12_set_101 (pc' := 103) (ls' := [_, _, _, _, _]) (st' := [_]) (cs := []) rfl trivial ?_
                               refine aw_iret eX12_set_103 rfl (Nat.le_refl _) (Nat.le_refl _) ?_
                               exact pe_i s.1 rfl rfl))
                     · first
                       | (exfalso; omega; done)
                       | (refine aw_blk oX12_set_89 (pc' := 94) (ls' := [_, _, _, _, _]) (st' := [_, _]) (cs := []) rfl trivial ?_
                          refine aw_blk oX12_set_94 (pc' := 95) (ls' := [_, _, _, _, _]) (st' := [_, _, _]) (cs := []) rfl trivial ?_
                          refine aw_ciS (rest := []) (c_X12_in (by omega) (by omega) (by omega)) kX12_in eX12_set_95 lX12_set_95 rfl rfl (Nat.le_of_ble_eq_true rfl) ⟨Nat.le_of_ble_eq_true rfl, Nat.le_of_ble_eq_true rfl⟩ ⟨Nat.le_refl _, Nat.le_refl _⟩ ?_
                          refine aw_if_ne (tgt := 104) eX12_set_98 (by decide) bt_r (fun hh => have h611 := bt1 hh; ?_) (fun hh => have h611 := bt0 hh; ?_)
                          · first
                            | (exfalso; omega; done)
                            | (refine aw_blk oX12_set_104 (pc' := 121) (ls' := [_, _, _, _, _]) (st' := [_]) (cs := [(_, _), (_, _)]) rfl (⟨⟨by omega, by omega⟩, ⟨by omega, by omega⟩, trivial⟩) ?_
                               refine aw_iret eX12_set_121 rfl (Nat.le_refl _) (Nat.le_refl _) ?_
                               exact pe_i s.1 rfl rfl)
                          · first
                            | (exfalso; omega; done)
                            | (refine aw_blk oX12_set_101 (pc' := 103) (ls' := [_, _, _, _, _]) (st' := [_]) (cs := []) rfl trivial ?_
                               refine aw_iret eX12_set_103 rfl (Nat.le_refl _) (Nat.le_refl _) ?_
                               exact pe_i s.1 rfl rfl)))))
      · first
        | (exfalso; omega; done)
        | (refine aw_blk oX12_set_10 (pc' := 12) (ls' := [_, _, _, _, _]) (st' := [_]) (cs := []) rfl trivial ?_
           refine aw_iret eX12_set_12 rfl (Nat.le_refl _) (Nat.le_refl _) ?_
           exact pe_i s.1 rfl rfl)
    · exact h.up (k := 6) (v := v) (by omega) (by omega) rfl rfl
    · exact ((SR.rf.put (by decide)).put (by decide))
    · intro j hj
      rfl
    · exact Or.inl ⟨rfl, rfl⟩
    · exact Or.inl ⟨rfl, rfl⟩
  · refine ⟨-2, μ, ν, μ, ?_, ?_, by decide, rfl, Or.inl rfl⟩
    · refine AMet.of kX11_set.1 (Nat.le_of_ble_eq_true rfl) rfl ?_
      refine aw_blk oX11_set_0 (pc' := 4) (ls' := [_, _, _, _]) (st' := [_, _, _]) (cs := []) rfl trivial ?_
      refine aw_ciS (rest := []) (c_X11_between (by omega) (by omega) (by omega)) kX11_between eX11_set_4 lX11_set_4 rfl rfl (Nat.le_of_ble_eq_true rfl) ⟨Nat.le_of_ble_eq_true rfl, Nat.le_of_ble_eq_true rfl⟩ ⟨Nat.le_refl _, Nat.le_refl _⟩ ?_
      refine aw_if_eq (tgt := 27) eX11_set_7 (by decide) bt_r (fun hh => have h612 := bt0 hh; ?_) (fun hh => have h612 := bt1 hh; ?_)
      · first
        | (exfalso; omega; done)
        | (refine aw_blk oX11_set_27 (pc' := 29) (ls' := [_, _, _, _]) (st' := [_]) (cs := []) rfl trivial ?_
           refine aw_iret eX11_set_29 rfl (Nat.le_refl _) (Nat.le_refl _) ?_
           exact pe_i rfl rfl rfl)
      · first
        | (exfalso; omega; done)
        | (refine aw_blk oX11_set_10 (pc' := 21) (ls' := [_, _, _, _]) (st' := [_, _, _]) (cs := [(_, _), (_, _)]) rfl (⟨⟨by omega, by omega⟩, ⟨by omega, by omega⟩, trivial⟩) ?_
           refine aw_ciS (rest := []) (c_X11_between (by omega) (by omega) (by omega)) kX11_between eX11_set_21 lX11_set_21 rfl rfl (Nat.le_of_ble_eq_true rfl) ⟨Nat.le_of_ble_eq_true rfl, Nat.le_of_ble_eq_true rfl⟩ ⟨Nat.le_refl _, Nat.le_refl _⟩ ?_
           refine aw_if_ne (tgt := 30) eX11_set_24 (by decide) bt_r (fun hh => have h613 := bt1 hh; ?_) (fun hh => have h613 := bt0 hh; ?_)
           · first
             | (exfalso; omega; done)
             | (refine aw_blk oX11_set_30 (pc' := 45) (ls' := [_, _, _, _]) (st' := [_]) (cs := [(_, _), (_, _)]) rfl (⟨⟨by omega, by omega⟩, ⟨by omega, by omega⟩, trivial⟩) ?_
                refine aw_if_ne (tgt := 56) eX11_set_45 (by decide) (by omega) (fun h614 => ?_) (fun h614 => ?_)
                · first
                  | (exfalso; omega; done)
                  | (refine aw_blk oX11_set_56 (pc' := 58) (ls' := [_, _, _, _]) (st' := [_, _]) (cs := []) rfl trivial ?_
                     refine aw_icmp_ne (tgt := 65) eX11_set_58 (by decide) (by omega) (by omega) (fun h615 => ?_) (fun h615 => ?_)
                     · first
                       | (exfalso; omega; done)
                       | (refine aw_blk oX11_set_65 (pc' := 66) (ls' := [_, _, _, _]) (st' := [_]) (cs := []) rfl trivial ?_
                          refine aw_iret eX11_set_66 rfl (Nat.le_refl _) (Nat.le_refl _) ?_
                          exact pe_i rfl rfl rfl)
                     · first
                       | (exfalso; omega; done)
                       | (refine aw_blk oX11_set_61 (pc' := 62) (ls' := [_, _, _, _]) (st' := [_]) (cs := []) rfl trivial ?_
                          refine aw_cvV (rest := []) (c_forget) kX11_forgetShows eX11_set_62 lX11_set_62 rfl rfl rfl rfl (Nat.le_of_ble_eq_true rfl) ⟨Nat.le_of_ble_eq_true rfl, Nat.le_of_ble_eq_true rfl⟩ ⟨Nat.le_refl _, Nat.le_refl _⟩ ?_
                          refine aw_blk oX11_set_65 (pc' := 66) (ls' := [_, _, _, _]) (st' := [_]) (cs := []) rfl trivial ?_
                          refine aw_iret eX11_set_66 rfl (Nat.le_refl _) (Nat.le_refl _) ?_
                          exact pe_i rfl rfl rfl))
                · first
                  | (exfalso; omega; done)
                  | (refine aw_blk oX11_set_48 (pc' := 53) (ls' := [_, _, _, _]) (st' := [_, _]) (cs := []) rfl trivial ?_
                     refine aw_cvV (rest := []) (c_forgetCuts (by omega) (by omega)) kX3_forgetCutsFrom eX11_set_53 lX11_set_53 rfl rfl rfl rfl (Nat.le_of_ble_eq_true rfl) ⟨Nat.le_of_ble_eq_true rfl, Nat.le_of_ble_eq_true rfl⟩ ⟨Nat.le_refl _, Nat.le_refl _⟩ ?_
                     refine aw_blk oX11_set_56 (pc' := 58) (ls' := [_, _, _, _]) (st' := [_, _]) (cs := []) rfl trivial ?_
                     refine aw_icmp_ne (tgt := 65) eX11_set_58 (by decide) (by omega) (by omega) (fun h616 => ?_) (fun h616 => ?_)
                     · first
                       | (exfalso; omega; done)
                       | (refine aw_blk oX11_set_65 (pc' := 66) (ls' := [_, _, _, _]) (st' := [_]) (cs := []) rfl trivial ?_
                          refine aw_iret eX11_set_66 rfl (Nat.le_refl _) (Nat.le_refl _) ?_
                          exact pe_i rfl rfl rfl)
                     · first
                       | (exfalso; omega; done)
                       | (refine aw_blk oX11_set_61 (pc' := 62) (ls' := [_, _, _, _]) (st' := [_]) (cs := []) rfl trivial ?_
                          refine aw_cvV (rest := []) (c_forget) kX11_forgetShows eX11_set_62 lX11_set_62 rfl rfl rfl rfl (Nat.le_of_ble_eq_true rfl) ⟨Nat.le_of_ble_eq_true rfl, Nat.le_of_ble_eq_true rfl⟩ ⟨Nat.le_refl _, Nat.le_refl _⟩ ?_
                          refine aw_blk oX11_set_65 (pc' := 66) (ls' := [_, _, _, _]) (st' := [_]) (cs := []) rfl trivial ?_
                          refine aw_iret eX11_set_66 rfl (Nat.le_refl _) (Nat.le_refl _) ?_
                          exact pe_i rfl rfl rfl)))
           · first
             | (exfalso; omega; done)
             | (refine aw_blk oX11_set_27 (pc' := 29) (ls' := [_, _, _, _]) (st' := [_]) (cs := []) rfl trivial ?_
                refine aw_iret eX11_set_29 rfl (Nat.le_refl _) (Nat.le_refl _) ?_
                exact pe_i rfl rfl rfl))
    · refine AMet.of kX12_set.1 (Nat.le_of_ble_eq_true rfl) rfl ?_
      refine aw_blk oX12_set_0 (pc' := 4) (ls' := [_, _, _, _, _]) (st' := [_, _, _]) (cs := []) rfl trivial ?_
      refine aw_ciS (rest := []) (c_X12_in (by omega) (by omega) (by omega)) kX12_in eX12_set_4 lX12_set_4 rfl rfl (Nat.le_of_ble_eq_true rfl) ⟨Nat.le_of_ble_eq_true rfl, Nat.le_of_ble_eq_true rfl⟩ ⟨Nat.le_refl _, Nat.le_refl _⟩ ?_
      refine aw_if_ne (tgt := 13) eX12_set_7 (by decide) bt_r (fun hh => have h617 := bt1 hh; ?_) (fun hh => have h617 := bt0 hh; ?_)
      · first
        | (exfalso; omega; done)
        | (refine aw_blk oX12_set_13 (pc' := 14) (ls' := [_, _, _, _, _]) (st' := [_]) (cs := []) rfl trivial ?_
           refine aw_if_ne (tgt := 22) eX12_set_14 (by decide) (by omega) (fun h618 => ?_) (fun h618 => ?_)
           · first
             | (exfalso; omega; done)
             | (refine aw_blk oX12_set_22 (pc' := 24) (ls' := [_, _, _, _, _]) (st' := [_, _]) (cs := []) rfl trivial ?_
                refine aw_icmp_ne (tgt := 33) eX12_set_24 (by decide) (by omega) (by omega) (fun h619 => ?_) (fun h619 => ?_)
                · first
                  | (exfalso; omega; done)
                  | (refine aw_blk oX12_set_33 (pc' := 35) (ls' := [_, _, _, _, _]) (st' := [_, _]) (cs := []) rfl trivial ?_
                     refine aw_icmp_ne (tgt := 43) eX12_set_35 (by decide) (by omega) (by omega) (fun h620 => ?_) (fun h620 => ?_)
                     · first
                       | (exfalso; omega; done)
                       | (refine aw_blk oX12_set_43 (pc' := 45) (ls' := [_, _, _, _, _]) (st' := [_, _]) (cs := []) rfl trivial ?_
                          refine aw_icmp_ne (tgt := 53) eX12_set_45 (by decide) (by omega) (by omega) (fun h621 => ?_) (fun h621 => ?_)
                          · first
                            | (exfalso; omega; done)
                            | (refine aw_blk oX12_set_53 (pc' := 55) (ls' := [_, _, _, _, _]) (st' := [_, _]) (cs := []) rfl trivial ?_
                               refine aw_icmp_ne (tgt := 63) eX12_set_55 (by decide) (by omega) (by omega) (fun h622 => ?_) (fun h622 => ?_)
                               · first
                                 | (exfalso; omega; done)
                                 | (refine aw_blk oX12_set_63 (pc' := 65) (ls' := [_, _, _, _, _]) (st' := [_, _]) (cs := []) rfl trivial ?_
                                    refine aw_icmp_ne (tgt := 74) eX12_set_65 (by decide) (by omega) (by omega) (fun h623 => ?_) (fun h623 => ?_)
                                    · first
                                      | (exfalso; omega; done)
                                      | (refine aw_blk oX12_set_74 (pc' := 76) (ls' := [_, _, _, _, _]) (st' := [_]) (cs := []) rfl trivial ?_
                                         refine aw_blk oX12_set_76 (pc' := 80) (ls' := [_, _, _, _, _]) (st' := [_, _, _]) (cs := []) rfl trivial ?_
                                         refine aw_icmp_eq (tgt := 89) eX12_set_80 (by decide) (by omega) (by omega) (fun h624 => ?_) (fun h624 => ?_)
                                         · first
                                           | (exfalso; omega; done)
                                           | (refine aw_blk oX12_set_89 (pc' := 94) (ls' := [_, _, _, _, _]) (st' := [_, _]) (cs := []) rfl trivial ?_
                                              refine aw_blk oX12_set_94 (pc' := 95) (ls' := [_, _, _, _, _]) (st' := [_, _, _]) (cs := []) rfl trivial ?_
                                              refine aw_ciS (rest := []) (c_X12_in (by omega) (by omega) (by omega)) kX12_in eX12_set_95 lX12_set_95 rfl rfl (Nat.le_of_ble_eq_true rfl) ⟨Nat.le_of_ble_eq_true rfl, Nat.le_of_ble_eq_true rfl⟩ ⟨Nat.le_refl _, Nat.le_refl _⟩ ?_
                                              refine aw_if_ne (tgt := 104) eX12_set_98 (by decide) bt_r (fun hh => have h625 := bt1 hh; ?_) (fun hh => have h625 := bt0 hh; ?_)
                                              · first
                                                | (exfalso; omega; done)
                                                | (refine aw_blk oX12_set_104 (pc' := 121) (ls' := [_, _, _, _, _]) (st' := [_]) (cs := [(_, _), (_, _)]) rfl (⟨⟨by omega, by omega⟩, ⟨by omega, by omega⟩, trivial⟩) ?_
                                                   refine aw_iret eX12_set_121 rfl (Nat.le_refl _) (Nat.le_refl _) ?_
                                                   exact pe_i rfl rfl rfl)
                                              · first
                                                | (exfalso; omega; done)
                                                | (refine aw_blk oX12_set_101 (pc' := 103) (ls' := [_, _, _, _, _]) (st' := [_]) (cs := []) rfl trivial ?_
                                                   refine aw_iret eX12_set_103 rfl (Nat.le_refl _) (Nat.le_refl _) ?_
                                                   exact pe_i rfl rfl rfl))
                                         · first
                                           | (exfalso; omega; done)
                                           | (refine aw_blk oX12_set_83 (pc' := 86) (ls' := [_, _, _, _, _]) (st' := [_, _, _]) (cs := []) rfl trivial ?_
                                              refine aw_icmp_ne (tgt := 93) eX12_set_86 (by decide) (by omega) (by omega) (fun h626 => ?_) (fun h626 => ?_)
                                              · first
                                                | (exfalso; omega; done)
                                                | (refine aw_blk oX12_set_93 (pc' := 94) (ls' := [_, _, _, _, _]) (st' := [_, _]) (cs := []) rfl trivial ?_
                                                   refine aw_blk oX12_set_94 (pc' := 95) (ls' := [_, _, _, _, _]) (st' := [_, _, _]) (cs := []) rfl trivial ?_
                                                   refine aw_ciS (rest := []) (c_X12_in (by omega) (by omega) (by omega)) kX12_in eX12_set_95 lX12_set_95 rfl rfl (Nat.le_of_ble_eq_true rfl) ⟨Nat.le_of_ble_eq_true rfl, Nat.le_of_ble_eq_true rfl⟩ ⟨Nat.le_refl _, Nat.le_refl _⟩ ?_
                                                   refine aw_if_ne (tgt := 104) eX12_set_98 (by decide) bt_r (fun hh => have h627 := bt1 hh; ?_) (fun hh => have h627 := bt0 hh; ?_)
                                                   · first
                                                     | (exfalso; omega; done)
                                                     | (refine aw_blk oX12_set_104 (pc' := 121) (ls' := [_, _, _, _, _]) (st' := [_]) (cs := [(_, _), (_, _)]) rfl (⟨⟨by omega, by omega⟩, ⟨by omega, by omega⟩, trivial⟩) ?_
                                                        refine aw_iret eX12_set_121 rfl (Nat.le_refl _) (Nat.le_refl _) ?_
                                                        exact pe_i rfl rfl rfl)
                                                   · first
                                                     | (exfalso; omega; done)
                                                     | (refine aw_blk oX12_set_101 (pc' := 103) (ls' := [_, _, _, _, _]) (st' := [_]) (cs := []) rfl trivial ?_
                                                        refine aw_iret eX12_set_103 rfl (Nat.le_refl _) (Nat.le_refl _) ?_
                                                        exact pe_i rfl rfl rfl))
                                              · first
                                                | (exfalso; omega; done)
                                                | (refine aw_blk oX12_set_89 (pc' := 94) (ls' := [_, _, _, _, _]) (st' := [_, _]) (cs := []) rfl trivial ?_
                                                   refine aw_blk oX12_set_94 (pc' := 95) (ls' := [_, _, _, _, _]) (st' := [_, _, _]) (cs := []) rfl trivial ?_
                                                   refine aw_ciS (rest := []) (c_X12_in (by omega) (by omega) (by omega)) kX12_in eX12_set_95 lX12_set_95 rfl rfl (Nat.le_of_ble_eq_true rfl) ⟨Nat.le_of_ble_eq_true rfl, Nat.le_of_ble_eq_true rfl⟩ ⟨Nat.le_refl _, Nat.le_refl _⟩ ?_
                                                   refine aw_if_ne (tgt := 104) eX12_set_98 (by decide) bt_r (fun hh => have h628 := bt1 hh; ?_) (fun hh => have h628 := bt0 hh; ?_)
                                                   · first
                                                     | (exfalso; omega; done)
                                                     | (refine aw_blk oX12_set_104 (pc' := 121) (ls' := [_, _, _, _, _]) (st' := [_]) (cs := [(_, _), (_, _)]) rfl (⟨⟨by omega, by omega⟩, ⟨by omega, by omega⟩, trivial⟩) ?_
                                                        refine aw_iret eX12_set_121 rfl (Nat.le_refl _) (Nat.le_refl _) ?_
                                                        exact pe_i rfl rfl rfl)
                                                   · first
                                                     | (exfalso; omega; done)
                                                     | (refine aw_blk oX12_set_101 (pc' := 103) (ls' := [_, _, _, _, _]) (st' := [_]) (cs := []) rfl trivial ?_
                                                        refine aw_iret eX12_set_103 rfl (Nat.le_refl _) (Nat.le_refl _) ?_
                                                        exact pe_i rfl rfl rfl))))
                                    · first
                                      | (exfalso; omega; done)
                                      | (refine aw_blk oX12_set_68 (pc' := 76) (ls' := [_, _, _, _, _]) (st' := [_]) (cs := []) rfl trivial ?_
                                         refine aw_blk oX12_set_76 (pc' := 80) (ls' := [_, _, _, _, _]) (st' := [_, _, _]) (cs := []) rfl trivial ?_
                                         refine aw_icmp_eq (tgt := 89) eX12_set_80 (by decide) (by omega) (by omega) (fun h629 => ?_) (fun h629 => ?_)
                                         · first
                                           | (exfalso; omega; done)
                                           | (refine aw_blk oX12_set_89 (pc' := 94) (ls' := [_, _, _, _, _]) (st' := [_, _]) (cs := []) rfl trivial ?_
                                              refine aw_blk oX12_set_94 (pc' := 95) (ls' := [_, _, _, _, _]) (st' := [_, _, _]) (cs := []) rfl trivial ?_
                                              refine aw_ciS (rest := []) (c_X12_in (by omega) (by omega) (by omega)) kX12_in eX12_set_95 lX12_set_95 rfl rfl (Nat.le_of_ble_eq_true rfl) ⟨Nat.le_of_ble_eq_true rfl, Nat.le_of_ble_eq_true rfl⟩ ⟨Nat.le_refl _, Nat.le_refl _⟩ ?_
                                              refine aw_if_ne (tgt := 104) eX12_set_98 (by decide) bt_r (fun hh => have h630 := bt1 hh; ?_) (fun hh => have h630 := bt0 hh; ?_)
                                              · first
                                                | (exfalso; omega; done)
                                                | (refine aw_blk oX12_set_104 (pc' := 121) (ls' := [_, _, _, _, _]) (st' := [_]) (cs := [(_, _), (_, _)]) rfl (⟨⟨by omega, by omega⟩, ⟨by omega, by omega⟩, trivial⟩) ?_
                                                   refine aw_iret eX12_set_121 rfl (Nat.le_refl _) (Nat.le_refl _) ?_
                                                   exact pe_i rfl rfl rfl)
                                              · first
                                                | (exfalso; omega; done)
                                                | (refine aw_blk oX12_set_101 (pc' := 103) (ls' := [_, _, _, _, _]) (st' := [_]) (cs := []) rfl trivial ?_
                                                   refine aw_iret eX12_set_103 rfl (Nat.le_refl _) (Nat.le_refl _) ?_
                                                   exact pe_i rfl rfl rfl))
                                         · first
                                           | (exfalso; omega; done)
                                           | (refine aw_blk oX12_set_83 (pc' := 86) (ls' := [_, _, _, _, _]) (st' := [_, _, _]) (cs := []) rfl trivial ?_
                                              refine aw_icmp_ne (tgt := 93) eX12_set_86 (by decide) (by omega) (by omega) (fun h631 => ?_) (fun h631 => ?_)
                                              · first
                                                | (exfalso; omega; done)
                                                | (refine aw_blk oX12_set_93 (pc' := 94) (ls' := [_, _, _, _, _]) (st' := [_, _]) (cs := []) rfl trivial ?_
                                                   refine aw_blk oX12_set_94 (pc' := 95) (ls' := [_, _, _, _, _]) (st' := [_, _, _]) (cs := []) rfl trivial ?_
                                                   refine aw_ciS (rest := []) (c_X12_in (by omega) (by omega) (by omega)) kX12_in eX12_set_95 lX12_set_95 rfl rfl (Nat.le_of_ble_eq_true rfl) ⟨Nat.le_of_ble_eq_true rfl, Nat.le_of_ble_eq_true rfl⟩ ⟨Nat.le_refl _, Nat.le_refl _⟩ ?_
                                                   refine aw_if_ne (tgt := 104) eX12_set_98 (by decide) bt_r (fun hh => have h632 := bt1 hh; ?_) (fun hh => have h632 := bt0 hh; ?_)
                                                   · first
                                                     | (exfalso; omega; done)
                                                     | (refine aw_blk oX12_set_104 (pc' := 121) (ls' := [_, _, _, _, _]) (st' := [_]) (cs := [(_, _), (_, _)]) rfl (⟨⟨by omega, by omega⟩, ⟨by omega, by omega⟩, trivial⟩) ?_
                                                        refine aw_iret eX12_set_121 rfl (Nat.le_refl _) (Nat.le_refl _) ?_
                                                        exact pe_i rfl rfl rfl)
                                                   · first
                                                     | (exfalso; omega; done)
                                                     | (refine aw_blk oX12_set_101 (pc' := 103) (ls' := [_, _, _, _, _]) (st' := [_]) (cs := []) rfl trivial ?_
                                                        refine aw_iret eX12_set_103 rfl (Nat.le_refl _) (Nat.le_refl _) ?_
                                                        exact pe_i rfl rfl rfl))
                                              · first
                                                | (exfalso; omega; done)
                                                | (refine aw_blk oX12_set_89 (pc' := 94) (ls' := [_, _, _, _, _]) (st' := [_, _]) (cs := []) rfl trivial ?_
                                                   refine aw_blk oX12_set_94 (pc' := 95) (ls' := [_, _, _, _, _]) (st' := [_, _, _]) (cs := []) rfl trivial ?_
                                                   refine aw_ciS (rest := []) (c_X12_in (by omega) (by omega) (by omega)) kX12_in eX12_set_95 lX12_set_95 rfl rfl (Nat.le_of_ble_eq_true rfl) ⟨Nat.le_of_ble_eq_true rfl, Nat.le_of_ble_eq_true rfl⟩ ⟨Nat.le_refl _, Nat.le_refl _⟩ ?_
                                                   refine aw_if_ne (tgt := 104) eX12_set_98 (by decide) bt_r (fun hh => have h633 := bt1 hh; ?_) (fun hh => have h633 := bt0 hh; ?_)
                                                   · first
                                                     | (exfalso; omega; done)
                                                     | (refine aw_blk oX12_set_104 (pc' := 121) (ls' := [_, _, _, _, _]) (st' := [_]) (cs := [(_, _), (_, _)]) rfl (⟨⟨by omega, by omega⟩, ⟨by omega, by omega⟩, trivial⟩) ?_
                                                        refine aw_iret eX12_set_121 rfl (Nat.le_refl _) (Nat.le_refl _) ?_
                                                        exact pe_i rfl rfl rfl)
                                                   · first
                                                     | (exfalso; omega; done)
                                                     | (refine aw_blk oX12_set_101 (pc' := 103) (ls' := [_, _, _, _, _]) (st' := [_]) (cs := []) rfl trivial ?_
                                                        refine aw_iret eX12_set_103 rfl (Nat.le_refl _) (Nat.le_refl _) ?_
                                                        exact pe_i rfl rfl rfl)))))
                               · first
                                 | (exfalso; omega; done)
                                 | (refine aw_blk oX12_set_58 (pc' := 76) (ls' := [_, _, _, _, _]) (st' := [_]) (cs := []) rfl trivial ?_
                                    refine aw_blk oX12_set_76 (pc' := 80) (ls' := [_, _, _, _, _]) (st' := [_, _, _]) (cs := []) rfl trivial ?_
                                    refine aw_icmp_eq (tgt := 89) eX12_set_80 (by decide) (by omega) (by omega) (fun h634 => ?_) (fun h634 => ?_)
                                    · first
                                      | (exfalso; omega; done)
                                      | (refine aw_blk oX12_set_89 (pc' := 94) (ls' := [_, _, _, _, _]) (st' := [_, _]) (cs := []) rfl trivial ?_
                                         refine aw_blk oX12_set_94 (pc' := 95) (ls' := [_, _, _, _, _]) (st' := [_, _, _]) (cs := []) rfl trivial ?_
                                         refine aw_ciS (rest := []) (c_X12_in (by omega) (by omega) (by omega)) kX12_in eX12_set_95 lX12_set_95 rfl rfl (Nat.le_of_ble_eq_true rfl) ⟨Nat.le_of_ble_eq_true rfl, Nat.le_of_ble_eq_true rfl⟩ ⟨Nat.le_refl _, Nat.le_refl _⟩ ?_
                                         refine aw_if_ne (tgt := 104) eX12_set_98 (by decide) bt_r (fun hh => have h635 := bt1 hh; ?_) (fun hh => have h635 := bt0 hh; ?_)
                                         · first
                                           | (exfalso; omega; done)
                                           | (refine aw_blk oX12_set_104 (pc' := 121) (ls' := [_, _, _, _, _]) (st' := [_]) (cs := [(_, _), (_, _)]) rfl (⟨⟨by omega, by omega⟩, ⟨by omega, by omega⟩, trivial⟩) ?_
                                              refine aw_iret eX12_set_121 rfl (Nat.le_refl _) (Nat.le_refl _) ?_
                                              exact pe_i rfl rfl rfl)
                                         · first
                                           | (exfalso; omega; done)
                                           | (refine aw_blk oX12_set_101 (pc' := 103) (ls' := [_, _, _, _, _]) (st' := [_]) (cs := []) rfl trivial ?_
                                              refine aw_iret eX12_set_103 rfl (Nat.le_refl _) (Nat.le_refl _) ?_
                                              exact pe_i rfl rfl rfl))
                                    · first
                                      | (exfalso; omega; done)
                                      | (refine aw_blk oX12_set_83 (pc' := 86) (ls' := [_, _, _, _, _]) (st' := [_, _, _]) (cs := []) rfl trivial ?_
                                         refine aw_icmp_ne (tgt := 93) eX12_set_86 (by decide) (by omega) (by omega) (fun h636 => ?_) (fun h636 => ?_)
                                         · first
                                           | (exfalso; omega; done)
                                           | (refine aw_blk oX12_set_93 (pc' := 94) (ls' := [_, _, _, _, _]) (st' := [_, _]) (cs := []) rfl trivial ?_
                                              refine aw_blk oX12_set_94 (pc' := 95) (ls' := [_, _, _, _, _]) (st' := [_, _, _]) (cs := []) rfl trivial ?_
                                              refine aw_ciS (rest := []) (c_X12_in (by omega) (by omega) (by omega)) kX12_in eX12_set_95 lX12_set_95 rfl rfl (Nat.le_of_ble_eq_true rfl) ⟨Nat.le_of_ble_eq_true rfl, Nat.le_of_ble_eq_true rfl⟩ ⟨Nat.le_refl _, Nat.le_refl _⟩ ?_
                                              refine aw_if_ne (tgt := 104) eX12_set_98 (by decide) bt_r (fun hh => have h637 := bt1 hh; ?_) (fun hh => have h637 := bt0 hh; ?_)
                                              · first
                                                | (exfalso; omega; done)
                                                | (refine aw_blk oX12_set_104 (pc' := 121) (ls' := [_, _, _, _, _]) (st' := [_]) (cs := [(_, _), (_, _)]) rfl (⟨⟨by omega, by omega⟩, ⟨by omega, by omega⟩, trivial⟩) ?_
                                                   refine aw_iret eX12_set_121 rfl (Nat.le_refl _) (Nat.le_refl _) ?_
                                                   exact pe_i rfl rfl rfl)
                                              · first
                                                | (exfalso; omega; done)
                                                | (refine aw_blk oX12_set_101 (pc' := 103) (ls' := [_, _, _, _, _]) (st' := [_]) (cs := []) rfl trivial ?_
                                                   refine aw_iret eX12_set_103 rfl (Nat.le_refl _) (Nat.le_refl _) ?_
                                                   exact pe_i rfl rfl rfl))
                                         · first
                                           | (exfalso; omega; done)
                                           | (refine aw_blk oX12_set_89 (pc' := 94) (ls' := [_, _, _, _, _]) (st' := [_, _]) (cs := []) rfl trivial ?_
                                              refine aw_blk oX12_set_94 (pc' := 95) (ls' := [_, _, _, _, _]) (st' := [_, _, _]) (cs := []) rfl trivial ?_
                                              refine aw_ciS (rest := []) (c_X12_in (by omega) (by omega) (by omega)) kX12_in eX12_set_95 lX12_set_95 rfl rfl (Nat.le_of_ble_eq_true rfl) ⟨Nat.le_of_ble_eq_true rfl, Nat.le_of_ble_eq_true rfl⟩ ⟨Nat.le_refl _, Nat.le_refl _⟩ ?_
                                              refine aw_if_ne (tgt := 104) eX12_set_98 (by decide) bt_r (fun hh => have h638 := bt1 hh; ?_) (fun hh => have h638 := bt0 hh; ?_)
                                              · first
                                                | (exfalso; omega; done)
                                                | (refine aw_blk oX12_set_104 (pc' := 121) (ls' := [_, _, _, _, _]) (st' := [_]) (cs := [(_, _), (_, _)]) rfl (⟨⟨by omega, by omega⟩, ⟨by omega, by omega⟩, trivial⟩) ?_
                                                   refine aw_iret eX12_set_121 rfl (Nat.le_refl _) (Nat.le_refl _) ?_
                                                   exact pe_i rfl rfl rfl)
                                              · first
                                                | (exfalso; omega; done)
                                                | (refine aw_blk oX12_set_101 (pc' := 103) (ls' := [_, _, _, _, _]) (st' := [_]) (cs := []) rfl trivial ?_
                                                   refine aw_iret eX12_set_103 rfl (Nat.le_refl _) (Nat.le_refl _) ?_
                                                   exact pe_i rfl rfl rfl)))))
                          · first
                            | (exfalso; omega; done)
                            | (refine aw_blk oX12_set_48 (pc' := 76) (ls' := [_, _, _, _, _]) (st' := [_]) (cs := []) rfl trivial ?_
                               refine aw_blk oX12_set_76 (pc' := 80) (ls' := [_, _, _, _, _]) (st' := [_, _, _]) (cs := []) rfl trivial ?_
                               refine aw_icmp_eq (tgt := 89) eX12_set_80 (by decide) (by omega) (by omega) (fun h639 => ?_) (fun h639 => ?_)
                               · first
                                 | (exfalso; omega; done)
                                 | (refine aw_blk oX12_set_89 (pc' := 94) (ls' := [_, _, _, _, _]) (st' := [_, _]) (cs := []) rfl trivial ?_
                                    refine aw_blk oX12_set_94 (pc' := 95) (ls' := [_, _, _, _, _]) (st' := [_, _, _]) (cs := []) rfl trivial ?_
                                    refine aw_ciS (rest := []) (c_X12_in (by omega) (by omega) (by omega)) kX12_in eX12_set_95 lX12_set_95 rfl rfl (Nat.le_of_ble_eq_true rfl) ⟨Nat.le_of_ble_eq_true rfl, Nat.le_of_ble_eq_true rfl⟩ ⟨Nat.le_refl _, Nat.le_refl _⟩ ?_
                                    refine aw_if_ne (tgt := 104) eX12_set_98 (by decide) bt_r (fun hh => have h640 := bt1 hh; ?_) (fun hh => have h640 := bt0 hh; ?_)
                                    · first
                                      | (exfalso; omega; done)
                                      | (refine aw_blk oX12_set_104 (pc' := 121) (ls' := [_, _, _, _, _]) (st' := [_]) (cs := [(_, _), (_, _)]) rfl (⟨⟨by omega, by omega⟩, ⟨by omega, by omega⟩, trivial⟩) ?_
                                         refine aw_iret eX12_set_121 rfl (Nat.le_refl _) (Nat.le_refl _) ?_
                                         exact pe_i rfl rfl rfl)
                                    · first
                                      | (exfalso; omega; done)
                                      | (refine aw_blk oX12_set_101 (pc' := 103) (ls' := [_, _, _, _, _]) (st' := [_]) (cs := []) rfl trivial ?_
                                         refine aw_iret eX12_set_103 rfl (Nat.le_refl _) (Nat.le_refl _) ?_
                                         exact pe_i rfl rfl rfl))
                               · first
                                 | (exfalso; omega; done)
                                 | (refine aw_blk oX12_set_83 (pc' := 86) (ls' := [_, _, _, _, _]) (st' := [_, _, _]) (cs := []) rfl trivial ?_
                                    refine aw_icmp_ne (tgt := 93) eX12_set_86 (by decide) (by omega) (by omega) (fun h641 => ?_) (fun h641 => ?_)
                                    · first
                                      | (exfalso; omega; done)
                                      | (refine aw_blk oX12_set_93 (pc' := 94) (ls' := [_, _, _, _, _]) (st' := [_, _]) (cs := []) rfl trivial ?_
                                         refine aw_blk oX12_set_94 (pc' := 95) (ls' := [_, _, _, _, _]) (st' := [_, _, _]) (cs := []) rfl trivial ?_
                                         refine aw_ciS (rest := []) (c_X12_in (by omega) (by omega) (by omega)) kX12_in eX12_set_95 lX12_set_95 rfl rfl (Nat.le_of_ble_eq_true rfl) ⟨Nat.le_of_ble_eq_true rfl, Nat.le_of_ble_eq_true rfl⟩ ⟨Nat.le_refl _, Nat.le_refl _⟩ ?_
                                         refine aw_if_ne (tgt := 104) eX12_set_98 (by decide) bt_r (fun hh => have h642 := bt1 hh; ?_) (fun hh => have h642 := bt0 hh; ?_)
                                         · first
                                           | (exfalso; omega; done)
                                           | (refine aw_blk oX12_set_104 (pc' := 121) (ls' := [_, _, _, _, _]) (st' := [_]) (cs := [(_, _), (_, _)]) rfl (⟨⟨by omega, by omega⟩, ⟨by omega, by omega⟩, trivial⟩) ?_
                                              refine aw_iret eX12_set_121 rfl (Nat.le_refl _) (Nat.le_refl _) ?_
                                              exact pe_i rfl rfl rfl)
                                         · first
                                           | (exfalso; omega; done)
                                           | (refine aw_blk oX12_set_101 (pc' := 103) (ls' := [_, _, _, _, _]) (st' := [_]) (cs := []) rfl trivial ?_
                                              refine aw_iret eX12_set_103 rfl (Nat.le_refl _) (Nat.le_refl _) ?_
                                              exact pe_i rfl rfl rfl))
                                    · first
                                      | (exfalso; omega; done)
                                      | (refine aw_blk oX12_set_89 (pc' := 94) (ls' := [_, _, _, _, _]) (st' := [_, _]) (cs := []) rfl trivial ?_
                                         refine aw_blk oX12_set_94 (pc' := 95) (ls' := [_, _, _, _, _]) (st' := [_, _, _]) (cs := []) rfl trivial ?_
                                         refine aw_ciS (rest := []) (c_X12_in (by omega) (by omega) (by omega)) kX12_in eX12_set_95 lX12_set_95 rfl rfl (Nat.le_of_ble_eq_true rfl) ⟨Nat.le_of_ble_eq_true rfl, Nat.le_of_ble_eq_true rfl⟩ ⟨Nat.le_refl _, Nat.le_refl _⟩ ?_
                                         refine aw_if_ne (tgt := 104) eX12_set_98 (by decide) bt_r (fun hh => have h643 := bt1 hh; ?_) (fun hh => have h643 := bt0 hh; ?_)
                                         · first
                                           | (exfalso; omega; done)
                                           | (refine aw_blk oX12_set_104 (pc' := 121) (ls' := [_, _, _, _, _]) (st' := [_]) (cs := [(_, _), (_, _)]) rfl (⟨⟨by omega, by omega⟩, ⟨by omega, by omega⟩, trivial⟩) ?_
                                              refine aw_iret eX12_set_121 rfl (Nat.le_refl _) (Nat.le_refl _) ?_
                                              exact pe_i rfl rfl rfl)
                                         · first
                                           | (exfalso; omega; done)
                                           | (refine aw_blk oX12_set_101 (pc' := 103) (ls' := [_, _, _, _, _]) (st' := [_]) (cs := []) rfl trivial ?_
                                              refine aw_iret eX12_set_103 rfl (Nat.le_refl _) (Nat.le_refl _) ?_
                                              exact pe_i rfl rfl rfl)))))
                     · first
                       | (exfalso; omega; done)
                       | (refine aw_blk oX12_set_38 (pc' := 76) (ls' := [_, _, _, _, _]) (st' := [_]) (cs := []) rfl trivial ?_
                          refine aw_blk oX12_set_76 (pc' := 80) (ls' := [_, _, _, _, _]) (st' := [_, _, _]) (cs := []) rfl trivial ?_
                          refine aw_icmp_eq (tgt := 89) eX12_set_80 (by decide) (by omega) (by omega) (fun h644 => ?_) (fun h644 => ?_)
                          · first
                            | (exfalso; omega; done)
                            | (refine aw_blk oX12_set_89 (pc' := 94) (ls' := [_, _, _, _, _]) (st' := [_, _]) (cs := []) rfl trivial ?_
                               refine aw_blk oX12_set_94 (pc' := 95) (ls' := [_, _, _, _, _]) (st' := [_, _, _]) (cs := []) rfl trivial ?_
                               refine aw_ciS (rest := []) (c_X12_in (by omega) (by omega) (by omega)) kX12_in eX12_set_95 lX12_set_95 rfl rfl (Nat.le_of_ble_eq_true rfl) ⟨Nat.le_of_ble_eq_true rfl, Nat.le_of_ble_eq_true rfl⟩ ⟨Nat.le_refl _, Nat.le_refl _⟩ ?_
                               refine aw_if_ne (tgt := 104) eX12_set_98 (by decide) bt_r (fun hh => have h645 := bt1 hh; ?_) (fun hh => have h645 := bt0 hh; ?_)
                               · first
                                 | (exfalso; omega; done)
                                 | (refine aw_blk oX12_set_104 (pc' := 121) (ls' := [_, _, _, _, _]) (st' := [_]) (cs := [(_, _), (_, _)]) rfl (⟨⟨by omega, by omega⟩, ⟨by omega, by omega⟩, trivial⟩) ?_
                                    refine aw_iret eX12_set_121 rfl (Nat.le_refl _) (Nat.le_refl _) ?_
                                    exact pe_i rfl rfl rfl)
                               · first
                                 | (exfalso; omega; done)
                                 | (refine aw_blk oX12_set_101 (pc' := 103) (ls' := [_, _, _, _, _]) (st' := [_]) (cs := []) rfl trivial ?_
                                    refine aw_iret eX12_set_103 rfl (Nat.le_refl _) (Nat.le_refl _) ?_
                                    exact pe_i rfl rfl rfl))
                          · first
                            | (exfalso; omega; done)
                            | (refine aw_blk oX12_set_83 (pc' := 86) (ls' := [_, _, _, _, _]) (st' := [_, _, _]) (cs := []) rfl trivial ?_
                               refine aw_icmp_ne (tgt := 93) eX12_set_86 (by decide) (by omega) (by omega) (fun h646 => ?_) (fun h646 => ?_)
                               · first
                                 | (exfalso; omega; done)
                                 | (refine aw_blk oX12_set_93 (pc' := 94) (ls' := [_, _, _, _, _]) (st' := [_, _]) (cs := []) rfl trivial ?_
                                    refine aw_blk oX12_set_94 (pc' := 95) (ls' := [_, _, _, _, _]) (st' := [_, _, _]) (cs := []) rfl trivial ?_
                                    refine aw_ciS (rest := []) (c_X12_in (by omega) (by omega) (by omega)) kX12_in eX12_set_95 lX12_set_95 rfl rfl (Nat.le_of_ble_eq_true rfl) ⟨Nat.le_of_ble_eq_true rfl, Nat.le_of_ble_eq_true rfl⟩ ⟨Nat.le_refl _, Nat.le_refl _⟩ ?_
                                    refine aw_if_ne (tgt := 104) eX12_set_98 (by decide) bt_r (fun hh => have h647 := bt1 hh; ?_) (fun hh => have h647 := bt0 hh; ?_)
                                    · first
                                      | (exfalso; omega; done)
                                      | (refine aw_blk oX12_set_104 (pc' := 121) (ls' := [_, _, _, _, _]) (st' := [_]) (cs := [(_, _), (_, _)]) rfl (⟨⟨by omega, by omega⟩, ⟨by omega, by omega⟩, trivial⟩) ?_
                                         refine aw_iret eX12_set_121 rfl (Nat.le_refl _) (Nat.le_refl _) ?_
                                         exact pe_i rfl rfl rfl)
                                    · first
                                      | (exfalso; omega; done)
                                      | (refine aw_blk oX12_set_101 (pc' := 103) (ls' := [_, _, _, _, _]) (st' := [_]) (cs := []) rfl trivial ?_
                                         refine aw_iret eX12_set_103 rfl (Nat.le_refl _) (Nat.le_refl _) ?_
                                         exact pe_i rfl rfl rfl))
                               · first
                                 | (exfalso; omega; done)
                                 | (refine aw_blk oX12_set_89 (pc' := 94) (ls' := [_, _, _, _, _]) (st' := [_, _]) (cs := []) rfl trivial ?_
                                    refine aw_blk oX12_set_94 (pc' := 95) (ls' := [_, _, _, _, _]) (st' := [_, _, _]) (cs := []) rfl trivial ?_
                                    refine aw_ciS (rest := []) (c_X12_in (by omega) (by omega) (by omega)) kX12_in eX12_set_95 lX12_set_95 rfl rfl (Nat.le_of_ble_eq_true rfl) ⟨Nat.le_of_ble_eq_true rfl, Nat.le_of_ble_eq_true rfl⟩ ⟨Nat.le_refl _, Nat.le_refl _⟩ ?_
                                    refine aw_if_ne (tgt := 104) eX12_set_98 (by decide) bt_r (fun hh => have h648 := bt1 hh; ?_) (fun hh => have h648 := bt0 hh; ?_)
                                    · first
                                      | (exfalso; omega; done)
                                      | (refine aw_blk oX12_set_104 (pc' := 121) (ls' := [_, _, _, _, _]) (st' := [_]) (cs := [(_, _), (_, _)]) rfl (⟨⟨by omega, by omega⟩, ⟨by omega, by omega⟩, trivial⟩) ?_
                                         refine aw_iret eX12_set_121 rfl (Nat.le_refl _) (Nat.le_refl _) ?_
                                         exact pe_i rfl rfl rfl)
                                    · first
                                      | (exfalso; omega; done)
                                      | (refine aw_blk oX12_set_101 (pc' := 103) (ls' := [_, _, _, _, _]) (st' := [_]) (cs := []) rfl trivial ?_
                                         refine aw_iret eX12_set_103 rfl (Nat.le_refl _) (Nat.le_refl _) ?_
                                         exact pe_i rfl rfl rfl)))))
                · first
                  | (exfalso; omega; done)
                  | (refine aw_blk oX12_set_27 (pc' := 76) (ls' := [_, _, _, _, _]) (st' := [_]) (cs := []) rfl trivial ?_
                     refine aw_blk oX12_set_76 (pc' := 80) (ls' := [_, _, _, _, _]) (st' := [_, _, _]) (cs := []) rfl trivial ?_
                     refine aw_icmp_eq (tgt := 89) eX12_set_80 (by decide) (by omega) (by omega) (fun h649 => ?_) (fun h649 => ?_)
                     · first
                       | (exfalso; omega; done)
                       | (refine aw_blk oX12_set_89 (pc' := 94) (ls' := [_, _, _, _, _]) (st' := [_, _]) (cs := []) rfl trivial ?_
                          refine aw_blk oX12_set_94 (pc' := 95) (ls' := [_, _, _, _, _]) (st' := [_, _, _]) (cs := []) rfl trivial ?_
                          refine aw_ciS (rest := []) (c_X12_in (by omega) (by omega) (by omega)) kX12_in eX12_set_95 lX12_set_95 rfl rfl (Nat.le_of_ble_eq_true rfl) ⟨Nat.le_of_ble_eq_true rfl, Nat.le_of_ble_eq_true rfl⟩ ⟨Nat.le_refl _, Nat.le_refl _⟩ ?_
                          refine aw_if_ne (tgt := 104) eX12_set_98 (by decide) bt_r (fun hh => have h650 := bt1 hh; ?_) (fun hh => have h650 := bt0 hh; ?_)
                          · first
                            | (exfalso; omega; done)
                            | (refine aw_blk oX12_set_104 (pc' := 121) (ls' := [_, _, _, _, _]) (st' := [_]) (cs := [(_, _), (_, _)]) rfl (⟨⟨by omega, by omega⟩, ⟨by omega, by omega⟩, trivial⟩) ?_
                               refine aw_iret eX12_set_121 rfl (Nat.le_refl _) (Nat.le_refl _) ?_
                               exact pe_i rfl rfl rfl)
                          · first
                            | (exfalso; omega; done)
                            | (refine aw_blk oX12_set_101 (pc' := 103) (ls' := [_, _, _, _, _]) (st' := [_]) (cs := []) rfl trivial ?_
                               refine aw_iret eX12_set_103 rfl (Nat.le_refl _) (Nat.le_refl _) ?_
                               exact pe_i rfl rfl rfl))
                     · first
                       | (exfalso; omega; done)
                       | (refine aw_blk oX12_set_83 (pc' := 86) (ls' := [_, _, _, _, _]) (st' := [_, _, _]) (cs := []) rfl trivial ?_
                          refine aw_icmp_ne (tgt := 93) eX12_set_86 (by decide) (by omega) (by omega) (fun h651 => ?_) (fun h651 => ?_)
                          · first
                            | (exfalso; omega; done)
                            | (refine aw_blk oX12_set_93 (pc' := 94) (ls' := [_, _, _, _, _]) (st' := [_, _]) (cs := []) rfl trivial ?_
                               refine aw_blk oX12_set_94 (pc' := 95) (ls' := [_, _, _, _, _]) (st' := [_, _, _]) (cs := []) rfl trivial ?_
                               refine aw_ciS (rest := []) (c_X12_in (by omega) (by omega) (by omega)) kX12_in eX12_set_95 lX12_set_95 rfl rfl (Nat.le_of_ble_eq_true rfl) ⟨Nat.le_of_ble_eq_true rfl, Nat.le_of_ble_eq_true rfl⟩ ⟨Nat.le_refl _, Nat.le_refl _⟩ ?_
                               refine aw_if_ne (tgt := 104) eX12_set_98 (by decide) bt_r (fun hh => have h652 := bt1 hh; ?_) (fun hh => have h652 := bt0 hh; ?_)
                               · first
                                 | (exfalso; omega; done)
                                 | (refine aw_blk oX12_set_104 (pc' := 121) (ls' := [_, _, _, _, _]) (st' := [_]) (cs := [(_, _), (_, _)]) rfl (⟨⟨by omega, by omega⟩, ⟨by omega, by omega⟩, trivial⟩) ?_
                                    refine aw_iret eX12_set_121 rfl (Nat.le_refl _) (Nat.le_refl _) ?_
                                    exact pe_i rfl rfl rfl)
                               · first
                                 | (exfalso; omega; done)
                                 | (refine aw_blk oX12_set_101 (pc' := 103) (ls' := [_, _, _, _, _]) (st' := [_]) (cs := []) rfl trivial ?_
                                    refine aw_iret eX12_set_103 rfl (Nat.le_refl _) (Nat.le_refl _) ?_
                                    exact pe_i rfl rfl rfl))
                          · first
                            | (exfalso; omega; done)
                            | (refine aw_blk oX12_set_89 (pc' := 94) (ls' := [_, _, _, _, _]) (st' := [_, _]) (cs := []) rfl trivial ?_
                               refine aw_blk oX12_set_94 (pc' := 95) (ls' := [_, _, _, _, _]) (st' := [_, _, _]) (cs := []) rfl trivial ?_
                               refine aw_ciS (rest := []) (c_X12_in (by omega) (by omega) (by omega)) kX12_in eX12_set_95 lX12_set_95 rfl rfl (Nat.le_of_ble_eq_true rfl) ⟨Nat.le_of_ble_eq_true rfl, Nat.le_of_ble_eq_true rfl⟩ ⟨Nat.le_refl _, Nat.le_refl _⟩ ?_
                               refine aw_if_ne (tgt := 104) eX12_set_98 (by decide) bt_r (fun hh => have h653 := bt1 hh; ?_) (fun hh => have h653 := bt0 hh; ?_)
                               · first
                                 | (exfalso; omega; done)
                                 | (refine aw_blk oX12_set_104 (pc' := 121) (ls' := [_, _, _, _, _]) (st' := [_]) (cs := [(_, _), (_, _)]) rfl (⟨⟨by omega, by omega⟩, ⟨by omega, by omega⟩, trivial⟩) ?_
                                    refine aw_iret eX12_set_121 rfl (Nat.le_refl _) (Nat.le_refl _) ?_
                                    exact pe_i rfl rfl rfl)
                               · first
                                 | (exfalso; omega; done)
                                 | (refine aw_blk oX12_set_101 (pc' := 103) (ls' := [_, _, _, _, _]) (st' := [_]) (cs := []) rfl trivial ?_
                                    refine aw_iret eX12_set_103 rfl (Nat.le_refl _) (Nat.le_refl _) ?_
                                    exact pe_i rfl rfl rfl)))))
           · first
             | (exfalso; omega; done)
             | (refine aw_blk oX12_set_17 (pc' := 76) (ls' := [_, _, _, _, _]) (st' := [_]) (cs := []) rfl trivial ?_
                refine aw_blk oX12_set_76 (pc' := 80) (ls' := [_, _, _, _, _]) (st' := [_, _, _]) (cs := []) rfl trivial ?_
                refine aw_icmp_eq (tgt := 89) eX12_set_80 (by decide) (by omega) (by omega) (fun h654 => ?_) (fun h654 => ?_)
                · first
                  | (exfalso; omega; done)
                  | (refine aw_blk oX12_set_89 (pc' := 94) (ls' := [_, _, _, _, _]) (st' := [_, _]) (cs := []) rfl trivial ?_
                     refine aw_blk oX12_set_94 (pc' := 95) (ls' := [_, _, _, _, _]) (st' := [_, _, _]) (cs := []) rfl trivial ?_
                     refine aw_ciS (rest := []) (c_X12_in (by omega) (by omega) (by omega)) kX12_in eX12_set_95 lX12_set_95 rfl rfl (Nat.le_of_ble_eq_true rfl) ⟨Nat.le_of_ble_eq_true rfl, Nat.le_of_ble_eq_true rfl⟩ ⟨Nat.le_refl _, Nat.le_refl _⟩ ?_
                     refine aw_if_ne (tgt := 104) eX12_set_98 (by decide) bt_r (fun hh => have h655 := bt1 hh; ?_) (fun hh => have h655 := bt0 hh; ?_)
                     · first
                       | (exfalso; omega; done)
                       | (refine aw_blk oX12_set_104 (pc' := 121) (ls' := [_, _, _, _, _]) (st' := [_]) (cs := [(_, _), (_, _)]) rfl (⟨⟨by omega, by omega⟩, ⟨by omega, by omega⟩, trivial⟩) ?_
                          refine aw_iret eX12_set_121 rfl (Nat.le_refl _) (Nat.le_refl _) ?_
                          exact pe_i rfl rfl rfl)
                     · first
                       | (exfalso; omega; done)
                       | (refine aw_blk oX12_set_101 (pc' := 103) (ls' := [_, _, _, _, _]) (st' := [_]) (cs := []) rfl trivial ?_
                          refine aw_iret eX12_set_103 rfl (Nat.le_refl _) (Nat.le_refl _) ?_
                          exact pe_i rfl rfl rfl))
                · first
                  | (exfalso; omega; done)
                  | (refine aw_blk oX12_set_83 (pc' := 86) (ls' := [_, _, _, _, _]) (st' := [_, _, _]) (cs := []) rfl trivial ?_
                     refine aw_icmp_ne (tgt := 93) eX12_set_86 (by decide) (by omega) (by omega) (fun h656 => ?_) (fun h656 => ?_)
                     · first
                       | (exfalso; omega; done)
                       | (refine aw_blk oX12_set_93 (pc' := 94) (ls' := [_, _, _, _, _]) (st' := [_, _]) (cs := []) rfl trivial ?_
                          refine aw_blk oX12_set_94 (pc' := 95) (ls' := [_, _, _, _, _]) (st' := [_, _, _]) (cs := []) rfl trivial ?_
                          refine aw_ciS (rest := []) (c_X12_in (by omega) (by omega) (by omega)) kX12_in eX12_set_95 lX12_set_95 rfl rfl (Nat.le_of_ble_eq_true rfl) ⟨Nat.le_of_ble_eq_true rfl, Nat.le_of_ble_eq_true rfl⟩ ⟨Nat.le_refl _, Nat.le_refl _⟩ ?_
                          refine aw_if_ne (tgt := 104) eX12_set_98 (by decide) bt_r (fun hh => have h657 := bt1 hh; ?_) (fun hh => have h657 := bt0 hh; ?_)
                          · first
                            | (exfalso; omega; done)
                            | (refine aw_blk oX12_set_104 (pc' := 121) (ls' := [_, _, _, _, _]) (st' := [_]) (cs := [(_, _), (_, _)]) rfl (⟨⟨by omega, by omega⟩, ⟨by omega, by omega⟩, trivial⟩) ?_
                               refine aw_iret eX12_set_121 rfl (Nat.le_refl _) (Nat.le_refl _) ?_
                               exact pe_i rfl rfl rfl)
                          · first
                            | (exfalso; omega; done)
                            | (refine aw_blk oX12_set_101 (pc' := 103) (ls' := [_, _, _, _, _]) (st' := [_]) (cs := []) rfl trivial ?_
                               refine aw_iret eX12_set_103 rfl (Nat.le_refl _) (Nat.le_refl _) ?_
                               exact pe_i rfl rfl rfl))
                     · first
                       | (exfalso; omega; done)
                       | (refine aw_blk oX12_set_89 (pc' := 94) (ls' := [_, _, _, _, _]) (st' := [_, _]) (cs := []) rfl trivial ?_
                          refine aw_blk oX12_set_94 (pc' := 95) (ls' := [_, _, _, _, _]) (st' := [_, _, _]) (cs := []) rfl trivial ?_
                          refine aw_ciS (rest := []) (c_X12_in (by omega) (by omega) (by omega)) kX12_in eX12_set_95 lX12_set_95 rfl rfl (Nat.le_of_ble_eq_true rfl) ⟨Nat.le_of_ble_eq_true rfl, Nat.le_of_ble_eq_true rfl⟩ ⟨Nat.le_refl _, Nat.le_refl _⟩ ?_
                          refine aw_if_ne (tgt := 104) eX12_set_98 (by decide) bt_r (fun hh => have h658 := bt1 hh; ?_) (fun hh => have h658 := bt0 hh; ?_)
                          · first
                            | (exfalso; omega; done)
                            | (refine aw_blk oX12_set_104 (pc' := 121) (ls' := [_, _, _, _, _]) (st' := [_]) (cs := [(_, _), (_, _)]) rfl (⟨⟨by omega, by omega⟩, ⟨by omega, by omega⟩, trivial⟩) ?_
                               refine aw_iret eX12_set_121 rfl (Nat.le_refl _) (Nat.le_refl _) ?_
                               exact pe_i rfl rfl rfl)
                          · first
                            | (exfalso; omega; done)
                            | (refine aw_blk oX12_set_101 (pc' := 103) (ls' := [_, _, _, _, _]) (st' := [_]) (cs := []) rfl trivial ?_
                               refine aw_iret eX12_set_103 rfl (Nat.le_refl _) (Nat.le_refl _) ?_
                               exact pe_i rfl rfl rfl)))))
      · first
        | (exfalso; omega; done)
        | (refine aw_blk oX12_set_10 (pc' := 12) (ls' := [_, _, _, _, _]) (st' := [_]) (cs := []) rfl trivial ?_
           refine aw_iret eX12_set_12 rfl (Nat.le_refl _) (Nat.le_refl _) ?_
           exact pe_i rfl rfl rfl)
theorem law_set {κ : KX} {μ : MM} {ν : ML} {w v : Int} (h : RS μ) (hc : 0 ≤ μ 2 8 ∧ μ 2 8 ≤ 10) (hw : R32 w) (hv : R32 v) : LawT κ mX11_set mX12_set [aI w, aI v] μ ν := by
  by_cases c1 : 0 ≤ w ∧ w ≤ 6
  · rcases (show w = 0 ∨ w = 1 ∨ w = 2 ∨ w = 3 ∨ w = 4 ∨ w = 5 ∨ w = 6 by omega) with rfl | rfl | rfl | rfl | rfl | rfl | rfl
    · exact set_0 h hc hv
    · exact set_1 h hc hv
    · exact set_2 h hc hv
    · exact set_3 h hc hv
    · exact set_4 h hc hv
    · exact set_5 h hc hv
    · exact set_6 h hc hv
  · refine ⟨-2, μ, ν, μ, ?_, ?_, by decide, rfl, Or.inl rfl⟩
    · skip
      refine AMet.of kX11_set.1 (Nat.le_of_ble_eq_true rfl) rfl ?_
      refine aw_blk oX11_set_0 (pc' := 4) (ls' := [_, _, _, _]) (st' := [_, _, _]) (cs := []) rfl trivial ?_
      refine aw_ciS (rest := []) (c_X11_between (by omega) (by omega) (by omega)) kX11_between eX11_set_4 lX11_set_4 rfl rfl (Nat.le_of_ble_eq_true rfl) ⟨Nat.le_of_ble_eq_true rfl, Nat.le_of_ble_eq_true rfl⟩ ⟨Nat.le_refl _, Nat.le_refl _⟩ ?_
      refine aw_if_eq (tgt := 27) eX11_set_7 (by decide) bt_r (fun hh => have h1 := bt0 hh; ?_) (fun hh => have h1 := bt1 hh; ?_)
      · refine aw_blk oX11_set_27 (pc' := 29) (ls' := [_, _, _, _]) (st' := [_]) (cs := []) rfl trivial ?_
        refine aw_iret eX11_set_29 rfl (Nat.le_refl _) (Nat.le_refl _) ?_
        exact pe_i rfl rfl rfl
      · exfalso; omega
    · skip
      refine AMet.of kX12_set.1 (Nat.le_of_ble_eq_true rfl) rfl ?_
      refine aw_blk oX12_set_0 (pc' := 4) (ls' := [_, _, _, _, _]) (st' := [_, _, _]) (cs := []) rfl trivial ?_
      refine aw_ciS (rest := []) (c_X12_in (by omega) (by omega) (by omega)) kX12_in eX12_set_4 lX12_set_4 rfl rfl (Nat.le_of_ble_eq_true rfl) ⟨Nat.le_of_ble_eq_true rfl, Nat.le_of_ble_eq_true rfl⟩ ⟨Nat.le_refl _, Nat.le_refl _⟩ ?_
      refine aw_if_ne (tgt := 13) eX12_set_7 (by decide) bt_r (fun hh => have h1 := bt1 hh; ?_) (fun hh => have h1 := bt0 hh; ?_)
      · exfalso; omega
      · refine aw_blk oX12_set_10 (pc' := 12) (ls' := [_, _, _, _, _]) (st' := [_]) (cs := []) rfl trivial ?_
        refine aw_iret eX12_set_12 rfl (Nat.le_refl _) (Nat.le_refl _) ?_
        exact pe_i rfl rfl rfl

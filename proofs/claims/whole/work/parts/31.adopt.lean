/-! ===== THE RULE is made ===== -/
def tk (μ : MM) (st s : Int) : MM :=
  if st = 0 then up (up μ 19 (μ 17 6) s) 21 (μ 17 6) 0
  else if st = 1 then up μ 20 (μ 17 6) (if s = 60 then 1 else 0)
  else if st = 6 then up μ 22 (μ 17 6) (s - 48)
  else if st = 7 then up μ 17 6 (μ 17 6 + 1)
  else if 48 ≤ s ∧ s ≤ 57 then up μ 21 (μ 17 6) (μ 21 (μ 17 6) * 10 + s - 48) else μ
def ad (μ : MM) (st s : Int) : MM := if st = 0 ∧ 48 ≤ s ∧ s ≤ 50 then up μ 17 7 (s - 48) else if μ 17 6 < 6 then tk μ st s else μ
def adL (sg : Int → Int) : Nat → Int → Int → MM → MM
  | 0, _, _, μ => μ
  | n + 1, i, st, μ => adL sg n (i + 1) (af st (sg i)) (ad μ st (sg i))
theorem c_takeSign {κ : KX} {μ : MM} {ν : ML} {st s : Int} (hc : 0 ≤ μ 17 6 ∧ μ 17 6 < 6) (hst : 0 ≤ st ∧ st ≤ 8) (hs : 0 ≤ s ∧ s ≤ 126) : AE κ 1 mX8_takeSign [aR 17, aI st, aI s] μ ν none (tk μ st s) ν := by
  by_cases h0 : st = 0
  · subst h0
    have hc' : up μ 19 (μ 17 6) s 17 6 = μ 17 6 := up_c (by decide)
    refine AMet.of kX8_takeSign.1 (Nat.le_of_ble_eq_true rfl) rfl ?_
    refine aw_blk oX8_takeSign_0 (pc' := 1) (ls' := [_, _, _]) (st' := [_]) (cs := []) rfl trivial ?_
    refine aw_if_ne (tgt := 27) eX8_takeSign_1 (by decide) (by omega) (fun h1 => ?_) (fun h1 => ?_)
    · first
      | (exfalso; omega; done)
      | (refine aw_blk oX8_takeSign_27 (pc' := 29) (ls' := [_, _, _]) (st' := [_, _]) (cs := []) rfl trivial ?_
         refine aw_icmp_ne (tgt := 55) eX8_takeSign_29 (by decide) (by omega) (by omega) (fun h2 => ?_) (fun h2 => ?_)
         · first
           | (exfalso; omega; done)
           | (refine aw_blk oX8_takeSign_55 (pc' := 58) (ls' := [_, _, _]) (st' := [_, _]) (cs := []) rfl trivial ?_
              refine aw_icmp_ne (tgt := 77) eX8_takeSign_58 (by decide) (by omega) (by omega) (fun h3 => ?_) (fun h3 => ?_)
              · first
                | (exfalso; omega; done)
                | (refine aw_blk oX8_takeSign_77 (pc' := 80) (ls' := [_, _, _]) (st' := [_, _]) (cs := []) rfl trivial ?_
                   refine aw_icmp_ne (tgt := 96) eX8_takeSign_80 (by decide) (by omega) (by omega) (fun h4 => ?_) (fun h4 => ?_)
                   · first
                     | (exfalso; omega; done)
                     | (refine aw_blk oX8_takeSign_96 (pc' := 97) (ls' := [_, _, _]) (st' := [_]) (cs := []) rfl trivial ?_
                        refine aw_ciS (rest := []) (c_X8_isDigit (by omega)) kX8_isDigit eX8_takeSign_97 lX8_takeSign_97 rfl rfl (Nat.le_of_ble_eq_true rfl) ⟨Nat.le_of_ble_eq_true rfl, Nat.le_of_ble_eq_true rfl⟩ ⟨Nat.le_refl _, Nat.le_refl _⟩ ?_
                        refine aw_if_eq (tgt := 129) eX8_takeSign_100 (by decide) bt_r (fun hh => have h5 := bt0 hh; ?_) (fun hh => have h5 := bt1 hh; ?_)
                        · first
                          | (exfalso; omega; done)
                          | (refine aw_vret eX8_takeSign_129 rfl (Nat.le_refl _) (Nat.le_refl _) ?_
                             exact pe_v rfl rfl)
                        · first
                          | (exfalso; omega; done)
                          | (refine aw_blk oX8_takeSign_103 (pc' := 129) (ls' := [_, _, _]) (st' := []) (cs := [(_, _), (_, _)]) rfl (⟨⟨by omega, by omega⟩, ⟨by omega, by omega⟩, trivial⟩) ?_
                             refine aw_vret eX8_takeSign_129 rfl (Nat.le_refl _) (Nat.le_refl _) ?_
                             exact pe_v rfl rfl))
                   · first
                     | (exfalso; omega; done)
                     | (refine aw_blk oX8_takeSign_83 (pc' := 129) (ls' := [_, _, _]) (st' := []) (cs := []) rfl trivial ?_
                        refine aw_vret eX8_takeSign_129 rfl (Nat.le_refl _) (Nat.le_refl _) ?_
                        exact pe_v rfl rfl))
              · first
                | (exfalso; omega; done)
                | (refine aw_blk oX8_takeSign_61 (pc' := 129) (ls' := [_, _, _]) (st' := []) (cs := [(_, _)]) rfl (⟨⟨by omega, by omega⟩, trivial⟩) ?_
                   refine aw_vret eX8_takeSign_129 rfl (Nat.le_refl _) (Nat.le_refl _) ?_
                   exact pe_v rfl rfl))
         · first
           | (exfalso; omega; done)
           | (refine aw_blk oX8_takeSign_32 (pc' := 43) (ls' := [_, _, _]) (st' := [_, _, _, _]) (cs := []) rfl trivial ?_
              refine aw_icmp_ne (tgt := 50) eX8_takeSign_43 (by decide) (by omega) (by omega) (fun h6 => ?_) (fun h6 => ?_)
              · first
                | (exfalso; omega; done)
                | (refine aw_blk oX8_takeSign_50 (pc' := 51) (ls' := [_, _, _]) (st' := [_, _, _]) (cs := []) rfl trivial ?_
                   refine aw_blk oX8_takeSign_51 (pc' := 129) (ls' := [_, _, _]) (st' := []) (cs := [(_, _), (_, _)]) rfl (⟨⟨by omega, by omega⟩, ⟨by omega, by omega⟩, trivial⟩) ?_
                   refine aw_vret eX8_takeSign_129 rfl (Nat.le_refl _) (Nat.le_refl _) ?_
                   exact pe_v rfl rfl)
              · first
                | (exfalso; omega; done)
                | (refine aw_blk oX8_takeSign_46 (pc' := 51) (ls' := [_, _, _]) (st' := [_, _, _]) (cs := []) rfl trivial ?_
                   refine aw_blk oX8_takeSign_51 (pc' := 129) (ls' := [_, _, _]) (st' := []) (cs := [(_, _), (_, _)]) rfl (⟨⟨by omega, by omega⟩, ⟨by omega, by omega⟩, trivial⟩) ?_
                   refine aw_vret eX8_takeSign_129 rfl (Nat.le_refl _) (Nat.le_refl _) ?_
                   exact pe_v rfl rfl)))
    · first
      | (exfalso; omega; done)
      | (refine aw_blk oX8_takeSign_4 (pc' := 129) (ls' := [_, _, _]) (st' := []) (cs := [(_, _), (_, _)]) rfl (⟨⟨by omega, by omega⟩, ⟨by omega, by omega⟩, trivial⟩) ?_
         refine aw_vret eX8_takeSign_129 rfl (Nat.le_refl _) (Nat.le_refl _) ?_
         exact pe_v rfl rfl)
  · by_cases h1 : st = 1
    · subst h1
      by_cases hs : s = 60
      · subst hs
        refine AMet.of kX8_takeSign.1 (Nat.le_of_ble_eq_true rfl) rfl ?_
        refine aw_blk oX8_takeSign_0 (pc' := 1) (ls' := [_, _, _]) (st' := [_]) (cs := []) rfl trivial ?_
        refine aw_if_ne (tgt := 27) eX8_takeSign_1 (by decide) (by omega) (fun h7 => ?_) (fun h7 => ?_)
        · first
          | (exfalso; omega; done)
          | (refine aw_blk oX8_takeSign_27 (pc' := 29) (ls' := [_, _, _]) (st' := [_, _]) (cs := []) rfl trivial ?_
             refine aw_icmp_ne (tgt := 55) eX8_takeSign_29 (by decide) (by omega) (by omega) (fun h8 => ?_) (fun h8 => ?_)
             · first
               | (exfalso; omega; done)
               | (refine aw_blk oX8_takeSign_55 (pc' := 58) (ls' := [_, _, _]) (st' := [_, _]) (cs := []) rfl trivial ?_
                  refine aw_icmp_ne (tgt := 77) eX8_takeSign_58 (by decide) (by omega) (by omega) (fun h9 => ?_) (fun h9 => ?_)
                  · first
                    | (exfalso; omega; done)
                    | (refine aw_blk oX8_takeSign_77 (pc' := 80) (ls' := [_, _, _]) (st' := [_, _]) (cs := []) rfl trivial ?_
                       refine aw_icmp_ne (tgt := 96) eX8_takeSign_80 (by decide) (by omega) (by omega) (fun h10 => ?_) (fun h10 => ?_)
                       · first
                         | (exfalso; omega; done)
                         | (refine aw_blk oX8_takeSign_96 (pc' := 97) (ls' := [_, _, _]) (st' := [_]) (cs := []) rfl trivial ?_
                            refine aw_ciS (rest := []) (c_X8_isDigit (by omega)) kX8_isDigit eX8_takeSign_97 lX8_takeSign_97 rfl rfl (Nat.le_of_ble_eq_true rfl) ⟨Nat.le_of_ble_eq_true rfl, Nat.le_of_ble_eq_true rfl⟩ ⟨Nat.le_refl _, Nat.le_refl _⟩ ?_
                            refine aw_if_eq (tgt := 129) eX8_takeSign_100 (by decide) bt_r (fun hh => have h11 := bt0 hh; ?_) (fun hh => have h11 := bt1 hh; ?_)
                            · first
                              | (exfalso; omega; done)
                              | (refine aw_vret eX8_takeSign_129 rfl (Nat.le_refl _) (Nat.le_refl _) ?_
                                 exact pe_v rfl rfl)
                            · first
                              | (exfalso; omega; done)
                              | (refine aw_blk oX8_takeSign_103 (pc' := 129) (ls' := [_, _, _]) (st' := []) (cs := [(_, _), (_, _)]) rfl (⟨⟨by omega, by omega⟩, ⟨by omega, by omega⟩, trivial⟩) ?_
                                 refine aw_vret eX8_takeSign_129 rfl (Nat.le_refl _) (Nat.le_refl _) ?_
                                 exact pe_v rfl rfl))
                       · first
                         | (exfalso; omega; done)
                         | (refine aw_blk oX8_takeSign_83 (pc' := 129) (ls' := [_, _, _]) (st' := []) (cs := []) rfl trivial ?_
                            refine aw_vret eX8_takeSign_129 rfl (Nat.le_refl _) (Nat.le_refl _) ?_
                            exact pe_v rfl rfl))
                  · first
                    | (exfalso; omega; done)
                    | (refine aw_blk oX8_takeSign_61 (pc' := 129) (ls' := [_, _, _]) (st' := []) (cs := [(_, _)]) rfl (⟨⟨by omega, by omega⟩, trivial⟩) ?_
                       refine aw_vret eX8_takeSign_129 rfl (Nat.le_refl _) (Nat.le_refl _) ?_
                       exact pe_v rfl rfl))
             · first
               | (exfalso; omega; done)
               | (refine aw_blk oX8_takeSign_32 (pc' := 43) (ls' := [_, _, _]) (st' := [_, _, _, _]) (cs := []) rfl trivial ?_
                  refine aw_icmp_ne (tgt := 50) eX8_takeSign_43 (by decide) (by omega) (by omega) (fun h12 => ?_) (fun h12 => ?_)
                  · first
                    | (exfalso; omega; done)
                    | (refine aw_blk oX8_takeSign_50 (pc' := 51) (ls' := [_, _, _]) (st' := [_, _, _]) (cs := []) rfl trivial ?_
                       refine aw_blk oX8_takeSign_51 (pc' := 129) (ls' := [_, _, _]) (st' := []) (cs := [(_, _), (_, _)]) rfl (⟨⟨by omega, by omega⟩, ⟨by omega, by omega⟩, trivial⟩) ?_
                       refine aw_vret eX8_takeSign_129 rfl (Nat.le_refl _) (Nat.le_refl _) ?_
                       exact pe_v rfl rfl)
                  · first
                    | (exfalso; omega; done)
                    | (refine aw_blk oX8_takeSign_46 (pc' := 51) (ls' := [_, _, _]) (st' := [_, _, _]) (cs := []) rfl trivial ?_
                       refine aw_blk oX8_takeSign_51 (pc' := 129) (ls' := [_, _, _]) (st' := []) (cs := [(_, _), (_, _)]) rfl (⟨⟨by omega, by omega⟩, ⟨by omega, by omega⟩, trivial⟩) ?_
                       refine aw_vret eX8_takeSign_129 rfl (Nat.le_refl _) (Nat.le_refl _) ?_
                       exact pe_v rfl rfl)))
        · first
          | (exfalso; omega; done)
          | (refine aw_blk oX8_takeSign_4 (pc' := 129) (ls' := [_, _, _]) (st' := []) (cs := [(_, _), (_, _)]) rfl (⟨⟨by omega, by omega⟩, ⟨by omega, by omega⟩, trivial⟩) ?_
             refine aw_vret eX8_takeSign_129 rfl (Nat.le_refl _) (Nat.le_refl _) ?_
             exact pe_v rfl rfl)
      · have e : tk μ 1 s = up μ 20 (μ 17 6) 0 := by
          unfold tk
          rw [if_neg (by decide), if_pos rfl, if_neg hs]
        rw [e]
        refine AMet.of kX8_takeSign.1 (Nat.le_of_ble_eq_true rfl) rfl ?_
        refine aw_blk oX8_takeSign_0 (pc' := 1) (ls' := [_, _, _]) (st' := [_]) (cs := []) rfl trivial ?_
        refine aw_if_ne (tgt := 27) eX8_takeSign_1 (by decide) (by omega) (fun h13 => ?_) (fun h13 => ?_)
        · first
          | (exfalso; omega; done)
          | (refine aw_blk oX8_takeSign_27 (pc' := 29) (ls' := [_, _, _]) (st' := [_, _]) (cs := []) rfl trivial ?_
             refine aw_icmp_ne (tgt := 55) eX8_takeSign_29 (by decide) (by omega) (by omega) (fun h14 => ?_) (fun h14 => ?_)
             · first
               | (exfalso; omega; done)
               | (refine aw_blk oX8_takeSign_55 (pc' := 58) (ls' := [_, _, _]) (st' := [_, _]) (cs := []) rfl trivial ?_
                  refine aw_icmp_ne (tgt := 77) eX8_takeSign_58 (by decide) (by omega) (by omega) (fun h15 => ?_) (fun h15 => ?_)
                  · first
                    | (exfalso; omega; done)
                    | (refine aw_blk oX8_takeSign_77 (pc' := 80) (ls' := [_, _, _]) (st' := [_, _]) (cs := []) rfl trivial ?_
                       refine aw_icmp_ne (tgt := 96) eX8_takeSign_80 (by decide) (by omega) (by omega) (fun h16 => ?_) (fun h16 => ?_)
                       · first
                         | (exfalso; omega; done)
                         | (refine aw_blk oX8_takeSign_96 (pc' := 97) (ls' := [_, _, _]) (st' := [_]) (cs := []) rfl trivial ?_
                            refine aw_ciS (rest := []) (c_X8_isDigit (by omega)) kX8_isDigit eX8_takeSign_97 lX8_takeSign_97 rfl rfl (Nat.le_of_ble_eq_true rfl) ⟨Nat.le_of_ble_eq_true rfl, Nat.le_of_ble_eq_true rfl⟩ ⟨Nat.le_refl _, Nat.le_refl _⟩ ?_
                            refine aw_if_eq (tgt := 129) eX8_takeSign_100 (by decide) bt_r (fun hh => have h17 := bt0 hh; ?_) (fun hh => have h17 := bt1 hh; ?_)
                            · first
                              | (exfalso; omega; done)
                              | (refine aw_vret eX8_takeSign_129 rfl (Nat.le_refl _) (Nat.le_refl _) ?_
                                 exact pe_v rfl rfl)
                            · first
                              | (exfalso; omega; done)
                              | (refine aw_blk oX8_takeSign_103 (pc' := 129) (ls' := [_, _, _]) (st' := []) (cs := [(_, _), (_, _)]) rfl (⟨⟨by omega, by omega⟩, ⟨by omega, by omega⟩, trivial⟩) ?_
                                 refine aw_vret eX8_takeSign_129 rfl (Nat.le_refl _) (Nat.le_refl _) ?_
                                 exact pe_v rfl rfl))
                       · first
                         | (exfalso; omega; done)
                         | (refine aw_blk oX8_takeSign_83 (pc' := 129) (ls' := [_, _, _]) (st' := []) (cs := []) rfl trivial ?_
                            refine aw_vret eX8_takeSign_129 rfl (Nat.le_refl _) (Nat.le_refl _) ?_
                            exact pe_v rfl rfl))
                  · first
                    | (exfalso; omega; done)
                    | (refine aw_blk oX8_takeSign_61 (pc' := 129) (ls' := [_, _, _]) (st' := []) (cs := [(_, _)]) rfl (⟨⟨by omega, by omega⟩, trivial⟩) ?_
                       refine aw_vret eX8_takeSign_129 rfl (Nat.le_refl _) (Nat.le_refl _) ?_
                       exact pe_v rfl rfl))
             · first
               | (exfalso; omega; done)
               | (refine aw_blk oX8_takeSign_32 (pc' := 43) (ls' := [_, _, _]) (st' := [_, _, _, _]) (cs := []) rfl trivial ?_
                  refine aw_icmp_ne (tgt := 50) eX8_takeSign_43 (by decide) (by omega) (by omega) (fun h18 => ?_) (fun h18 => ?_)
                  · first
                    | (exfalso; omega; done)
                    | (refine aw_blk oX8_takeSign_50 (pc' := 51) (ls' := [_, _, _]) (st' := [_, _, _]) (cs := []) rfl trivial ?_
                       refine aw_blk oX8_takeSign_51 (pc' := 129) (ls' := [_, _, _]) (st' := []) (cs := [(_, _), (_, _)]) rfl (⟨⟨by omega, by omega⟩, ⟨by omega, by omega⟩, trivial⟩) ?_
                       refine aw_vret eX8_takeSign_129 rfl (Nat.le_refl _) (Nat.le_refl _) ?_
                       exact pe_v rfl rfl)
                  · first
                    | (exfalso; omega; done)
                    | (refine aw_blk oX8_takeSign_46 (pc' := 51) (ls' := [_, _, _]) (st' := [_, _, _]) (cs := []) rfl trivial ?_
                       refine aw_blk oX8_takeSign_51 (pc' := 129) (ls' := [_, _, _]) (st' := []) (cs := [(_, _), (_, _)]) rfl (⟨⟨by omega, by omega⟩, ⟨by omega, by omega⟩, trivial⟩) ?_
                       refine aw_vret eX8_takeSign_129 rfl (Nat.le_refl _) (Nat.le_refl _) ?_
                       exact pe_v rfl rfl)))
        · first
          | (exfalso; omega; done)
          | (refine aw_blk oX8_takeSign_4 (pc' := 129) (ls' := [_, _, _]) (st' := []) (cs := [(_, _), (_, _)]) rfl (⟨⟨by omega, by omega⟩, ⟨by omega, by omega⟩, trivial⟩) ?_
             refine aw_vret eX8_takeSign_129 rfl (Nat.le_refl _) (Nat.le_refl _) ?_
             exact pe_v rfl rfl)
    · by_cases h6 : st = 6
      · subst h6
        refine AMet.of kX8_takeSign.1 (Nat.le_of_ble_eq_true rfl) rfl ?_
        refine aw_blk oX8_takeSign_0 (pc' := 1) (ls' := [_, _, _]) (st' := [_]) (cs := []) rfl trivial ?_
        refine aw_if_ne (tgt := 27) eX8_takeSign_1 (by decide) (by omega) (fun h19 => ?_) (fun h19 => ?_)
        · first
          | (exfalso; omega; done)
          | (refine aw_blk oX8_takeSign_27 (pc' := 29) (ls' := [_, _, _]) (st' := [_, _]) (cs := []) rfl trivial ?_
             refine aw_icmp_ne (tgt := 55) eX8_takeSign_29 (by decide) (by omega) (by omega) (fun h20 => ?_) (fun h20 => ?_)
             · first
               | (exfalso; omega; done)
               | (refine aw_blk oX8_takeSign_55 (pc' := 58) (ls' := [_, _, _]) (st' := [_, _]) (cs := []) rfl trivial ?_
                  refine aw_icmp_ne (tgt := 77) eX8_takeSign_58 (by decide) (by omega) (by omega) (fun h21 => ?_) (fun h21 => ?_)
                  · first
                    | (exfalso; omega; done)
                    | (refine aw_blk oX8_takeSign_77 (pc' := 80) (ls' := [_, _, _]) (st' := [_, _]) (cs := []) rfl trivial ?_
                       refine aw_icmp_ne (tgt := 96) eX8_takeSign_80 (by decide) (by omega) (by omega) (fun h22 => ?_) (fun h22 => ?_)
                       · first
                         | (exfalso; omega; done)
                         | (refine aw_blk oX8_takeSign_96 (pc' := 97) (ls' := [_, _, _]) (st' := [_]) (cs := []) rfl trivial ?_
                            refine aw_ciS (rest := []) (c_X8_isDigit (by omega)) kX8_isDigit eX8_takeSign_97 lX8_takeSign_97 rfl rfl (Nat.le_of_ble_eq_true rfl) ⟨Nat.le_of_ble_eq_true rfl, Nat.le_of_ble_eq_true rfl⟩ ⟨Nat.le_refl _, Nat.le_refl _⟩ ?_
                            refine aw_if_eq (tgt := 129) eX8_takeSign_100 (by decide) bt_r (fun hh => have h23 := bt0 hh; ?_) (fun hh => have h23 := bt1 hh; ?_)
                            · first
                              | (exfalso; omega; done)
                              | (refine aw_vret eX8_takeSign_129 rfl (Nat.le_refl _) (Nat.le_refl _) ?_
                                 exact pe_v rfl rfl)
                            · first
                              | (exfalso; omega; done)
                              | (refine aw_blk oX8_takeSign_103 (pc' := 129) (ls' := [_, _, _]) (st' := []) (cs := [(_, _), (_, _)]) rfl (⟨⟨by omega, by omega⟩, ⟨by omega, by omega⟩, trivial⟩) ?_
                                 refine aw_vret eX8_takeSign_129 rfl (Nat.le_refl _) (Nat.le_refl _) ?_
                                 exact pe_v rfl rfl))
                       · first
                         | (exfalso; omega; done)
                         | (refine aw_blk oX8_takeSign_83 (pc' := 129) (ls' := [_, _, _]) (st' := []) (cs := []) rfl trivial ?_
                            refine aw_vret eX8_takeSign_129 rfl (Nat.le_refl _) (Nat.le_refl _) ?_
                            exact pe_v rfl rfl))
                  · first
                    | (exfalso; omega; done)
                    | (refine aw_blk oX8_takeSign_61 (pc' := 129) (ls' := [_, _, _]) (st' := []) (cs := [(_, _)]) rfl (⟨⟨by omega, by omega⟩, trivial⟩) ?_
                       refine aw_vret eX8_takeSign_129 rfl (Nat.le_refl _) (Nat.le_refl _) ?_
                       exact pe_v rfl rfl))
             · first
               | (exfalso; omega; done)
               | (refine aw_blk oX8_takeSign_32 (pc' := 43) (ls' := [_, _, _]) (st' := [_, _, _, _]) (cs := []) rfl trivial ?_
                  refine aw_icmp_ne (tgt := 50) eX8_takeSign_43 (by decide) (by omega) (by omega) (fun h24 => ?_) (fun h24 => ?_)
                  · first
                    | (exfalso; omega; done)
                    | (refine aw_blk oX8_takeSign_50 (pc' := 51) (ls' := [_, _, _]) (st' := [_, _, _]) (cs := []) rfl trivial ?_
                       refine aw_blk oX8_takeSign_51 (pc' := 129) (ls' := [_, _, _]) (st' := []) (cs := [(_, _), (_, _)]) rfl (⟨⟨by omega, by omega⟩, ⟨by omega, by omega⟩, trivial⟩) ?_
                       refine aw_vret eX8_takeSign_129 rfl (Nat.le_refl _) (Nat.le_refl _) ?_
                       exact pe_v rfl rfl)
                  · first
                    | (exfalso; omega; done)
                    | (refine aw_blk oX8_takeSign_46 (pc' := 51) (ls' := [_, _, _]) (st' := [_, _, _]) (cs := []) rfl trivial ?_
                       refine aw_blk oX8_takeSign_51 (pc' := 129) (ls' := [_, _, _]) (st' := []) (cs := [(_, _), (_, _)]) rfl (⟨⟨by omega, by omega⟩, ⟨by omega, by omega⟩, trivial⟩) ?_
                       refine aw_vret eX8_takeSign_129 rfl (Nat.le_refl _) (Nat.le_refl _) ?_
                       exact pe_v rfl rfl)))
        · first
          | (exfalso; omega; done)
          | (refine aw_blk oX8_takeSign_4 (pc' := 129) (ls' := [_, _, _]) (st' := []) (cs := [(_, _), (_, _)]) rfl (⟨⟨by omega, by omega⟩, ⟨by omega, by omega⟩, trivial⟩) ?_
             refine aw_vret eX8_takeSign_129 rfl (Nat.le_refl _) (Nat.le_refl _) ?_
             exact pe_v rfl rfl)
      · by_cases h7 : st = 7
        · subst h7
          refine AMet.of kX8_takeSign.1 (Nat.le_of_ble_eq_true rfl) rfl ?_
          refine aw_blk oX8_takeSign_0 (pc' := 1) (ls' := [_, _, _]) (st' := [_]) (cs := []) rfl trivial ?_
          refine aw_if_ne (tgt := 27) eX8_takeSign_1 (by decide) (by omega) (fun h25 => ?_) (fun h25 => ?_)
          · first
            | (exfalso; omega; done)
            | (refine aw_blk oX8_takeSign_27 (pc' := 29) (ls' := [_, _, _]) (st' := [_, _]) (cs := []) rfl trivial ?_
               refine aw_icmp_ne (tgt := 55) eX8_takeSign_29 (by decide) (by omega) (by omega) (fun h26 => ?_) (fun h26 => ?_)
               · first
                 | (exfalso; omega; done)
                 | (refine aw_blk oX8_takeSign_55 (pc' := 58) (ls' := [_, _, _]) (st' := [_, _]) (cs := []) rfl trivial ?_
                    refine aw_icmp_ne (tgt := 77) eX8_takeSign_58 (by decide) (by omega) (by omega) (fun h27 => ?_) (fun h27 => ?_)
                    · first
                      | (exfalso; omega; done)
                      | (refine aw_blk oX8_takeSign_77 (pc' := 80) (ls' := [_, _, _]) (st' := [_, _]) (cs := []) rfl trivial ?_
                         refine aw_icmp_ne (tgt := 96) eX8_takeSign_80 (by decide) (by omega) (by omega) (fun h28 => ?_) (fun h28 => ?_)
                         · first
                           | (exfalso; omega; done)
                           | (refine aw_blk oX8_takeSign_96 (pc' := 97) (ls' := [_, _, _]) (st' := [_]) (cs := []) rfl trivial ?_
                              refine aw_ciS (rest := []) (c_X8_isDigit (by omega)) kX8_isDigit eX8_takeSign_97 lX8_takeSign_97 rfl rfl (Nat.le_of_ble_eq_true rfl) ⟨Nat.le_of_ble_eq_true rfl, Nat.le_of_ble_eq_true rfl⟩ ⟨Nat.le_refl _, Nat.le_refl _⟩ ?_
                              refine aw_if_eq (tgt := 129) eX8_takeSign_100 (by decide) bt_r (fun hh => have h29 := bt0 hh; ?_) (fun hh => have h29 := bt1 hh; ?_)
                              · first
                                | (exfalso; omega; done)
                                | (refine aw_vret eX8_takeSign_129 rfl (Nat.le_refl _) (Nat.le_refl _) ?_
                                   exact pe_v rfl rfl)
                              · first
                                | (exfalso; omega; done)
                                | (refine aw_blk oX8_takeSign_103 (pc' := 129) (ls' := [_, _, _]) (st' := []) (cs := [(_, _), (_, _)]) rfl (⟨⟨by omega, by omega⟩, ⟨by omega, by omega⟩, trivial⟩) ?_
                                   refine aw_vret eX8_takeSign_129 rfl (Nat.le_refl _) (Nat.le_refl _) ?_
                                   exact pe_v rfl rfl))
                         · first
                           | (exfalso; omega; done)
                           | (refine aw_blk oX8_takeSign_83 (pc' := 129) (ls' := [_, _, _]) (st' := []) (cs := []) rfl trivial ?_
                              refine aw_vret eX8_takeSign_129 rfl (Nat.le_refl _) (Nat.le_refl _) ?_
                              exact pe_v rfl rfl))
                    · first
                      | (exfalso; omega; done)
                      | (refine aw_blk oX8_takeSign_61 (pc' := 129) (ls' := [_, _, _]) (st' := []) (cs := [(_, _)]) rfl (⟨⟨by omega, by omega⟩, trivial⟩) ?_
                         refine aw_vret eX8_takeSign_129 rfl (Nat.le_refl _) (Nat.le_refl _) ?_
                         exact pe_v rfl rfl))
               · first
                 | (exfalso; omega; done)
                 | (refine aw_blk oX8_takeSign_32 (pc' := 43) (ls' := [_, _, _]) (st' := [_, _, _, _]) (cs := []) rfl trivial ?_
                    refine aw_icmp_ne (tgt := 50) eX8_takeSign_43 (by decide) (by omega) (by omega) (fun h30 => ?_) (fun h30 => ?_)
                    · first
                      | (exfalso; omega; done)
                      | (refine aw_blk oX8_takeSign_50 (pc' := 51) (ls' := [_, _, _]) (st' := [_, _, _]) (cs := []) rfl trivial ?_
                         refine aw_blk oX8_takeSign_51 (pc' := 129) (ls' := [_, _, _]) (st' := []) (cs := [(_, _), (_, _)]) rfl (⟨⟨by omega, by omega⟩, ⟨by omega, by omega⟩, trivial⟩) ?_
                         refine aw_vret eX8_takeSign_129 rfl (Nat.le_refl _) (Nat.le_refl _) ?_
                         exact pe_v rfl rfl)
                    · first
                      | (exfalso; omega; done)
                      | (refine aw_blk oX8_takeSign_46 (pc' := 51) (ls' := [_, _, _]) (st' := [_, _, _]) (cs := []) rfl trivial ?_
                         refine aw_blk oX8_takeSign_51 (pc' := 129) (ls' := [_, _, _]) (st' := []) (cs := [(_, _), (_, _)]) rfl (⟨⟨by omega, by omega⟩, ⟨by omega, by omega⟩, trivial⟩) ?_
                         refine aw_vret eX8_takeSign_129 rfl (Nat.le_refl _) (Nat.le_refl _) ?_
                         exact pe_v rfl rfl)))
          · first
            | (exfalso; omega; done)
            | (refine aw_blk oX8_takeSign_4 (pc' := 129) (ls' := [_, _, _]) (st' := []) (cs := [(_, _), (_, _)]) rfl (⟨⟨by omega, by omega⟩, ⟨by omega, by omega⟩, trivial⟩) ?_
               refine aw_vret eX8_takeSign_129 rfl (Nat.le_refl _) (Nat.le_refl _) ?_
               exact pe_v rfl rfl)
        · by_cases hd : 48 ≤ s ∧ s ≤ 57
          · have e : tk μ st s = up μ 21 (μ 17 6) (μ 21 (μ 17 6) * 10 + s - 48) := by
              unfold tk
              rw [if_neg h0, if_neg h1, if_neg h6, if_neg h7, if_pos hd]
            rw [e]
            refine AMet.of kX8_takeSign.1 (Nat.le_of_ble_eq_true rfl) rfl ?_
            refine aw_blk oX8_takeSign_0 (pc' := 1) (ls' := [_, _, _]) (st' := [_]) (cs := []) rfl trivial ?_
            refine aw_if_ne (tgt := 27) eX8_takeSign_1 (by decide) (by omega) (fun h31 => ?_) (fun h31 => ?_)
            · first
              | (exfalso; omega; done)
              | (refine aw_blk oX8_takeSign_27 (pc' := 29) (ls' := [_, _, _]) (st' := [_, _]) (cs := []) rfl trivial ?_
                 refine aw_icmp_ne (tgt := 55) eX8_takeSign_29 (by decide) (by omega) (by omega) (fun h32 => ?_) (fun h32 => ?_)
                 · first
                   | (exfalso; omega; done)
                   | (refine aw_blk oX8_takeSign_55 (pc' := 58) (ls' := [_, _, _]) (st' := [_, _]) (cs := []) rfl trivial ?_
                      refine aw_icmp_ne (tgt := 77) eX8_takeSign_58 (by decide) (by omega) (by omega) (fun h33 => ?_) (fun h33 => ?_)
                      · first
                        | (exfalso; omega; done)
                        | (refine aw_blk oX8_takeSign_77 (pc' := 80) (ls' := [_, _, _]) (st' := [_, _]) (cs := []) rfl trivial ?_
                           refine aw_icmp_ne (tgt := 96) eX8_takeSign_80 (by decide) (by omega) (by omega) (fun h34 => ?_) (fun h34 => ?_)
                           · first
                             | (exfalso; omega; done)
                             | (refine aw_blk oX8_takeSign_96 (pc' := 97) (ls' := [_, _, _]) (st' := [_]) (cs := []) rfl trivial ?_
                                refine aw_ciS (rest := []) (c_X8_isDigit (by omega)) kX8_isDigit eX8_takeSign_97 lX8_takeSign_97 rfl rfl (Nat.le_of_ble_eq_true rfl) ⟨Nat.le_of_ble_eq_true rfl, Nat.le_of_ble_eq_true rfl⟩ ⟨Nat.le_refl _, Nat.le_refl _⟩ ?_
                                refine aw_if_eq (tgt := 129) eX8_takeSign_100 (by decide) bt_r (fun hh => have h35 := bt0 hh; ?_) (fun hh => have h35 := bt1 hh; ?_)
                                · first
                                  | (exfalso; omega; done)
                                  | (refine aw_vret eX8_takeSign_129 rfl (Nat.le_refl _) (Nat.le_refl _) ?_
                                     exact pe_v rfl rfl)
                                · first
                                  | (exfalso; omega; done)
                                  | (refine aw_blk oX8_takeSign_103 (pc' := 129) (ls' := [_, _, _]) (st' := []) (cs := [(_, _), (_, _)]) rfl (⟨⟨by omega, by omega⟩, ⟨by omega, by omega⟩, trivial⟩) ?_
                                     refine aw_vret eX8_takeSign_129 rfl (Nat.le_refl _) (Nat.le_refl _) ?_
                                     exact pe_v rfl rfl))
                           · first
                             | (exfalso; omega; done)
                             | (refine aw_blk oX8_takeSign_83 (pc' := 129) (ls' := [_, _, _]) (st' := []) (cs := []) rfl trivial ?_
                                refine aw_vret eX8_takeSign_129 rfl (Nat.le_refl _) (Nat.le_refl _) ?_
                                exact pe_v rfl rfl))
                      · first
                        | (exfalso; omega; done)
                        | (refine aw_blk oX8_takeSign_61 (pc' := 129) (ls' := [_, _, _]) (st' := []) (cs := [(_, _)]) rfl (⟨⟨by omega, by omega⟩, trivial⟩) ?_
                           refine aw_vret eX8_takeSign_129 rfl (Nat.le_refl _) (Nat.le_refl _) ?_
                           exact pe_v rfl rfl))
                 · first
                   | (exfalso; omega; done)
                   | (refine aw_blk oX8_takeSign_32 (pc' := 43) (ls' := [_, _, _]) (st' := [_, _, _, _]) (cs := []) rfl trivial ?_
                      refine aw_icmp_ne (tgt := 50) eX8_takeSign_43 (by decide) (by omega) (by omega) (fun h36 => ?_) (fun h36 => ?_)
                      · first
                        | (exfalso; omega; done)
                        | (refine aw_blk oX8_takeSign_50 (pc' := 51) (ls' := [_, _, _]) (st' := [_, _, _]) (cs := []) rfl trivial ?_
                           refine aw_blk oX8_takeSign_51 (pc' := 129) (ls' := [_, _, _]) (st' := []) (cs := [(_, _), (_, _)]) rfl (⟨⟨by omega, by omega⟩, ⟨by omega, by omega⟩, trivial⟩) ?_
                           refine aw_vret eX8_takeSign_129 rfl (Nat.le_refl _) (Nat.le_refl _) ?_
                           exact pe_v rfl rfl)
                      · first
                        | (exfalso; omega; done)
                        | (refine aw_blk oX8_takeSign_46 (pc' := 51) (ls' := [_, _, _]) (st' := [_, _, _]) (cs := []) rfl trivial ?_
                           refine aw_blk oX8_takeSign_51 (pc' := 129) (ls' := [_, _, _]) (st' := []) (cs := [(_, _), (_, _)]) rfl (⟨⟨by omega, by omega⟩, ⟨by omega, by omega⟩, trivial⟩) ?_
                           refine aw_vret eX8_takeSign_129 rfl (Nat.le_refl _) (Nat.le_refl _) ?_
                           exact pe_v rfl rfl)))
            · first
              | (exfalso; omega; done)
              | (refine aw_blk oX8_takeSign_4 (pc' := 129) (ls' := [_, _, _]) (st' := []) (cs := [(_, _), (_, _)]) rfl (⟨⟨by omega, by omega⟩, ⟨by omega, by omega⟩, trivial⟩) ?_
                 refine aw_vret eX8_takeSign_129 rfl (Nat.le_refl _) (Nat.le_refl _) ?_
                 exact pe_v rfl rfl)
          · have e : tk μ st s = μ := by
              unfold tk
              rw [if_neg h0, if_neg h1, if_neg h6, if_neg h7, if_neg hd]
            rw [e]
            refine AMet.of kX8_takeSign.1 (Nat.le_of_ble_eq_true rfl) rfl ?_
            refine aw_blk oX8_takeSign_0 (pc' := 1) (ls' := [_, _, _]) (st' := [_]) (cs := []) rfl trivial ?_
            refine aw_if_ne (tgt := 27) eX8_takeSign_1 (by decide) (by omega) (fun h37 => ?_) (fun h37 => ?_)
            · first
              | (exfalso; omega; done)
              | (refine aw_blk oX8_takeSign_27 (pc' := 29) (ls' := [_, _, _]) (st' := [_, _]) (cs := []) rfl trivial ?_
                 refine aw_icmp_ne (tgt := 55) eX8_takeSign_29 (by decide) (by omega) (by omega) (fun h38 => ?_) (fun h38 => ?_)
                 · first
                   | (exfalso; omega; done)
                   | (refine aw_blk oX8_takeSign_55 (pc' := 58) (ls' := [_, _, _]) (st' := [_, _]) (cs := []) rfl trivial ?_
                      refine aw_icmp_ne (tgt := 77) eX8_takeSign_58 (by decide) (by omega) (by omega) (fun h39 => ?_) (fun h39 => ?_)
                      · first
                        | (exfalso; omega; done)
                        | (refine aw_blk oX8_takeSign_77 (pc' := 80) (ls' := [_, _, _]) (st' := [_, _]) (cs := []) rfl trivial ?_
                           refine aw_icmp_ne (tgt := 96) eX8_takeSign_80 (by decide) (by omega) (by omega) (fun h40 => ?_) (fun h40 => ?_)
                           · first
                             | (exfalso; omega; done)
                             | (refine aw_blk oX8_takeSign_96 (pc' := 97) (ls' := [_, _, _]) (st' := [_]) (cs := []) rfl trivial ?_
                                refine aw_ciS (rest := []) (c_X8_isDigit (by omega)) kX8_isDigit eX8_takeSign_97 lX8_takeSign_97 rfl rfl (Nat.le_of_ble_eq_true rfl) ⟨Nat.le_of_ble_eq_true rfl, Nat.le_of_ble_eq_true rfl⟩ ⟨Nat.le_refl _, Nat.le_refl _⟩ ?_
                                refine aw_if_eq (tgt := 129) eX8_takeSign_100 (by decide) bt_r (fun hh => have h41 := bt0 hh; ?_) (fun hh => have h41 := bt1 hh; ?_)
                                · first
                                  | (exfalso; omega; done)
                                  | (refine aw_vret eX8_takeSign_129 rfl (Nat.le_refl _) (Nat.le_refl _) ?_
                                     exact pe_v rfl rfl)
                                · first
                                  | (exfalso; omega; done)
                                  | (refine aw_blk oX8_takeSign_103 (pc' := 129) (ls' := [_, _, _]) (st' := []) (cs := [(_, _), (_, _)]) rfl (⟨⟨by omega, by omega⟩, ⟨by omega, by omega⟩, trivial⟩) ?_
                                     refine aw_vret eX8_takeSign_129 rfl (Nat.le_refl _) (Nat.le_refl _) ?_
                                     exact pe_v rfl rfl))
                           · first
                             | (exfalso; omega; done)
                             | (refine aw_blk oX8_takeSign_83 (pc' := 129) (ls' := [_, _, _]) (st' := []) (cs := []) rfl trivial ?_
                                refine aw_vret eX8_takeSign_129 rfl (Nat.le_refl _) (Nat.le_refl _) ?_
                                exact pe_v rfl rfl))
                      · first
                        | (exfalso; omega; done)
                        | (refine aw_blk oX8_takeSign_61 (pc' := 129) (ls' := [_, _, _]) (st' := []) (cs := [(_, _)]) rfl (⟨⟨by omega, by omega⟩, trivial⟩) ?_
                           refine aw_vret eX8_takeSign_129 rfl (Nat.le_refl _) (Nat.le_refl _) ?_
                           exact pe_v rfl rfl))
                 · first
                   | (exfalso; omega; done)
                   | (refine aw_blk oX8_takeSign_32 (pc' := 43) (ls' := [_, _, _]) (st' := [_, _, _, _]) (cs := []) rfl trivial ?_
                      refine aw_icmp_ne (tgt := 50) eX8_takeSign_43 (by decide) (by omega) (by omega) (fun h42 => ?_) (fun h42 => ?_)
                      · first
                        | (exfalso; omega; done)
                        | (refine aw_blk oX8_takeSign_50 (pc' := 51) (ls' := [_, _, _]) (st' := [_, _, _]) (cs := []) rfl trivial ?_
                           refine aw_blk oX8_takeSign_51 (pc' := 129) (ls' := [_, _, _]) (st' := []) (cs := [(_, _), (_, _)]) rfl (⟨⟨by omega, by omega⟩, ⟨by omega, by omega⟩, trivial⟩) ?_
                           refine aw_vret eX8_takeSign_129 rfl (Nat.le_refl _) (Nat.le_refl _) ?_
                           exact pe_v rfl rfl)
                      · first
                        | (exfalso; omega; done)
                        | (refine aw_blk oX8_takeSign_46 (pc' := 51) (ls' := [_, _, _]) (st' := [_, _, _]) (cs := []) rfl trivial ?_
                           refine aw_blk oX8_takeSign_51 (pc' := 129) (ls' := [_, _, _]) (st' := []) (cs := [(_, _), (_, _)]) rfl (⟨⟨by omega, by omega⟩, ⟨by omega, by omega⟩, trivial⟩) ?_
                           refine aw_vret eX8_takeSign_129 rfl (Nat.le_refl _) (Nat.le_refl _) ?_
                           exact pe_v rfl rfl)))
            · first
              | (exfalso; omega; done)
              | (refine aw_blk oX8_takeSign_4 (pc' := 129) (ls' := [_, _, _]) (st' := []) (cs := [(_, _), (_, _)]) rfl (⟨⟨by omega, by omega⟩, ⟨by omega, by omega⟩, trivial⟩) ?_
                 refine aw_vret eX8_takeSign_129 rfl (Nat.le_refl _) (Nat.le_refl _) ?_
                 exact pe_v rfl rfl)
theorem ad_keep {μ : MM} {st s : Int} (hc : 0 ≤ μ 17 6 ∧ μ 17 6 ≤ 6) : (ad μ st s) 17 1 = μ 17 1 ∧ 0 ≤ (ad μ st s) 17 6 ∧ (ad μ st s) 17 6 ≤ 6 ∧ ∀ c, c ∉ [17, 19, 20, 21, 22] → (ad μ st s) c = μ c := by
  have key : ∀ (c : Nat) (i v : Int), c ∈ [17, 19, 20, 21, 22] → SR [17, 19, 20, 21, 22] μ (up μ c i v) := fun c i v h => SR.rf.put h
  unfold ad tk
  split
  · refine ⟨?_, ?_, ?_, key _ _ _ (by decide)⟩ <;> rw [up_ne (Or.inr (by decide))] <;> omega
  · split
    · split
      · refine ⟨?_, ?_, ?_, (SR.rf.put (by decide)).put (by decide)⟩ <;> rw [up_c (by decide), up_c (by decide)] <;> omega
      · split
        · refine ⟨?_, ?_, ?_, key _ _ _ (by decide)⟩ <;> rw [up_c (by decide)] <;> omega
        · split
          · refine ⟨?_, ?_, ?_, key _ _ _ (by decide)⟩ <;> rw [up_c (by decide)] <;> omega
          · split
            · refine ⟨?_, ?_, ?_, key _ _ _ (by decide)⟩
              · rw [up_ne (Or.inr (by decide))]
              · rw [up_at]; omega
              · rw [up_at]; omega
            · split
              · refine ⟨?_, ?_, ?_, key _ _ _ (by decide)⟩ <;> rw [up_c (by decide)] <;> omega
              · exact ⟨rfl, hc.1, hc.2, fun _ _ => rfl⟩
    · exact ⟨rfl, hc.1, hc.2, fun _ _ => rfl⟩
theorem l_adopt {κ : KX} {ν : ML} {sg : Int → Int} {N : Int} (hN : 0 ≤ N ∧ N ≤ 40) (hsg : ∀ i : Int, 0 ≤ i → i < 40 → 0 ≤ sg i ∧ sg i ≤ 126) (n : Nat) : ∀ (st i : Int) (μ : MM), μ 18 = sg → μ 17 1 = N → 0 ≤ μ 17 6 ∧ μ 17 6 ≤ 6 → 0 ≤ i → i + n = N → 0 ≤ st → st ≤ 8 → ff sg N n i st = -6 → AX κ mX8_adopt 2 (PE none (up (adL sg n i st μ) 17 1 0) ν) 9 [aR 17, aI st, aI i] [] μ ν := by
  induction n with
  | zero =>
    intro st i μ e18 e1 hc h0 hn hs0 hs1 hf
    refine aw_blk oX8_adopt_9 (pc' := 14) (ls' := [_, _, _]) (st' := [_, _]) (cs := []) rfl trivial ?_
    refine aw_icmp_ge (tgt := 86) eX8_adopt_14 (by decide) (by omega) (by omega) (fun h1 => ?_) (fun h1 => ?_)
    · refine aw_blk oX8_adopt_86 (pc' := 91) (ls' := [_, _, _]) (st' := []) (cs := []) rfl trivial ?_
      refine aw_vret eX8_adopt_91 rfl (Nat.le_refl _) (Nat.le_refl _) ?_
      exact pe_v rfl rfl
    · exfalso; omega
  | succ n ih =>
    intro st i μ e18 e1 hc h0 hn hs0 hs1 hf
    have g := hsg i (by omega) (by omega)
    have g18 : μ 18 i = sg i := by rw [e18]
    have hb := af_bd st (sg i)
    have hne : af st (sg i) ≠ 9 := fun e => by
      rw [ff, if_pos e] at hf
      omega
    rw [ff, if_neg hne] at hf
    have K := ad_keep (μ := μ) (st := st) (s := sg i) hc
    have T := ih (af st (sg i)) (i + 1) (ad μ st (sg i)) (by rw [K.2.2.2 18 (by decide)]; exact e18) (by rw [K.1]; exact e1) ⟨K.2.1, K.2.2.1⟩ (by omega) (by omega) (by omega) (by omega) hf
    have E69 : ∀ μ1 : MM, μ1 = ad μ st (sg i) → AX κ mX8_adopt 2 (PE none (up (adL sg (n + 1) i st μ) 17 1 0) ν) 69 [aR 17, aI st, aI i] [] μ1 ν := fun μ1 e => by
      have g1 : μ1 18 i = sg i := by rw [e, K.2.2.2 18 (by decide), e18]
      refine aw_blk oX8_adopt_69 (pc' := 76) (ls' := [_, _, _]) (st' := [_, _]) (cs := [(_, _)]) rfl (⟨⟨by omega, by omega⟩, trivial⟩) ?_
      refine aw_ciS (rest := []) (c_X8_after (by omega) (by omega)) kX8_after eX8_adopt_76 lX8_adopt_76 rfl rfl (Nat.le_of_ble_eq_true rfl) ⟨Nat.le_of_ble_eq_true rfl, Nat.le_of_ble_eq_true rfl⟩ ⟨Nat.le_refl _, Nat.le_refl _⟩ ?_
      refine aw_blk oX8_adopt_79 (pc' := 9) (ls' := [_, _, _]) (st' := []) (cs := []) rfl trivial ?_
      rw [g1, e]
      exact T
    have E49 : ¬ (st = 0 ∧ 48 ≤ sg i ∧ sg i ≤ 50) → AX κ mX8_adopt 2 (PE none (up (adL sg (n + 1) i st μ) 17 1 0) ν) 49 [aR 17, aI st, aI i] [] μ ν := fun e => by
      refine aw_blk oX8_adopt_49 (pc' := 55) (ls' := [_, _, _]) (st' := [_, _]) (cs := []) rfl trivial ?_
      refine aw_icmp_ge (tgt := 69) eX8_adopt_55 (by decide) (by omega) (by omega) (fun h2 => ?_) (fun h2 => ?_)
      · refine E69 μ ?_
        unfold ad
        rw [if_neg e, if_neg (by omega)]
      · refine aw_blk oX8_adopt_58 (pc' := 66) (ls' := [_, _, _]) (st' := [_, _, _]) (cs := [(_, _)]) rfl (⟨⟨by omega, by omega⟩, trivial⟩) ?_
        refine aw_cvV (rest := []) (c_takeSign (by omega) (by omega) (by omega)) kX8_takeSign eX8_adopt_66 lX8_adopt_66 rfl rfl rfl rfl (Nat.le_of_ble_eq_true rfl) ⟨Nat.le_of_ble_eq_true rfl, Nat.le_of_ble_eq_true rfl⟩ ⟨Nat.le_refl _, Nat.le_refl _⟩ ?_
        rw [g18]
        refine E69 _ ?_
        unfold ad
        rw [if_neg e, if_pos (by omega)]
    refine aw_blk oX8_adopt_9 (pc' := 14) (ls' := [_, _, _]) (st' := [_, _]) (cs := []) rfl trivial ?_
    refine aw_icmp_ge (tgt := 86) eX8_adopt_14 (by decide) (by omega) (by omega) (fun h1 => ?_) (fun h1 => ?_)
    · exfalso; omega
    · refine aw_blk oX8_adopt_17 (pc' := 18) (ls' := [_, _, _]) (st' := [_]) (cs := []) rfl trivial ?_
      refine aw_if_ne (tgt := 49) eX8_adopt_18 (by decide) (by omega) (fun h2 => ?_) (fun h2 => ?_)
      · exact E49 (by omega)
      · refine aw_blk oX8_adopt_21 (pc' := 27) (ls' := [_, _, _]) (st' := [_]) (cs := [(_, _)]) rfl (⟨⟨by omega, by omega⟩, trivial⟩) ?_
        refine aw_ciS (rest := []) (c_X8_isSize (by omega)) kX8_isSize eX8_adopt_27 lX8_adopt_27 rfl rfl (Nat.le_of_ble_eq_true rfl) ⟨Nat.le_of_ble_eq_true rfl, Nat.le_of_ble_eq_true rfl⟩ ⟨Nat.le_refl _, Nat.le_refl _⟩ ?_
        refine aw_if_eq (tgt := 49) eX8_adopt_30 (by decide) bt_r (fun hh => have h3 := bt0 hh; ?_) (fun hh => have h3 := bt1 hh; ?_)
        · exact E49 (by omega)
        · refine aw_blk oX8_adopt_33 (pc' := 69) (ls' := [_, _, _]) (st' := []) (cs := [(_, _)]) rfl (⟨⟨by omega, by omega⟩, trivial⟩) ?_
          refine E69 _ ?_
          unfold ad
          rw [if_pos ⟨h2, by omega, by omega⟩, g18]
theorem c_adopt {κ : KX} {μ : MM} {ν : ML} (h : RU μ) (hf : ff (μ 18) (μ 17 1) (μ 17 1).toNat 0 0 = -6) : AE κ 2 mX8_adopt [aR 17] μ ν none (up (adL (μ 18) (μ 17 1).toNat 0 0 (up μ 17 6 0)) 17 1 0) ν := by
  obtain ⟨a, b⟩ := id h
  have T := l_adopt (κ := κ) (ν := ν) (sg := μ 18) (N := μ 17 1) (by omega) (fun i h0 h1 => (b i h0 h1).2) (μ 17 1).toNat 0 0 (up μ 17 6 0) rfl rfl ⟨(by decide : (0 : Int) ≤ 0), (by decide : (0 : Int) ≤ 6)⟩ (by omega) (by omega) (by omega) (by omega) hf
  refine AMet.of kX8_adopt.1 (Nat.le_of_ble_eq_true rfl) rfl ?_
  refine aw_blk oX8_adopt_0 (pc' := 9) (ls' := [_, _, _]) (st' := []) (cs := []) rfl trivial ?_
  exact T
/-! the text that was adopted -/
def val (sg : Int → Int) (p d : Int) : Int := if d = 1 then sg (p + 2) - 48 else if d = 2 then 10 * (sg (p + 2) - 48) + sg (p + 3) - 48 else 10 * (10 * (sg (p + 2) - 48) + sg (p + 3) - 48) + sg (p + 4) - 48
def fct (s : Int) : Prop := s = 98 ∨ s = 108 ∨ s = 115 ∨ s = 107
/-- the begin of a clause: fact, sign, d digits -/
def CB (sg : Int → Int) (μ : MM) (c p d : Int) : Prop := fct (sg p) ∧ μ 19 c = sg p ∧ (sg (p + 1) = 60 ∨ sg (p + 1) = 62) ∧ μ 20 c = (if sg (p + 1) = 60 then 1 else 0) ∧ (∀ x : Int, p + 2 ≤ x → x < p + 2 + d → 48 ≤ sg x ∧ sg x ≤ 57) ∧ μ 21 c = val sg p d
def CL (sg : Int → Int) (μ : MM) (c p q : Int) : Prop := ∃ d : Int, 1 ≤ d ∧ d ≤ 3 ∧ q = p + d + 5 ∧ CB sg μ c p d ∧ sg (p + 2 + d) = 58 ∧ 48 ≤ sg (p + 3 + d) ∧ sg (p + 3 + d) ≤ 50 ∧ μ 22 c = sg (p + 3 + d) - 48
def CH (sg : Int → Int) (μ : MM) : Nat → Int → Prop
  | 0, p => p = 0
  | c + 1, q => ∃ p, CH sg μ c p ∧ CL sg μ (c : Int) p q
theorem CH.ge {sg : Int → Int} {μ : MM} : ∀ (c : Nat) (p : Int), CH sg μ c p → 6 * (c : Int) ≤ p
  | 0, p, h => by
    have : p = 0 := h
    omega
  | c + 1, q, h => by
    obtain ⟨p, h1, d, h2, h3, h4, -⟩ := h
    have := CH.ge c p h1
    omega
/-- the four rows agree at c -/
def AG (μ μ' : MM) (c : Int) : Prop := μ' 19 c = μ 19 c ∧ μ' 20 c = μ 20 c ∧ μ' 21 c = μ 21 c ∧ μ' 22 c = μ 22 c
theorem val_1 {sg : Int → Int} {p : Int} : val sg p 1 = sg (p + 2) - 48 := rfl
theorem val_2 {sg : Int → Int} {p : Int} : val sg p 2 = 10 * (sg (p + 2) - 48) + sg (p + 3) - 48 := rfl
theorem val_3 {sg : Int → Int} {p : Int} : val sg p 3 = 10 * (10 * (sg (p + 2) - 48) + sg (p + 3) - 48) + sg (p + 4) - 48 := rfl
theorem val_congr {sg sg' : Int → Int} {p d : Int} (hd : 1 ≤ d ∧ d ≤ 3) (e : ∀ x : Int, p ≤ x → x < p + 2 + d → sg' x = sg x) : val sg' p d = val sg p d := by
  rcases (show d = 1 ∨ d = 2 ∨ d = 3 by omega) with rfl | rfl | rfl
  · rw [val_1, val_1, e (p + 2) (by omega) (by omega)]
  · rw [val_2, val_2, e (p + 2) (by omega) (by omega), e (p + 3) (by omega) (by omega)]
  · rw [val_3, val_3, e (p + 2) (by omega) (by omega), e (p + 3) (by omega) (by omega), e (p + 4) (by omega) (by omega)]
theorem CL.congr {sg sg' : Int → Int} {μ μ' : MM} {c p q : Int} (h : CL sg μ c p q) (hm : AG μ μ' c) (e : ∀ x : Int, p ≤ x → x < q → sg' x = sg x) : CL sg' μ' c p q := by
  obtain ⟨d, h1, h2, h3, ⟨b1, b2, b3, b4, b5, b6⟩, h5, h6, h7, h8⟩ := h
  obtain ⟨m1, m2, m3, m4⟩ := hm
  refine ⟨d, h1, h2, h3, ⟨?_, ?_, ?_, ?_, ?_, ?_⟩, ?_, ?_, ?_, ?_⟩
  · rw [e p (by omega) (by omega)]; exact b1
  · rw [e p (by omega) (by omega), m1]; exact b2
  · rw [e (p + 1) (by omega) (by omega)]; exact b3
  · rw [e (p + 1) (by omega) (by omega), m2]; exact b4
  · intro x hx0 hx1
    rw [e x (by omega) (by omega)]
    exact b5 x hx0 hx1
  · rw [m3, val_congr ⟨h1, h2⟩ (fun x hx0 hx1 => e x hx0 (by omega))]; exact b6
  · rw [e (p + 2 + d) (by omega) (by omega)]; exact h5
  · rw [e (p + 3 + d) (by omega) (by omega)]; exact h6
  · rw [e (p + 3 + d) (by omega) (by omega)]; exact h7
  · rw [e (p + 3 + d) (by omega) (by omega), m4]; exact h8
theorem CH.congr {sg sg' : Int → Int} {μ μ' : MM} : ∀ (c : Nat) (p : Int), CH sg μ c p → (∀ i : Nat, i < c → AG μ μ' i) → (∀ x : Int, 0 ≤ x → x < p → sg' x = sg x) → CH sg' μ' c p
  | 0, _, h, _, _ => h
  | c + 1, q, h, hm, e => by
    obtain ⟨p, h1, h2⟩ := h
    have hp := CH.ge c p h1
    have hq : p < q := by
      obtain ⟨d, h3, h4, h5, -⟩ := h2
      omega
    exact ⟨p, CH.congr c p h1 (fun i hi => hm i (by omega)) (fun x hx0 hx1 => e x hx0 (by omega)), h2.congr (hm c (by omega)) (fun x hx0 hx1 => e x (by omega) hx1)⟩
theorem CH.pos {sg : Int → Int} {μ : MM} : ∀ (c : Nat) (p : Int), CH sg μ c p → ∃ pos : Nat → Int, pos 0 = 0 ∧ (∀ i : Nat, i < c → CL sg μ (i : Int) (pos i) (pos (i + 1))) ∧ pos c = p
  | 0, p, h => ⟨fun _ => 0, rfl, fun i hi => absurd hi (by omega), h.symm⟩
  | c + 1, q, h => by
    obtain ⟨p, h1, h2⟩ := h
    obtain ⟨pos, e0, e1, e2⟩ := CH.pos c p h1
    refine ⟨fun i => if i = c + 1 then q else pos i, ?_, ?_, ?_⟩
    · show (if 0 = c + 1 then q else pos 0) = 0
      rw [if_neg (by omega)]; exact e0
    · intro i hi
      show CL sg μ (i : Int) (if i = c + 1 then q else pos i) (if i + 1 = c + 1 then q else pos (i + 1))
      rw [if_neg (by omega)]
      by_cases e : i = c
      · rw [if_pos (by omega), e, e2]; exact h2
      · rw [if_neg (by omega)]; exact e1 i (by omega)
    · show (if c + 1 = c + 1 then q else pos (c + 1)) = q
      rw [if_pos rfl]
/-! the state of adopting -/
def PT (sg : Int → Int) (μ : MM) (c st p i : Int) : Prop :=
  (st = 0 ∧ i = p) ∨
  (c < 6 ∧ ((st = 1 ∧ i = p + 1 ∧ fct (sg p) ∧ μ 19 c = sg p ∧ μ 21 c = 0) ∨
    (st = 2 ∧ i = p + 2 ∧ fct (sg p) ∧ μ 19 c = sg p ∧ μ 21 c = 0 ∧ (sg (p + 1) = 60 ∨ sg (p + 1) = 62) ∧ μ 20 c = (if sg (p + 1) = 60 then 1 else 0)) ∨
    (3 ≤ st ∧ st ≤ 5 ∧ i = p + st ∧ CB sg μ c p (st - 2)) ∨
    (∃ d : Int, 1 ≤ d ∧ d ≤ 3 ∧ st = 6 ∧ i = p + 3 + d ∧ CB sg μ c p d ∧ sg (p + 2 + d) = 58) ∨
    (∃ d : Int, 1 ≤ d ∧ d ≤ 3 ∧ st = 7 ∧ i = p + 4 + d ∧ CB sg μ c p d ∧ sg (p + 2 + d) = 58 ∧ 48 ≤ sg (p + 3 + d) ∧ sg (p + 3 + d) ≤ 50 ∧ μ 22 c = sg (p + 3 + d) - 48))) ∨
  (st = 8 ∧ i = p + 1 ∧ 48 ≤ sg p ∧ sg p ≤ 50 ∧ μ 17 7 = sg p - 48) ∨
  (c = 6 ∧ 1 ≤ st ∧ st ≤ 6 ∧ (st ≤ 4 → p + st ≤ i) ∧ (4 ≤ st → p + 4 ≤ i))
def INV (sg : Int → Int) (μ : MM) (st i : Int) : Prop := ∃ (c : Nat) (p : Int), μ 17 6 = (c : Int) ∧ c ≤ 6 ∧ CH sg μ c p ∧ PT sg μ (c : Int) st p i
theorem ad_n {μ : MM} {st s : Int} (h : ¬ (st = 0 ∧ 48 ≤ s ∧ s ≤ 50)) (hc : μ 17 6 < 6) : ad μ st s = tk μ st s := by
  unfold ad
  rw [if_neg h, if_pos hc]
theorem ad_6 {μ : MM} {st s : Int} (h : ¬ (st = 0 ∧ 48 ≤ s ∧ s ≤ 50)) (hc : ¬ μ 17 6 < 6) : ad μ st s = μ := by
  unfold ad
  rw [if_neg h, if_neg hc]
theorem AG.oth {μ : MM} {c : Int} {a : Nat} {i v : Int} (h : i ≠ c) : AG μ (up μ a i v) c := ⟨up_ne (Or.inr (fun e => h e.symm)), up_ne (Or.inr (fun e => h e.symm)), up_ne (Or.inr (fun e => h e.symm)), up_ne (Or.inr (fun e => h e.symm))⟩
theorem AG.far {μ : MM} {c : Int} {a : Nat} {i v : Int} (h1 : 19 ≠ a) (h2 : 20 ≠ a) (h3 : 21 ≠ a) (h4 : 22 ≠ a) : AG μ (up μ a i v) c := ⟨up_c h1, up_c h2, up_c h3, up_c h4⟩
theorem AG.trans {μ μ' μ'' : MM} {c : Int} (h : AG μ μ' c) (h2 : AG μ' μ'' c) : AG μ μ'' c := ⟨h2.1.trans h.1, h2.2.1.trans h.2.1, h2.2.2.1.trans h.2.2.1, h2.2.2.2.trans h.2.2.2⟩
theorem AG.rf {μ : MM} {c : Int} : AG μ μ c := ⟨rfl, rfl, rfl, rfl⟩
theorem CH.m {sg : Int → Int} {μ μ' : MM} {c : Nat} {p : Int} (h : CH sg μ c p) (hm : ∀ i : Nat, i < c → AG μ μ' i) : CH sg μ' c p := CH.congr c p h hm (fun _ _ _ => rfl)
theorem inv_step {sg : Int → Int} {μ : MM} {st i : Int} (h : INV sg μ st i) (h0 : 0 ≤ i) (h1 : i < 40) (hne : af st (sg i) ≠ 9) : INV sg (ad μ st (sg i)) (af st (sg i)) (i + 1) := by
  obtain ⟨c, p, e6, hc, ch, pt⟩ := h
  have hp := CH.ge c p ch
  rcases pt with ⟨rfl, rfl⟩ | ⟨hc6, pt⟩ | ⟨rfl, -⟩ | ⟨l1, l2, l3, l4, l5⟩
  · -- 0
    rw [af_0] at hne ⊢
    by_cases f : sg i = 98 ∨ sg i = 108 ∨ sg i = 115 ∨ sg i = 107
    · rw [if_pos f]
      by_cases k : (c : Int) < 6
      · rw [ad_n (by omega) (by omega)]
        have e : tk μ 0 (sg i) = up (up μ 19 (c : Int) (sg i)) 21 (c : Int) 0 := by unfold tk; rw [if_pos rfl, e6]
        rw [e]
        refine ⟨c, i, e6, hc, ch.m (fun j hj => (AG.oth (by omega)).trans (AG.oth (by omega))), Or.inr (Or.inl ⟨k, Or.inl ⟨rfl, rfl, f, ?_, up_at⟩⟩)⟩
        rw [up_c (by decide), up_at]
      · rw [ad_6 (by omega) (by omega)]
        exact ⟨c, i, e6, hc, ch, Or.inr (Or.inr (Or.inr ⟨by omega, by omega, by omega, by omega, by omega⟩))⟩
    · rw [if_neg f] at hne ⊢
      by_cases z : 48 ≤ sg i ∧ sg i ≤ 50
      · rw [if_pos z]
        have e : ad μ 0 (sg i) = up μ 17 7 (sg i - 48) := by unfold ad; rw [if_pos ⟨rfl, z⟩]
        rw [e]
        exact ⟨c, i, e6, hc, ch.m (fun j hj => AG.far (by decide) (by decide) (by decide) (by decide)), Or.inr (Or.inr (Or.inl ⟨rfl, rfl, z.1, z.2, up_at⟩))⟩
      · rw [if_neg z] at hne
        exact absurd rfl hne
  · rcases pt with ⟨rfl, rfl, f, m19, m21⟩ | ⟨rfl, rfl, f, m19, m21, k, m20⟩ | ⟨s3, s5, rfl, cb⟩ | ⟨d, d1, d3, rfl, rfl, cb, colon⟩ | ⟨d, d1, d3, rfl, rfl, cb, colon, z1, z2, m22⟩
    · -- 1
      rw [af_1] at hne ⊢
      by_cases k : sg (p + 1) = 60 ∨ sg (p + 1) = 62
      · rw [if_pos k, ad_n (by omega) (by omega)]
        have e : tk μ 1 (sg (p + 1)) = up μ 20 (c : Int) (if sg (p + 1) = 60 then 1 else 0) := by unfold tk; rw [if_neg (by decide), if_pos rfl, e6]
        rw [e]
        refine ⟨c, p, e6, hc, ch.m (fun j hj => AG.oth (by omega)), Or.inr (Or.inl ⟨hc6, Or.inr (Or.inl ⟨rfl, by omega, f, ?_, ?_, k, up_at⟩)⟩)⟩
        · rw [up_c (by decide)]; exact m19
        · rw [up_c (by decide)]; exact m21
      · rw [if_neg k] at hne
        exact absurd rfl hne
    · -- 2
      rw [af_2] at hne ⊢
      by_cases z : 48 ≤ sg (p + 2) ∧ sg (p + 2) ≤ 57
      · rw [if_pos z, ad_n (by omega) (by omega)]
        have e : tk μ 2 (sg (p + 2)) = up μ 21 (c : Int) (0 * 10 + sg (p + 2) - 48) := by
          unfold tk
          rw [if_neg (by decide), if_neg (by decide), if_neg (by decide), if_neg (by decide), if_pos z, e6, m21]
        rw [e]
        refine ⟨c, p, e6, hc, ch.m (fun j hj => AG.oth (by omega)), Or.inr (Or.inl ⟨hc6, Or.inr (Or.inr (Or.inl ⟨by omega, by omega, by omega, f, ?_, k, ?_, ?_, ?_⟩))⟩)⟩
        · rw [up_c (by decide)]; exact m19
        · rw [up_c (by decide)]; exact m20
        · intro x hx0 hx1
          rw [show x = p + 2 by omega]; exact z
        · rw [up_at]
          show _ = val sg p 1
          rw [val_1]; omega
      · rw [if_neg z] at hne
        exact absurd rfl hne
    · -- 3, 4, 5
      obtain ⟨b1, b2, b3, b4, b5, b6⟩ := id cb
      have six : sg (p + st) = 58 → INV sg μ 6 (p + st + 1) := fun e => ⟨c, p, e6, hc, ch, Or.inr (Or.inl ⟨hc6, Or.inr (Or.inr (Or.inr (Or.inl ⟨st - 2, by omega, by omega, rfl, by omega, cb, by rw [show p + 2 + (st - 2) = p + st by omega]; exact e⟩)))⟩)⟩
      have adc : sg (p + st) = 58 → ad μ st (sg (p + st)) = μ := fun e => by
        rw [ad_n (by omega) (by omega)]
        unfold tk
        rw [if_neg (by omega), if_neg (by omega), if_neg (by omega), if_neg (by omega), if_neg (by omega)]
      have dig : st ≤ 4 → 48 ≤ sg (p + st) ∧ sg (p + st) ≤ 57 → INV sg (ad μ st (sg (p + st))) (st + 1) (p + st + 1) := fun h4 z => by
        rw [ad_n (by omega) (by omega)]
        have e : tk μ st (sg (p + st)) = up μ 21 (c : Int) (val sg p (st - 2) * 10 + sg (p + st) - 48) := by
          unfold tk
          rw [if_neg (by omega), if_neg (by omega), if_neg (by omega), if_neg (by omega), if_pos z, e6, b6]
        rw [e]
        refine ⟨c, p, e6, hc, ch.m (fun j hj => AG.oth (by omega)), Or.inr (Or.inl ⟨hc6, Or.inr (Or.inr (Or.inl ⟨by omega, by omega, by omega, b1, ?_, b3, ?_, ?_, ?_⟩))⟩)⟩
        · rw [up_c (by decide)]; exact b2
        · rw [up_c (by decide)]; exact b4
        · intro x hx0 hx1
          by_cases hx : x = p + st
          · rw [hx]; exact z
          · exact b5 x hx0 (by omega)
        · rw [up_at]
          rcases (show st = 3 ∨ st = 4 by omega) with rfl | rfl
          · show val sg p 1 * 10 + _ - 48 = val sg p 2
            rw [val_1, val_2]; omega
          · show val sg p 2 * 10 + _ - 48 = val sg p 3
            rw [val_2, val_3]; omega
      rcases (show st = 3 ∨ st = 4 ∨ st = 5 by omega) with rfl | rfl | rfl
      · rw [af_3] at hne ⊢
        by_cases z : 48 ≤ sg (p + 3) ∧ sg (p + 3) ≤ 57
        · rw [if_pos z]; exact dig (by omega) z
        · rw [if_neg z] at hne ⊢
          by_cases k : sg (p + 3) = 58
          · rw [if_pos k, adc k]; exact six k
          · rw [if_neg k] at hne; exact absurd rfl hne
      · rw [af_4] at hne ⊢
        by_cases z : 48 ≤ sg (p + 4) ∧ sg (p + 4) ≤ 57
        · rw [if_pos z]; exact dig (by omega) z
        · rw [if_neg z] at hne ⊢
          by_cases k : sg (p + 4) = 58
          · rw [if_pos k, adc k]; exact six k
          · rw [if_neg k] at hne; exact absurd rfl hne
      · rw [af_5] at hne ⊢
        by_cases k : sg (p + 5) = 58
        · rw [if_pos k, adc k]; exact six k
        · rw [if_neg k] at hne; exact absurd rfl hne
    · -- 6
      rw [af_6] at hne ⊢
      by_cases z : 48 ≤ sg (p + 3 + d) ∧ sg (p + 3 + d) ≤ 50
      · rw [if_pos z, ad_n (by omega) (by omega)]
        have e : tk μ 6 (sg (p + 3 + d)) = up μ 22 (c : Int) (sg (p + 3 + d) - 48) := by unfold tk; rw [if_neg (by decide), if_neg (by decide), if_pos rfl, e6]
        rw [e]
        obtain ⟨b1, b2, b3, b4, b5, b6⟩ := cb
        refine ⟨c, p, e6, hc, ch.m (fun j hj => AG.oth (by omega)), Or.inr (Or.inl ⟨hc6, Or.inr (Or.inr (Or.inr (Or.inr ⟨d, d1, d3, rfl, by omega, ⟨b1, ?_, b3, ?_, b5, ?_⟩, colon, z.1, z.2, up_at⟩)))⟩)⟩
        · rw [up_c (by decide)]; exact b2
        · rw [up_c (by decide)]; exact b4
        · rw [up_c (by decide)]; exact b6
      · rw [if_neg z] at hne
        exact absurd rfl hne
    · -- 7
      rw [af_7] at hne ⊢
      by_cases z : sg (p + 4 + d) = 59
      · rw [if_pos z, ad_n (by omega) (by omega)]
        have e : tk μ 7 (sg (p + 4 + d)) = up μ 17 6 ((c : Int) + 1) := by unfold tk; rw [if_neg (by decide), if_neg (by decide), if_neg (by decide), if_pos rfl, e6]
        rw [e]
        refine ⟨c + 1, p + d + 5, ?_, by omega, ⟨p, ch.m (fun j hj => AG.far (by decide) (by decide) (by decide) (by decide)), CL.congr ⟨d, d1, d3, rfl, cb, colon, z1, z2, m22⟩ (AG.far (by decide) (by decide) (by decide) (by decide)) (fun _ _ _ => rfl)⟩, Or.inl ⟨rfl, by omega⟩⟩
        rw [up_at]; omega
      · rw [if_neg z] at hne
        exact absurd rfl hne
  · -- 8
    exact absurd (af_8 _) hne
  · -- lost
    rw [ad_6 (by omega) (by omega)]
    refine ⟨c, p, e6, hc, ch, Or.inr (Or.inr (Or.inr ?_))⟩
    rcases (show st = 1 ∨ st = 2 ∨ st = 3 ∨ st = 4 ∨ st = 5 ∨ st = 6 by omega) with rfl | rfl | rfl | rfl | rfl | rfl
    · rw [af_1] at hne ⊢
      split at hne
      · rename_i k; rw [if_pos k]; omega
      · exact absurd rfl hne
    · rw [af_2] at hne ⊢
      split at hne
      · rename_i k; rw [if_pos k]; omega
      · exact absurd rfl hne
    · rw [af_3] at hne ⊢
      split at hne
      · rename_i k; rw [if_pos k]; omega
      · rename_i k; rw [if_neg k]
        split at hne
        · rename_i k2; rw [if_pos k2]; omega
        · exact absurd rfl hne
    · omega
    · omega
    · omega
theorem adL_inv {sg : Int → Int} {N : Int} (hN : N ≤ 40) : ∀ (n : Nat) (i st : Int) (μ : MM), INV sg μ st i → 0 ≤ i → i + n = N → ff sg N n i st = -6 → INV sg (adL sg n i st μ) 8 N
  | 0, i, st, μ, h, h0, hn, hf => by
    rw [ff] at hf
    split at hf
    · rename_i e
      rw [adL, ← e, show N = i by omega]
      exact h
    · omega
  | n + 1, i, st, μ, h, h0, hn, hf => by
    have hne : af st (sg i) ≠ 9 := fun e => by
      rw [ff, if_pos e] at hf
      omega
    rw [ff, if_neg hne] at hf
    exact adL_inv hN n (i + 1) _ _ (inv_step h h0 (by omega) hne) (by omega) (by omega) hf
theorem adL_keep {sg : Int → Int} : ∀ (n : Nat) (i st : Int) (μ : MM), (0 ≤ μ 17 6 ∧ μ 17 6 ≤ 6) → SR [17, 19, 20, 21, 22] μ (adL sg n i st μ)
  | 0, _, _, _, _ => fun _ _ => rfl
  | n + 1, i, st, μ, h => by
    have K := ad_keep (μ := μ) (st := st) (s := sg i) h
    intro c hc
    rw [adL, adL_keep n (i + 1) _ _ ⟨K.2.1, K.2.2.1⟩ c hc, K.2.2.2 c hc]

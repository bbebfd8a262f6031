/-! ===== RIGHTS ===== -/
def LawN (Rl : MM → ML → Prop) (cs : List Nat) (κ : KX) (cx cm : MX) (As : List AV) (μ : MM) (ν : ML) : Prop := ∃ z μ1 ν1 μ2, AE κ 60 cx (aR 0 :: As) μ ν (some (aI z)) μ1 ν1 ∧ AE κ 60 cm (aR 55 :: As) μ1 ν1 (some (aI z)) μ2 ν1 ∧ R32 z ∧ Rl μ2 ν1 ∧ SR cs μ μ2
def rgt (μ : MM) (r : Int) : Prop := μ 67 (5 * r) = μ 39 r ∧ μ 67 (5 * r + 1) = μ 40 r ∧ μ 67 (5 * r + 2) = μ 41 r ∧ μ 67 (5 * r + 3) = μ 42 r ∧ μ 67 (5 * r + 4) = μ 43 r ∧ R32 (μ 39 r) ∧ R32 (μ 40 r) ∧ R32 (μ 41 r) ∧ R32 (μ 42 r) ∧ 0 ≤ μ 43 r ∧ μ 43 r ≤ 20
def RR (μ : MM) (ν : ML) : Prop := (0 ≤ μ 38 5 ∧ μ 38 5 ≤ 12 ∧ μ 55 16 = μ 38 5) ∧ (∀ r : Int, 0 ≤ r → r < 12 → rgt μ r) ∧ PR 44 68 8 0 3 μ ∧ PR 46 70 48 0 20 μ ∧ (∀ i : Int, 0 ≤ i → i < 48 → n64 (ν 45 i) < 2 ^ 60 ∧ ∀ t : Int, 0 ≤ t → t < 60 → μ 69 (60 * i + t) = tb (n64 (ν 45 i)) t)
abbrev csR : List Nat := [38, 39, 40, 41, 42, 43, 44, 46, 67, 68, 69, 70]
/-- where the end has to be told in more words -/
def LawX (Rl : MM → ML → Prop) (κ : KX) (cx cm : MX) (As : List AV) (μ : MM) (ν : ML) : Prop := ∃ z μ1 ν1 μ2, AE κ 60 cx (aR 0 :: As) μ ν (some (aI z)) μ1 ν1 ∧ AE κ 60 cm (aR 55 :: As) μ1 ν1 (some (aI z)) μ2 ν1 ∧ R32 z ∧ Rl μ2 ν1
/-- the reference's own fields: all but those of J stay -/
def SF (J : List Int) (μ μ' : MM) : Prop := ∀ j : Int, j ∉ J → μ' 55 j = μ 55 j
def anyR (p : Int → Bool) : Nat → Int → Bool
  | 0, _ => false
  | n + 1, i => p i || anyR p n (i + 1)
theorem anyR_eq {p q : Int → Bool} : ∀ (n : Nat) (i : Int), (∀ k : Int, i ≤ k → k < i + n → p k = q k) → anyR p n i = anyR q n i
  | 0, _, _ => rfl
  | n + 1, i, h => by
    simp only [anyR]
    rw [h i (by omega) (by omega), anyR_eq n (i + 1) (fun k h1 h2 => h k (by omega) (by omega))]
def pA (μ : MM) (s f h i : Int) : Bool := decide (μ 39 i = f ∧ μ 40 i = μ 44 s ∧ μ 41 i ≤ h ∧ h ≤ μ 42 i ∧ μ 46 (s * 6 + f) < μ 43 i)
def pM (μ : MM) (s f h i : Int) : Bool := decide (μ 67 (5 * i) = f ∧ μ 67 (5 * i + 1) = μ 68 s ∧ μ 67 (5 * i + 2) ≤ h ∧ h ≤ μ 67 (5 * i + 3) ∧ μ 70 (6 * s + f) < μ 67 (5 * i + 4))
theorem pA_eq {μ : MM} {ν : ML} (h : RR μ ν) {s f hr : Int} (hs : 0 ≤ s ∧ s < 8) (hf : 0 ≤ f ∧ f < 6) (i : Int) (h0 : 0 ≤ i) (h1 : i < 12) : pM μ s f hr i = pA μ s f hr i := by
  obtain ⟨c, r, l, t, q⟩ := h
  obtain ⟨a1, a2, a3, a4, a5, -⟩ := r i h0 h1
  unfold pM pA
  rw [a1, a2, a3, a4, a5, (l s hs.1 hs.2).1, show 6 * s + f = s * 6 + f by omega, (t (s * 6 + f) (by omega) (by omega)).1]
theorem c_timesSeen {κ : KX} {μ : MM} {ν : ML} {s f : Int} (hs : 0 ≤ s ∧ s < 8) (hf : 0 ≤ f ∧ f < 6) : AE κ 0 mX7_timesSeen [aR 38, aI s, aI f] μ ν (some (aI (μ 46 (s * 6 + f)))) μ ν := by
  refine AMet.of kX7_timesSeen.1 (Nat.le_of_ble_eq_true rfl) rfl ?_
  refine aw_blk oX7_timesSeen_0 (pc' := 11) (ls' := [_, _, _]) (st' := [_]) (cs := [(_, _)]) rfl (⟨⟨by omega, by omega⟩, trivial⟩) ?_
  refine aw_iret eX7_timesSeen_11 rfl (Nat.le_refl _) (Nat.le_refl _) ?_
  exact pe_i rfl rfl rfl
theorem c_secondsSeen {κ : KX} {μ : MM} {ν : ML} {s f : Int} (hs : 0 ≤ s ∧ s < 8) (hf : 0 ≤ f ∧ f < 6) : AE κ 1 mX7_secondsSeen [aR 38, aI s, aI f] μ ν (some (aI (lbc (ν 45 (s * 6 + f))))) μ ν := by
  refine AMet.of kX7_secondsSeen.1 (Nat.le_of_ble_eq_true rfl) rfl ?_
  refine aw_blk oX7_secondsSeen_0 (pc' := 11) (ls' := [_, _, _]) (st' := [_]) (cs := [(_, _)]) rfl (⟨⟨by omega, by omega⟩, trivial⟩) ?_
  refine aw_ciS (rest := []) (c_lbc) kJ13_bitCount eX7_secondsSeen_11 lX7_secondsSeen_11 rfl rfl (Nat.le_of_ble_eq_true rfl) ⟨Nat.le_of_ble_eq_true rfl, Nat.le_of_ble_eq_true rfl⟩ ⟨Nat.le_refl _, Nat.le_refl _⟩ ?_
  refine aw_iret eX7_secondsSeen_14 rfl (Nat.le_refl _) (Nat.le_refl _) ?_
  exact pe_i rfl rfl rfl
theorem c_changeLand {κ : KX} {μ : MM} {ν : ML} {t v : Int} (ht : 0 ≤ t ∧ t < 8) : AE κ 0 mX7_changeLand [aR 38, aI t, aI v] μ ν (some (aI (μ 44 t))) (up μ 44 t v) ν := by
  refine AMet.of kX7_changeLand.1 (Nat.le_of_ble_eq_true rfl) rfl ?_
  refine aw_blk oX7_changeLand_0 (pc' := 15) (ls' := [_, _, _, _]) (st' := [_]) (cs := [(_, _), (_, _)]) rfl (⟨⟨by omega, by omega⟩, ⟨by omega, by omega⟩, trivial⟩) ?_
  refine aw_iret eX7_changeLand_15 rfl (Nat.le_refl _) (Nat.le_refl _) ?_
  exact pe_i rfl rfl rfl
theorem l_allow {κ : KX} {μ : MM} {ν : ML} {s f hr : Int} (h : RR μ ν) (hs : 0 ≤ s ∧ s < 8) (hf : 0 ≤ f ∧ f < 6) (hh : 0 ≤ hr ∧ hr ≤ 999) (n : Nat) : ∀ (i : Int) (u5 : AV), 0 ≤ i → i + n = μ 38 5 → AX κ mX7_allow 1 (PE (some (aI (if anyR (pA μ s f hr) n i = true then 1 else 0))) μ ν) 3 [aR 38, aI s, aI f, aI hr, aI i, u5] [] μ ν := by
  obtain ⟨c, r, l, t, q⟩ := id h
  have g1 := l s hs.1 hs.2
  have g2 := t (s * 6 + f) (by omega) (by omega)
  induction n with
  | zero =>
    intro i u5 h0 hn
    refine aw_blk oX7_allow_3 (pc' := 9) (ls' := [_, _, _, _, _, _]) (st' := [_, _]) (cs := []) rfl trivial ?_
    refine aw_icmp_ge (tgt := 97) eX7_allow_9 (by decide) (by omega) (by omega) (fun h1 => ?_) (fun h1 => ?_)
    · refine aw_blk oX7_allow_97 (pc' := 98) (ls' := [_, _, _, _, _, _]) (st' := [_]) (cs := []) rfl trivial ?_
      refine aw_zret eX7_allow_98 rfl (by omega) (Nat.le_refl _) (Nat.le_refl _) ?_
      exact pe_i rfl rfl rfl
    · exfalso; omega
  | succ n ih =>
    intro i u5 h0 hn
    obtain ⟨-, -, -, -, -, b1, b2, b3, b4, b5⟩ := r i h0 (by omega)
    have T := fun u => ih (i + 1) u (by omega) (by omega)
    have no : pA μ s f hr i = false → anyR (pA μ s f hr) (n + 1) i = anyR (pA μ s f hr) n (i + 1) := fun e => by simp only [anyR, e, Bool.false_or]
    have yes : pA μ s f hr i = true → anyR (pA μ s f hr) (n + 1) i = true := fun e => by simp only [anyR, e, Bool.true_or]
    refine aw_blk oX7_allow_3 (pc' := 9) (ls' := [_, _, _, _, _, _]) (st' := [_, _]) (cs := []) rfl trivial ?_
    refine aw_icmp_ge (tgt := 97) eX7_allow_9 (by decide) (by omega) (by omega) (fun h1 => ?_) (fun h1 => ?_)
    · first
      | (exfalso; omega; done)
      | (refine aw_blk oX7_allow_97 (pc' := 98) (ls' := [_, _, _, _, _, _]) (st' := [_]) (cs := []) rfl trivial ?_
         refine aw_zret eX7_allow_98 rfl (by omega) (Nat.le_refl _) (Nat.le_refl _) ?_
         exact pe_i (by rw [if_pos (yes (decide_eq_true ⟨by omega, by omega, by omega, by omega, by omega⟩))]) rfl rfl)
    · first
      | (exfalso; omega; done)
      | (refine aw_blk oX7_allow_12 (pc' := 20) (ls' := [_, _, _, _, _, _]) (st' := [_, _]) (cs := [(_, _)]) rfl (⟨⟨by omega, by omega⟩, trivial⟩) ?_
         refine aw_icmp_ne (tgt := 43) eX7_allow_20 (by decide) (by omega) (by omega) (fun h2 => ?_) (fun h2 => ?_)
         · first
           | (exfalso; omega; done)
           | (refine aw_blk oX7_allow_43 (pc' := 44) (ls' := [_, _, _, _, _, _]) (st' := [_]) (cs := []) rfl trivial ?_
              refine aw_blk oX7_allow_44 (pc' := 48) (ls' := [_, _, _, _, _, _]) (st' := [_]) (cs := []) rfl trivial ?_
              refine aw_if_eq (tgt := 91) eX7_allow_48 (by decide) (by omega) (fun h3 => ?_) (fun h3 => ?_)
              · first
                | (exfalso; omega; done)
                | (refine aw_blk oX7_allow_91 (pc' := 3) (ls' := [_, _, _, _, _, _]) (st' := []) (cs := []) rfl trivial ?_
                   rw [no (decide_eq_false (fun q => by omega))]
                   exact T _)
              · first
                | (exfalso; omega; done)
                | (refine aw_blk oX7_allow_51 (pc' := 59) (ls' := [_, _, _, _, _, _]) (st' := [_, _]) (cs := [(_, _)]) rfl (⟨⟨by omega, by omega⟩, trivial⟩) ?_
                   refine aw_icmp_lt (tgt := 91) eX7_allow_59 (by decide) (by omega) (by omega) (fun h4 => ?_) (fun h4 => ?_)
                   · first
                     | (exfalso; omega; done)
                     | (refine aw_blk oX7_allow_91 (pc' := 3) (ls' := [_, _, _, _, _, _]) (st' := []) (cs := []) rfl trivial ?_
                        rw [no (decide_eq_false (fun q => by omega))]
                        exact T _)
                   · first
                     | (exfalso; omega; done)
                     | (refine aw_blk oX7_allow_62 (pc' := 70) (ls' := [_, _, _, _, _, _]) (st' := [_, _]) (cs := [(_, _)]) rfl (⟨⟨by omega, by omega⟩, trivial⟩) ?_
                        refine aw_icmp_gt (tgt := 91) eX7_allow_70 (by decide) (by omega) (by omega) (fun h5 => ?_) (fun h5 => ?_)
                        · first
                          | (exfalso; omega; done)
                          | (refine aw_blk oX7_allow_91 (pc' := 3) (ls' := [_, _, _, _, _, _]) (st' := []) (cs := []) rfl trivial ?_
                             rw [no (decide_eq_false (fun q => by omega))]
                             exact T _)
                        · first
                          | (exfalso; omega; done)
                          | (refine aw_blk oX7_allow_73 (pc' := 76) (ls' := [_, _, _, _, _, _]) (st' := [_, _, _]) (cs := []) rfl trivial ?_
                             refine aw_ciV (rest := []) (c_timesSeen (by omega) (by omega)) kX7_timesSeen eX7_allow_76 lX7_allow_76 rfl rfl rfl rfl (Nat.le_of_ble_eq_true rfl) ⟨Nat.le_of_ble_eq_true rfl, Nat.le_of_ble_eq_true rfl⟩ ⟨Nat.le_refl _, Nat.le_refl _⟩ ?_
                             refine aw_blk oX7_allow_79 (pc' := 86) (ls' := [_, _, _, _, _, _]) (st' := [_, _]) (cs := [(_, _)]) rfl (⟨⟨by omega, by omega⟩, trivial⟩) ?_
                             refine aw_icmp_ge (tgt := 91) eX7_allow_86 (by decide) (by omega) (by omega) (fun h6 => ?_) (fun h6 => ?_)
                             · first
                               | (exfalso; omega; done)
                               | (refine aw_blk oX7_allow_91 (pc' := 3) (ls' := [_, _, _, _, _, _]) (st' := []) (cs := []) rfl trivial ?_
                                  rw [no (decide_eq_false (fun q => by omega))]
                                  exact T _)
                             · first
                               | (exfalso; omega; done)
                               | (refine aw_blk oX7_allow_89 (pc' := 90) (ls' := [_, _, _, _, _, _]) (st' := [_]) (cs := []) rfl trivial ?_
                                  refine aw_zret eX7_allow_90 rfl (by omega) (Nat.le_refl _) (Nat.le_refl _) ?_
                                  exact pe_i (by rw [if_pos (yes (decide_eq_true ⟨by omega, by omega, by omega, by omega, by omega⟩))]) rfl rfl)))))
         · first
           | (exfalso; omega; done)
           | (refine aw_blk oX7_allow_23 (pc' := 36) (ls' := [_, _, _, _, _, _]) (st' := [_, _]) (cs := [(_, _), (_, _)]) rfl (⟨⟨by omega, by omega⟩, ⟨by omega, by omega⟩, trivial⟩) ?_
              refine aw_icmp_ne (tgt := 43) eX7_allow_36 (by decide) (by omega) (by omega) (fun h7 => ?_) (fun h7 => ?_)
              · first
                | (exfalso; omega; done)
                | (refine aw_blk oX7_allow_43 (pc' := 44) (ls' := [_, _, _, _, _, _]) (st' := [_]) (cs := []) rfl trivial ?_
                   refine aw_blk oX7_allow_44 (pc' := 48) (ls' := [_, _, _, _, _, _]) (st' := [_]) (cs := []) rfl trivial ?_
                   refine aw_if_eq (tgt := 91) eX7_allow_48 (by decide) (by omega) (fun h8 => ?_) (fun h8 => ?_)
                   · first
                     | (exfalso; omega; done)
                     | (refine aw_blk oX7_allow_91 (pc' := 3) (ls' := [_, _, _, _, _, _]) (st' := []) (cs := []) rfl trivial ?_
                        rw [no (decide_eq_false (fun q => by omega))]
                        exact T _)
                   · first
                     | (exfalso; omega; done)
                     | (refine aw_blk oX7_allow_51 (pc' := 59) (ls' := [_, _, _, _, _, _]) (st' := [_, _]) (cs := [(_, _)]) rfl (⟨⟨by omega, by omega⟩, trivial⟩) ?_
                        refine aw_icmp_lt (tgt := 91) eX7_allow_59 (by decide) (by omega) (by omega) (fun h9 => ?_) (fun h9 => ?_)
                        · first
                          | (exfalso; omega; done)
                          | (refine aw_blk oX7_allow_91 (pc' := 3) (ls' := [_, _, _, _, _, _]) (st' := []) (cs := []) rfl trivial ?_
                             rw [no (decide_eq_false (fun q => by omega))]
                             exact T _)
                        · first
                          | (exfalso; omega; done)
                          | (refine aw_blk oX7_allow_62 (pc' := 70) (ls' := [_, _, _, _, _, _]) (st' := [_, _]) (cs := [(_, _)]) rfl (⟨⟨by omega, by omega⟩, trivial⟩) ?_
                             refine aw_icmp_gt (tgt := 91) eX7_allow_70 (by decide) (by omega) (by omega) (fun h10 => ?_) (fun h10 => ?_)
                             · first
                               | (exfalso; omega; done)
                               | (refine aw_blk oX7_allow_91 (pc' := 3) (ls' := [_, _, _, _, _, _]) (st' := []) (cs := []) rfl trivial ?_
                                  rw [no (decide_eq_false (fun q => by omega))]
                                  exact T _)
                             · first
                               | (exfalso; omega; done)
                               | (refine aw_blk oX7_allow_73 (pc' := 76) (ls' := [_, _, _, _, _, _]) (st' := [_, _, _]) (cs := []) rfl trivial ?_
                                  refine aw_ciV (rest := []) (c_timesSeen (by omega) (by omega)) kX7_timesSeen eX7_allow_76 lX7_allow_76 rfl rfl rfl rfl (Nat.le_of_ble_eq_true rfl) ⟨Nat.le_of_ble_eq_true rfl, Nat.le_of_ble_eq_true rfl⟩ ⟨Nat.le_refl _, Nat.le_refl _⟩ ?_
                                  refine aw_blk oX7_allow_79 (pc' := 86) (ls' := [_, _, _, _, _, _]) (st' := [_, _]) (cs := [(_, _)]) rfl (⟨⟨by omega, by omega⟩, trivial⟩) ?_
                                  refine aw_icmp_ge (tgt := 91) eX7_allow_86 (by decide) (by omega) (by omega) (fun h11 => ?_) (fun h11 => ?_)
                                  · first
                                    | (exfalso; omega; done)
                                    | (refine aw_blk oX7_allow_91 (pc' := 3) (ls' := [_, _, _, _, _, _]) (st' := []) (cs := []) rfl trivial ?_
                                       rw [no (decide_eq_false (fun q => by omega))]
                                       exact T _)
                                  · first
                                    | (exfalso; omega; done)
                                    | (refine aw_blk oX7_allow_89 (pc' := 90) (ls' := [_, _, _, _, _, _]) (st' := [_]) (cs := []) rfl trivial ?_
                                       refine aw_zret eX7_allow_90 rfl (by omega) (Nat.le_refl _) (Nat.le_refl _) ?_
                                       exact pe_i (by rw [if_pos (yes (decide_eq_true ⟨by omega, by omega, by omega, by omega, by omega⟩))]) rfl rfl)))))
              · first
                | (exfalso; omega; done)
                | (refine aw_blk oX7_allow_39 (pc' := 44) (ls' := [_, _, _, _, _, _]) (st' := [_]) (cs := []) rfl trivial ?_
                   refine aw_blk oX7_allow_44 (pc' := 48) (ls' := [_, _, _, _, _, _]) (st' := [_]) (cs := []) rfl trivial ?_
                   refine aw_if_eq (tgt := 91) eX7_allow_48 (by decide) (by omega) (fun h12 => ?_) (fun h12 => ?_)
                   · first
                     | (exfalso; omega; done)
                     | (refine aw_blk oX7_allow_91 (pc' := 3) (ls' := [_, _, _, _, _, _]) (st' := []) (cs := []) rfl trivial ?_
                        rw [no (decide_eq_false (fun q => by omega))]
                        exact T _)
                   · first
                     | (exfalso; omega; done)
                     | (refine aw_blk oX7_allow_51 (pc' := 59) (ls' := [_, _, _, _, _, _]) (st' := [_, _]) (cs := [(_, _)]) rfl (⟨⟨by omega, by omega⟩, trivial⟩) ?_
                        refine aw_icmp_lt (tgt := 91) eX7_allow_59 (by decide) (by omega) (by omega) (fun h13 => ?_) (fun h13 => ?_)
                        · first
                          | (exfalso; omega; done)
                          | (refine aw_blk oX7_allow_91 (pc' := 3) (ls' := [_, _, _, _, _, _]) (st' := []) (cs := []) rfl trivial ?_
                             rw [no (decide_eq_false (fun q => by omega))]
                             exact T _)
                        · first
                          | (exfalso; omega; done)
                          | (refine aw_blk oX7_allow_62 (pc' := 70) (ls' := [_, _, _, _, _, _]) (st' := [_, _]) (cs := [(_, _)]) rfl (⟨⟨by omega, by omega⟩, trivial⟩) ?_
                             refine aw_icmp_gt (tgt := 91) eX7_allow_70 (by decide) (by omega) (by omega) (fun h14 => ?_) (fun h14 => ?_)
                             · first
                               | (exfalso; omega; done)
                               | (refine aw_blk oX7_allow_91 (pc' := 3) (ls' := [_, _, _, _, _, _]) (st' := []) (cs := []) rfl trivial ?_
                                  rw [no (decide_eq_false (fun q => by omega))]
                                  exact T _)
                             · first
                               | (exfalso; omega; done)
                               | (refine aw_blk oX7_allow_73 (pc' := 76) (ls' := [_, _, _, _, _, _]) (st' := [_, _, _]) (cs := []) rfl trivial ?_
                                  refine aw_ciV (rest := []) (c_timesSeen (by omega) (by omega)) kX7_timesSeen eX7_allow_76 lX7_allow_76 rfl rfl rfl rfl (Nat.le_of_ble_eq_true rfl) ⟨Nat.le_of_ble_eq_true rfl, Nat.le_of_ble_eq_true rfl⟩ ⟨Nat.le_refl _, Nat.le_refl _⟩ ?_
                                  refine aw_blk oX7_allow_79 (pc' := 86) (ls' := [_, _, _, _, _, _]) (st' := [_, _]) (cs := [(_, _)]) rfl (⟨⟨by omega, by omega⟩, trivial⟩) ?_
                                  refine aw_icmp_ge (tgt := 91) eX7_allow_86 (by decide) (by omega) (by omega) (fun h15 => ?_) (fun h15 => ?_)
                                  · first
                                    | (exfalso; omega; done)
                                    | (refine aw_blk oX7_allow_91 (pc' := 3) (ls' := [_, _, _, _, _, _]) (st' := []) (cs := []) rfl trivial ?_
                                       rw [no (decide_eq_false (fun q => by omega))]
                                       exact T _)
                                  · first
                                    | (exfalso; omega; done)
                                    | (refine aw_blk oX7_allow_89 (pc' := 90) (ls' := [_, _, _, _, _, _]) (st' := [_]) (cs := []) rfl trivial ?_
                                       refine aw_zret eX7_allow_90 rfl (by omega) (Nat.le_refl _) (Nat.le_refl _) ?_
                                       exact pe_i (by rw [if_pos (yes (decide_eq_true ⟨by omega, by omega, by omega, by omega, by omega⟩))]) rfl rfl)))))))
theorem c_allow {κ : KX} {μ : MM} {ν : ML} {s f hr : Int} (h : RR μ ν) (hs : 0 ≤ s ∧ s < 8) (hf : 0 ≤ f ∧ f < 6) (hh : 0 ≤ hr ∧ hr ≤ 999) : AE κ 1 mX7_allow [aR 38, aI s, aI f, aI hr] μ ν (some (aI (if anyR (pA μ s f hr) (μ 38 5).toNat 0 = true then 1 else 0))) μ ν := by
  refine AMet.of kX7_allow.1 (Nat.le_of_ble_eq_true rfl) rfl ?_
  refine aw_blk oX7_allow_0 (pc' := 3) (ls' := [_, _, _, _, _, _]) (st' := []) (cs := []) rfl trivial ?_
  exact l_allow h hs hf hh (μ 38 5).toNat 0 _ (by omega) (by have := h.1; omega)
theorem l_mayIt {κ : KX} {μ : MM} {ν : ML} {s f hr : Int} (c : 0 ≤ μ 55 16 ∧ μ 55 16 ≤ 12) (r : ∀ j : Int, 0 ≤ j → j < 60 → R32 (μ 67 j)) (g1 : R32 (μ 68 s)) (g2 : R32 (μ 70 (6 * s + f))) (hs : 0 ≤ s ∧ s < 8) (hf : 0 ≤ f ∧ f < 6) (hh : 0 ≤ hr ∧ hr ≤ 999) (n : Nat) : ∀ (i may : Int) (u6 u7 : AV), 0 ≤ i → i + n = μ 55 16 → may = 0 ∨ may = 1 → AX κ mX12_mayIt 1 (PE (some (aI (if may = 1 ∨ anyR (pM μ s f hr) n i = true then 1 else 0))) μ ν) 6 [aR 55, aI s, aI f, aI hr, aI may, aI i, u6, u7] [] μ ν := by
  induction n with
  | zero =>
    intro i may u6 u7 h0 hn hmay
    refine aw_blk oX12_mayIt_6 (pc' := 12) (ls' := [_, _, _, _, _, _, _, _]) (st' := [_, _]) (cs := []) rfl trivial ?_
    refine aw_icmp_ge (tgt := 128) eX12_mayIt_12 (by decide) (by omega) (by omega) (fun h1 => ?_) (fun h1 => ?_)
    · refine aw_blk oX12_mayIt_128 (pc' := 130) (ls' := [_, _, _, _, _, _, _, _]) (st' := [_]) (cs := []) rfl trivial ?_
      refine aw_zret eX12_mayIt_130 rfl (by omega) (Nat.le_refl _) (Nat.le_refl _) ?_
      exact pe_i (by simp only [anyR, Bool.false_eq_true, or_false]; split <;> omega) rfl rfl
    · exfalso; omega
  | succ n ih =>
    intro i may u6 u7 h0 hn hmay
    have b1 := r (5 * i) (by omega) (by omega)
    have b2 := r (5 * i + 1) (by omega) (by omega)
    have b3 := r (5 * i + 2) (by omega) (by omega)
    have b4 := r (5 * i + 3) (by omega) (by omega)
    have b5 := r (5 * i + 4) (by omega) (by omega)
    have no : pM μ s f hr i = false → (may = 1 ∨ anyR (pM μ s f hr) (n + 1) i = true ↔ may = 1 ∨ anyR (pM μ s f hr) n (i + 1) = true) := fun e => by simp only [anyR, e, Bool.false_or]
    have yes : (may = 1 ∨ pM μ s f hr i = true) → ((may = 1 ∨ anyR (pM μ s f hr) (n + 1) i = true) ↔ ((1 : Int) = 1 ∨ anyR (pM μ s f hr) n (i + 1) = true)) := fun e => by
      constructor
      · intro _; exact Or.inl rfl
      · intro _
        rcases e with e | e
        · exact Or.inl e
        · right; simp only [anyR, e, Bool.true_or]
    have Y : (may = 1 ∨ pM μ s f hr i = true) → ∀ u6 u7 : AV, AX κ mX12_mayIt 1 (PE (some (aI (if may = 1 ∨ anyR (pM μ s f hr) (n + 1) i = true then 1 else 0))) μ ν) 6 [aR 55, aI s, aI f, aI hr, aI 1, aI (i + 1), u6, u7] [] μ ν := fun e u6 u7 => by
      have T := ih (i + 1) 1 u6 u7 (by omega) (by omega) (Or.inr rfl)
      rw [if_pos (Or.inl rfl)] at T
      rw [if_pos ((yes e).mpr (Or.inl rfl))]
      exact T
    have N : may = 0 → pM μ s f hr i = false → ∀ u6 u7 : AV, AX κ mX12_mayIt 1 (PE (some (aI (if may = 1 ∨ anyR (pM μ s f hr) (n + 1) i = true then 1 else 0))) μ ν) 6 [aR 55, aI s, aI f, aI hr, aI 0, aI (i + 1), u6, u7] [] μ ν := fun e0 e u6 u7 => by
      have T := ih (i + 1) may u6 u7 (by omega) (by omega) hmay
      simp only [← no e] at T
      subst e0
      exact T
    refine aw_blk oX12_mayIt_6 (pc' := 12) (ls' := [_, _, _, _, _, _, _, _]) (st' := [_, _]) (cs := []) rfl trivial ?_
    refine aw_icmp_ge (tgt := 128) eX12_mayIt_12 (by decide) (by omega) (by omega) (fun h16 => ?_) (fun h16 => ?_)
    · first
      | (exfalso; omega; done)
      | (refine aw_blk oX12_mayIt_128 (pc' := 130) (ls' := [_, _, _, _, _, _, _, _]) (st' := [_]) (cs := []) rfl trivial ?_
         refine aw_zret eX12_mayIt_130 rfl (by omega) (Nat.le_refl _) (Nat.le_refl _) ?_
         skip)
    · first
      | (exfalso; omega; done)
      | (refine aw_blk oX12_mayIt_15 (pc' := 29) (ls' := [_, _, _, _, _, _, _, _]) (st' := [_, _]) (cs := [(_, _)]) rfl (⟨⟨by omega, by omega⟩, trivial⟩) ?_
         refine aw_icmp_ne (tgt := 79) eX12_mayIt_29 (by decide) (by omega) (by omega) (fun h17 => ?_) (fun h17 => ?_)
         · first
           | (exfalso; omega; done)
           | (refine aw_blk oX12_mayIt_79 (pc' := 80) (ls' := [_, _, _, _, _, _, _, _]) (st' := [_]) (cs := []) rfl trivial ?_
              refine aw_blk oX12_mayIt_80 (pc' := 84) (ls' := [_, _, _, _, _, _, _, _]) (st' := [_]) (cs := []) rfl trivial ?_
              refine aw_if_ne (tgt := 115) eX12_mayIt_84 (by decide) (by omega) (fun h18 => ?_) (fun h18 => ?_)
              · first
                | (exfalso; omega; done)
                | (refine aw_blk oX12_mayIt_115 (pc' := 120) (ls' := [_, _, _, _, _, _, _, _]) (st' := [_]) (cs := []) rfl trivial ?_
                   refine aw_blk oX12_mayIt_120 (pc' := 6) (ls' := [_, _, _, _, _, _, _, _]) (st' := []) (cs := []) rfl trivial ?_
                   first | exact Y (Or.inl (by omega)) _ _ | exact Y (Or.inr (decide_eq_true ⟨by omega, by omega, by omega, by omega, by omega⟩)) _ _ | exact N (by omega) (decide_eq_false (fun q => by omega)) _ _)
              · first
                | (exfalso; omega; done)
                | (refine aw_blk oX12_mayIt_87 (pc' := 89) (ls' := [_, _, _, _, _, _, _, _]) (st' := [_]) (cs := []) rfl trivial ?_
                   refine aw_if_eq (tgt := 119) eX12_mayIt_89 (by decide) (by omega) (fun h19 => ?_) (fun h19 => ?_)
                   · first
                     | (exfalso; omega; done)
                     | (refine aw_blk oX12_mayIt_119 (pc' := 120) (ls' := [_, _, _, _, _, _, _, _]) (st' := [_]) (cs := []) rfl trivial ?_
                        refine aw_blk oX12_mayIt_120 (pc' := 6) (ls' := [_, _, _, _, _, _, _, _]) (st' := []) (cs := []) rfl trivial ?_
                        first | exact Y (Or.inl (by omega)) _ _ | exact Y (Or.inr (decide_eq_true ⟨by omega, by omega, by omega, by omega, by omega⟩)) _ _ | exact N (by omega) (decide_eq_false (fun q => by omega)) _ _)
                   · first
                     | (exfalso; omega; done)
                     | (refine aw_blk oX12_mayIt_92 (pc' := 112) (ls' := [_, _, _, _, _, _, _, _]) (st' := [_, _]) (cs := [(_, _), (_, _)]) rfl (⟨⟨by omega, by omega⟩, ⟨by omega, by omega⟩, trivial⟩) ?_
                        refine aw_icmp_ge (tgt := 119) eX12_mayIt_112 (by decide) (by omega) (by omega) (fun h20 => ?_) (fun h20 => ?_)
                        · first
                          | (exfalso; omega; done)
                          | (refine aw_blk oX12_mayIt_119 (pc' := 120) (ls' := [_, _, _, _, _, _, _, _]) (st' := [_]) (cs := []) rfl trivial ?_
                             refine aw_blk oX12_mayIt_120 (pc' := 6) (ls' := [_, _, _, _, _, _, _, _]) (st' := []) (cs := []) rfl trivial ?_
                             first | exact Y (Or.inl (by omega)) _ _ | exact Y (Or.inr (decide_eq_true ⟨by omega, by omega, by omega, by omega, by omega⟩)) _ _ | exact N (by omega) (decide_eq_false (fun q => by omega)) _ _)
                        · first
                          | (exfalso; omega; done)
                          | (refine aw_blk oX12_mayIt_115 (pc' := 120) (ls' := [_, _, _, _, _, _, _, _]) (st' := [_]) (cs := []) rfl trivial ?_
                             refine aw_blk oX12_mayIt_120 (pc' := 6) (ls' := [_, _, _, _, _, _, _, _]) (st' := []) (cs := []) rfl trivial ?_
                             first | exact Y (Or.inl (by omega)) _ _ | exact Y (Or.inr (decide_eq_true ⟨by omega, by omega, by omega, by omega, by omega⟩)) _ _ | exact N (by omega) (decide_eq_false (fun q => by omega)) _ _))))
         · first
           | (exfalso; omega; done)
           | (refine aw_blk oX12_mayIt_32 (pc' := 47) (ls' := [_, _, _, _, _, _, _, _]) (st' := [_, _]) (cs := [(_, _), (_, _)]) rfl (⟨⟨by omega, by omega⟩, ⟨by omega, by omega⟩, trivial⟩) ?_
              refine aw_icmp_ne (tgt := 79) eX12_mayIt_47 (by decide) (by omega) (by omega) (fun h21 => ?_) (fun h21 => ?_)
              · first
                | (exfalso; omega; done)
                | (refine aw_blk oX12_mayIt_79 (pc' := 80) (ls' := [_, _, _, _, _, _, _, _]) (st' := [_]) (cs := []) rfl trivial ?_
                   refine aw_blk oX12_mayIt_80 (pc' := 84) (ls' := [_, _, _, _, _, _, _, _]) (st' := [_]) (cs := []) rfl trivial ?_
                   refine aw_if_ne (tgt := 115) eX12_mayIt_84 (by decide) (by omega) (fun h22 => ?_) (fun h22 => ?_)
                   · first
                     | (exfalso; omega; done)
                     | (refine aw_blk oX12_mayIt_115 (pc' := 120) (ls' := [_, _, _, _, _, _, _, _]) (st' := [_]) (cs := []) rfl trivial ?_
                        refine aw_blk oX12_mayIt_120 (pc' := 6) (ls' := [_, _, _, _, _, _, _, _]) (st' := []) (cs := []) rfl trivial ?_
                        first | exact Y (Or.inl (by omega)) _ _ | exact Y (Or.inr (decide_eq_true ⟨by omega, by omega, by omega, by omega, by omega⟩)) _ _ | exact N (by omega) (decide_eq_false (fun q => by omega)) _ _)
                   · first
                     | (exfalso; omega; done)
                     | (refine aw_blk oX12_mayIt_87 (pc' := 89) (ls' := [_, _, _, _, _, _, _, _]) (st' := [_]) (cs := []) rfl trivial ?_
                        refine aw_if_eq (tgt := 119) eX12_mayIt_89 (by decide) (by omega) (fun h23 => ?_) (fun h23 => ?_)
                        · first
                          | (exfalso; omega; done)
                          | (refine aw_blk oX12_mayIt_119 (pc' := 120) (ls' := [_, _, _, _, _, _, _, _]) (st' := [_]) (cs := []) rfl trivial ?_
                             refine aw_blk oX12_mayIt_120 (pc' := 6) (ls' := [_, _, _, _, _, _, _, _]) (st' := []) (cs := []) rfl trivial ?_
                             first | exact Y (Or.inl (by omega)) _ _ | exact Y (Or.inr (decide_eq_true ⟨by omega, by omega, by omega, by omega, by omega⟩)) _ _ | exact N (by omega) (decide_eq_false (fun q => by omega)) _ _)
                        · first
                          | (exfalso; omega; done)
                          | (refine aw_blk oX12_mayIt_92 (pc' := 112) (ls' := [_, _, _, _, _, _, _, _]) (st' := [_, _]) (cs := [(_, _), (_, _)]) rfl (⟨⟨by omega, by omega⟩, ⟨by omega, by omega⟩, trivial⟩) ?_
                             refine aw_icmp_ge (tgt := 119) eX12_mayIt_112 (by decide) (by omega) (by omega) (fun h24 => ?_) (fun h24 => ?_)
                             · first
                               | (exfalso; omega; done)
                               | (refine aw_blk oX12_mayIt_119 (pc' := 120) (ls' := [_, _, _, _, _, _, _, _]) (st' := [_]) (cs := []) rfl trivial ?_
                                  refine aw_blk oX12_mayIt_120 (pc' := 6) (ls' := [_, _, _, _, _, _, _, _]) (st' := []) (cs := []) rfl trivial ?_
                                  first | exact Y (Or.inl (by omega)) _ _ | exact Y (Or.inr (decide_eq_true ⟨by omega, by omega, by omega, by omega, by omega⟩)) _ _ | exact N (by omega) (decide_eq_false (fun q => by omega)) _ _)
                             · first
                               | (exfalso; omega; done)
                               | (refine aw_blk oX12_mayIt_115 (pc' := 120) (ls' := [_, _, _, _, _, _, _, _]) (st' := [_]) (cs := []) rfl trivial ?_
                                  refine aw_blk oX12_mayIt_120 (pc' := 6) (ls' := [_, _, _, _, _, _, _, _]) (st' := []) (cs := []) rfl trivial ?_
                                  first | exact Y (Or.inl (by omega)) _ _ | exact Y (Or.inr (decide_eq_true ⟨by omega, by omega, by omega, by omega, by omega⟩)) _ _ | exact N (by omega) (decide_eq_false (fun q => by omega)) _ _))))
              · first
                | (exfalso; omega; done)
                | (refine aw_blk oX12_mayIt_50 (pc' := 69) (ls' := [_, _, _, _, _, _, _, _]) (st' := [_, _, _]) (cs := [(_, _), (_, _)]) rfl (⟨⟨by omega, by omega⟩, ⟨by omega, by omega⟩, trivial⟩) ?_
                   refine aw_ciS (rest := []) (c_X12_in (by omega) (by omega) (by omega)) kX12_in eX12_mayIt_69 lX12_mayIt_69 rfl rfl (Nat.le_of_ble_eq_true rfl) ⟨Nat.le_of_ble_eq_true rfl, Nat.le_of_ble_eq_true rfl⟩ ⟨Nat.le_refl _, Nat.le_refl _⟩ ?_
                   refine aw_if_eq (tgt := 79) eX12_mayIt_72 (by decide) bt_r (fun hh => have h25 := bt0 hh; ?_) (fun hh => have h25 := bt1 hh; ?_)
                   · first
                     | (exfalso; omega; done)
                     | (refine aw_blk oX12_mayIt_79 (pc' := 80) (ls' := [_, _, _, _, _, _, _, _]) (st' := [_]) (cs := []) rfl trivial ?_
                        refine aw_blk oX12_mayIt_80 (pc' := 84) (ls' := [_, _, _, _, _, _, _, _]) (st' := [_]) (cs := []) rfl trivial ?_
                        refine aw_if_ne (tgt := 115) eX12_mayIt_84 (by decide) (by omega) (fun h26 => ?_) (fun h26 => ?_)
                        · first
                          | (exfalso; omega; done)
                          | (refine aw_blk oX12_mayIt_115 (pc' := 120) (ls' := [_, _, _, _, _, _, _, _]) (st' := [_]) (cs := []) rfl trivial ?_
                             refine aw_blk oX12_mayIt_120 (pc' := 6) (ls' := [_, _, _, _, _, _, _, _]) (st' := []) (cs := []) rfl trivial ?_
                             first | exact Y (Or.inl (by omega)) _ _ | exact Y (Or.inr (decide_eq_true ⟨by omega, by omega, by omega, by omega, by omega⟩)) _ _ | exact N (by omega) (decide_eq_false (fun q => by omega)) _ _)
                        · first
                          | (exfalso; omega; done)
                          | (refine aw_blk oX12_mayIt_87 (pc' := 89) (ls' := [_, _, _, _, _, _, _, _]) (st' := [_]) (cs := []) rfl trivial ?_
                             refine aw_if_eq (tgt := 119) eX12_mayIt_89 (by decide) (by omega) (fun h27 => ?_) (fun h27 => ?_)
                             · first
                               | (exfalso; omega; done)
                               | (refine aw_blk oX12_mayIt_119 (pc' := 120) (ls' := [_, _, _, _, _, _, _, _]) (st' := [_]) (cs := []) rfl trivial ?_
                                  refine aw_blk oX12_mayIt_120 (pc' := 6) (ls' := [_, _, _, _, _, _, _, _]) (st' := []) (cs := []) rfl trivial ?_
                                  first | exact Y (Or.inl (by omega)) _ _ | exact Y (Or.inr (decide_eq_true ⟨by omega, by omega, by omega, by omega, by omega⟩)) _ _ | exact N (by omega) (decide_eq_false (fun q => by omega)) _ _)
                             · first
                               | (exfalso; omega; done)
                               | (refine aw_blk oX12_mayIt_92 (pc' := 112) (ls' := [_, _, _, _, _, _, _, _]) (st' := [_, _]) (cs := [(_, _), (_, _)]) rfl (⟨⟨by omega, by omega⟩, ⟨by omega, by omega⟩, trivial⟩) ?_
                                  refine aw_icmp_ge (tgt := 119) eX12_mayIt_112 (by decide) (by omega) (by omega) (fun h28 => ?_) (fun h28 => ?_)
                                  · first
                                    | (exfalso; omega; done)
                                    | (refine aw_blk oX12_mayIt_119 (pc' := 120) (ls' := [_, _, _, _, _, _, _, _]) (st' := [_]) (cs := []) rfl trivial ?_
                                       refine aw_blk oX12_mayIt_120 (pc' := 6) (ls' := [_, _, _, _, _, _, _, _]) (st' := []) (cs := []) rfl trivial ?_
                                       first | exact Y (Or.inl (by omega)) _ _ | exact Y (Or.inr (decide_eq_true ⟨by omega, by omega, by omega, by omega, by omega⟩)) _ _ | exact N (by omega) (decide_eq_false (fun q => by omega)) _ _)
                                  · first
                                    | (exfalso; omega; done)
                                    | (refine aw_blk oX12_mayIt_115 (pc' := 120) (ls' := [_, _, _, _, _, _, _, _]) (st' := [_]) (cs := []) rfl trivial ?_
                                       refine aw_blk oX12_mayIt_120 (pc' := 6) (ls' := [_, _, _, _, _, _, _, _]) (st' := []) (cs := []) rfl trivial ?_
                                       first | exact Y (Or.inl (by omega)) _ _ | exact Y (Or.inr (decide_eq_true ⟨by omega, by omega, by omega, by omega, by omega⟩)) _ _ | exact N (by omega) (decide_eq_false (fun q => by omega)) _ _))))
                   · first
                     | (exfalso; omega; done)
                     | (refine aw_blk oX12_mayIt_75 (pc' := 80) (ls' := [_, _, _, _, _, _, _, _]) (st' := [_]) (cs := []) rfl trivial ?_
                        refine aw_blk oX12_mayIt_80 (pc' := 84) (ls' := [_, _, _, _, _, _, _, _]) (st' := [_]) (cs := []) rfl trivial ?_
                        refine aw_if_ne (tgt := 115) eX12_mayIt_84 (by decide) (by omega) (fun h29 => ?_) (fun h29 => ?_)
                        · first
                          | (exfalso; omega; done)
                          | (refine aw_blk oX12_mayIt_115 (pc' := 120) (ls' := [_, _, _, _, _, _, _, _]) (st' := [_]) (cs := []) rfl trivial ?_
                             refine aw_blk oX12_mayIt_120 (pc' := 6) (ls' := [_, _, _, _, _, _, _, _]) (st' := []) (cs := []) rfl trivial ?_
                             first | exact Y (Or.inl (by omega)) _ _ | exact Y (Or.inr (decide_eq_true ⟨by omega, by omega, by omega, by omega, by omega⟩)) _ _ | exact N (by omega) (decide_eq_false (fun q => by omega)) _ _)
                        · first
                          | (exfalso; omega; done)
                          | (refine aw_blk oX12_mayIt_87 (pc' := 89) (ls' := [_, _, _, _, _, _, _, _]) (st' := [_]) (cs := []) rfl trivial ?_
                             refine aw_if_eq (tgt := 119) eX12_mayIt_89 (by decide) (by omega) (fun h30 => ?_) (fun h30 => ?_)
                             · first
                               | (exfalso; omega; done)
                               | (refine aw_blk oX12_mayIt_119 (pc' := 120) (ls' := [_, _, _, _, _, _, _, _]) (st' := [_]) (cs := []) rfl trivial ?_
                                  refine aw_blk oX12_mayIt_120 (pc' := 6) (ls' := [_, _, _, _, _, _, _, _]) (st' := []) (cs := []) rfl trivial ?_
                                  first | exact Y (Or.inl (by omega)) _ _ | exact Y (Or.inr (decide_eq_true ⟨by omega, by omega, by omega, by omega, by omega⟩)) _ _ | exact N (by omega) (decide_eq_false (fun q => by omega)) _ _)
                             · first
                               | (exfalso; omega; done)
                               | (refine aw_blk oX12_mayIt_92 (pc' := 112) (ls' := [_, _, _, _, _, _, _, _]) (st' := [_, _]) (cs := [(_, _), (_, _)]) rfl (⟨⟨by omega, by omega⟩, ⟨by omega, by omega⟩, trivial⟩) ?_
                                  refine aw_icmp_ge (tgt := 119) eX12_mayIt_112 (by decide) (by omega) (by omega) (fun h31 => ?_) (fun h31 => ?_)
                                  · first
                                    | (exfalso; omega; done)
                                    | (refine aw_blk oX12_mayIt_119 (pc' := 120) (ls' := [_, _, _, _, _, _, _, _]) (st' := [_]) (cs := []) rfl trivial ?_
                                       refine aw_blk oX12_mayIt_120 (pc' := 6) (ls' := [_, _, _, _, _, _, _, _]) (st' := []) (cs := []) rfl trivial ?_
                                       first | exact Y (Or.inl (by omega)) _ _ | exact Y (Or.inr (decide_eq_true ⟨by omega, by omega, by omega, by omega, by omega⟩)) _ _ | exact N (by omega) (decide_eq_false (fun q => by omega)) _ _)
                                  · first
                                    | (exfalso; omega; done)
                                    | (refine aw_blk oX12_mayIt_115 (pc' := 120) (ls' := [_, _, _, _, _, _, _, _]) (st' := [_]) (cs := []) rfl trivial ?_
                                       refine aw_blk oX12_mayIt_120 (pc' := 6) (ls' := [_, _, _, _, _, _, _, _]) (st' := []) (cs := []) rfl trivial ?_
                                       first | exact Y (Or.inl (by omega)) _ _ | exact Y (Or.inr (decide_eq_true ⟨by omega, by omega, by omega, by omega, by omega⟩)) _ _ | exact N (by omega) (decide_eq_false (fun q => by omega)) _ _)))))))
theorem RR.m67 {μ : MM} {ν : ML} (h : RR μ ν) : ∀ j : Int, 0 ≤ j → j < 60 → R32 (μ 67 j) := by
  intro j h0 h1
  have g := h.2.1 (j / 5) (by omega) (by omega)
  unfold rgt at g
  rcases (show j = 5 * (j / 5) ∨ j = 5 * (j / 5) + 1 ∨ j = 5 * (j / 5) + 2 ∨ j = 5 * (j / 5) + 3 ∨ j = 5 * (j / 5) + 4 by omega) with e | e | e | e | e <;> rw [e] <;> omega
theorem c_mayItU {κ : KX} {μ μ' : MM} {ν ν' : ML} {s f hr : Int} (h : RR μ ν) (e55 : μ' 55 = μ 55) (e67 : μ' 67 = μ 67) (e68 : μ' 68 = μ 68) (e70 : μ' 70 = μ 70) (hs : 0 ≤ s ∧ s < 8) (hf : 0 ≤ f ∧ f < 6) (hh : 0 ≤ hr ∧ hr ≤ 999) : AE κ 1 mX12_mayIt [aR 55, aI s, aI f, aI hr] μ' ν' (some (aI (if anyR (pA μ s f hr) (μ 38 5).toNat 0 = true then 1 else 0))) μ' ν' := by
  have e := anyR_eq (p := pM μ s f hr) (q := pA μ s f hr) (μ 38 5).toNat 0 (fun k h1 h2 => pA_eq h hs hf k h1 (by have := h.1; omega))
  have hp : pM μ' s f hr = pM μ s f hr := by funext i; unfold pM; rw [e67, e68, e70]
  have hl := h.2.2.1 s hs.1 hs.2
  have ht := h.2.2.2.1 (s * 6 + f) (by omega) (by omega)
  have hc := h.1
  have T := l_mayIt (κ := κ) (μ := μ') (ν := ν') (s := s) (f := f) (hr := hr) (by rw [e55]; omega) (by rw [e67]; exact h.m67) (by rw [e68]; omega) (by rw [e70, show 6 * s + f = s * 6 + f by omega]; omega) hs hf hh (μ 38 5).toNat 0 0 aU aU (by omega) (by rw [e55]; omega) (Or.inl rfl)
  rw [hp, e] at T
  simp only [show ¬ ((0 : Int) = 1) by decide, false_or] at T
  refine AMet.of kX12_mayIt.1 (Nat.le_of_ble_eq_true rfl) rfl ?_
  refine aw_blk oX12_mayIt_0 (pc' := 6) (ls' := [_, _, _, _, _, _, _, _]) (st' := []) (cs := []) rfl trivial ?_
  exact T
theorem c_mayIt {κ : KX} {μ : MM} {ν : ML} {s f hr : Int} (h : RR μ ν) (hs : 0 ≤ s ∧ s < 8) (hf : 0 ≤ f ∧ f < 6) (hh : 0 ≤ hr ∧ hr ≤ 999) : AE κ 1 mX12_mayIt [aR 55, aI s, aI f, aI hr] μ ν (some (aI (if anyR (pA μ s f hr) (μ 38 5).toNat 0 = true then 1 else 0))) μ ν := c_mayItU h rfl rfl rfl rfl hs hf hh
theorem law_may {κ : KX} {μ : MM} {ν : ML} {s f hr : Int} (h : RR μ ν) (hs : R32 s) (hf : R32 f) (hh : R32 hr) : LawN RR csR κ mX11_may mX12_may [aI s, aI f, aI hr] μ ν := by
  by_cases c1 : (0 ≤ s ∧ s ≤ 7) ∧ (0 ≤ f ∧ f ≤ 5)
  · by_cases c2 : 0 ≤ hr ∧ hr ≤ 999
    · have hA := c_allow (κ := κ) h (s := s) (f := f) (hr := hr) (by omega) (by omega) (by omega)
      have hM := c_mayIt (κ := κ) h (s := s) (f := f) (hr := hr) (by omega) (by omega) (by omega)
      by_cases ca : anyR (pA μ s f hr) (μ 38 5).toNat 0 = true
      · rw [if_pos ca] at hA hM
        refine ⟨1, μ, ν, μ, ?_, ?_, by decide, h, SR.rf⟩
        · refine AMet.of kX11_may.1 (Nat.le_of_ble_eq_true rfl) rfl ?_
          refine aw_blk oX11_may_0 (pc' := 1) (ls' := [_, _, _, _]) (st' := [_]) (cs := []) rfl trivial ?_
          refine aw_ciS (rest := []) (c_X11_isSeer (by omega)) kX11_isSeer eX11_may_1 lX11_may_1 rfl rfl (Nat.le_of_ble_eq_true rfl) ⟨Nat.le_of_ble_eq_true rfl, Nat.le_of_ble_eq_true rfl⟩ ⟨Nat.le_refl _, Nat.le_refl _⟩ ?_
          refine aw_if_eq (tgt := 14) eX11_may_4 (by decide) bt_r (fun hh => have h32 := bt0 hh; ?_) (fun hh => have h32 := bt1 hh; ?_)
          · first
            | (exfalso; omega; done)
            | (refine aw_blk oX11_may_14 (pc' := 15) (ls' := [_, _, _, _]) (st' := [_]) (cs := []) rfl trivial ?_
               refine aw_iret eX11_may_15 rfl (Nat.le_refl _) (Nat.le_refl _) ?_
               exact pe_i rfl rfl rfl)
          · first
            | (exfalso; omega; done)
            | (refine aw_blk oX11_may_7 (pc' := 8) (ls' := [_, _, _, _]) (st' := [_]) (cs := []) rfl trivial ?_
               refine aw_ciS (rest := []) (c_X11_isFilm (by omega)) kX11_isFilm eX11_may_8 lX11_may_8 rfl rfl (Nat.le_of_ble_eq_true rfl) ⟨Nat.le_of_ble_eq_true rfl, Nat.le_of_ble_eq_true rfl⟩ ⟨Nat.le_refl _, Nat.le_refl _⟩ ?_
               refine aw_if_ne (tgt := 16) eX11_may_11 (by decide) bt_r (fun hh => have h33 := bt1 hh; ?_) (fun hh => have h33 := bt0 hh; ?_)
               · first
                 | (exfalso; omega; done)
                 | (refine aw_blk oX11_may_16 (pc' := 21) (ls' := [_, _, _, _]) (st' := [_, _, _]) (cs := []) rfl trivial ?_
                    refine aw_ciS (rest := []) (c_X11_between (by omega) (by omega) (by omega)) kX11_between eX11_may_21 lX11_may_21 rfl rfl (Nat.le_of_ble_eq_true rfl) ⟨Nat.le_of_ble_eq_true rfl, Nat.le_of_ble_eq_true rfl⟩ ⟨Nat.le_refl _, Nat.le_refl _⟩ ?_
                    refine aw_if_ne (tgt := 30) eX11_may_24 (by decide) bt_r (fun hh => have h34 := bt1 hh; ?_) (fun hh => have h34 := bt0 hh; ?_)
                    · first
                      | (exfalso; omega; done)
                      | (refine aw_blk oX11_may_30 (pc' := 37) (ls' := [_, _, _, _]) (st' := [_, _, _, _]) (cs := []) rfl trivial ?_
                         refine aw_ciV (rest := []) (hA) kX7_allow eX11_may_37 lX11_may_37 rfl rfl rfl rfl (Nat.le_of_ble_eq_true rfl) ⟨Nat.le_of_ble_eq_true rfl, Nat.le_of_ble_eq_true rfl⟩ ⟨Nat.le_refl _, Nat.le_refl _⟩ ?_
                         refine aw_if_eq (tgt := 47) eX11_may_40 (by decide) (by omega) (fun h35 => ?_) (fun h35 => ?_)
                         · first
                           | (exfalso; omega; done)
                           | (refine aw_blk oX11_may_47 (pc' := 48) (ls' := [_, _, _, _]) (st' := [_]) (cs := []) rfl trivial ?_
                              refine aw_iret eX11_may_48 rfl (Nat.le_refl _) (Nat.le_refl _) ?_
                              exact pe_i rfl rfl rfl)
                         · first
                           | (exfalso; omega; done)
                           | (refine aw_blk oX11_may_43 (pc' := 48) (ls' := [_, _, _, _]) (st' := [_]) (cs := []) rfl trivial ?_
                              refine aw_iret eX11_may_48 rfl (Nat.le_refl _) (Nat.le_refl _) ?_
                              exact pe_i rfl rfl rfl))
                    · first
                      | (exfalso; omega; done)
                      | (refine aw_blk oX11_may_27 (pc' := 29) (ls' := [_, _, _, _]) (st' := [_]) (cs := []) rfl trivial ?_
                         refine aw_iret eX11_may_29 rfl (Nat.le_refl _) (Nat.le_refl _) ?_
                         exact pe_i rfl rfl rfl))
               · first
                 | (exfalso; omega; done)
                 | (refine aw_blk oX11_may_14 (pc' := 15) (ls' := [_, _, _, _]) (st' := [_]) (cs := []) rfl trivial ?_
                    refine aw_iret eX11_may_15 rfl (Nat.le_refl _) (Nat.le_refl _) ?_
                    exact pe_i rfl rfl rfl))
        · refine AMet.of kX12_may.1 (Nat.le_of_ble_eq_true rfl) rfl ?_
          refine aw_blk oX12_may_0 (pc' := 1) (ls' := [_, _, _, _]) (st' := [_]) (cs := []) rfl trivial ?_
          refine aw_ciS (rest := []) (c_X12_isSeer (by omega)) kX12_isSeer eX12_may_1 lX12_may_1 rfl rfl (Nat.le_of_ble_eq_true rfl) ⟨Nat.le_of_ble_eq_true rfl, Nat.le_of_ble_eq_true rfl⟩ ⟨Nat.le_refl _, Nat.le_refl _⟩ ?_
          refine aw_if_eq (tgt := 14) eX12_may_4 (by decide) bt_r (fun hh => have h36 := bt0 hh; ?_) (fun hh => have h36 := bt1 hh; ?_)
          · first
            | (exfalso; omega; done)
            | (refine aw_blk oX12_may_14 (pc' := 15) (ls' := [_, _, _, _]) (st' := [_]) (cs := []) rfl trivial ?_
               refine aw_iret eX12_may_15 rfl (Nat.le_refl _) (Nat.le_refl _) ?_
               exact pe_i rfl rfl rfl)
          · first
            | (exfalso; omega; done)
            | (refine aw_blk oX12_may_7 (pc' := 8) (ls' := [_, _, _, _]) (st' := [_]) (cs := []) rfl trivial ?_
               refine aw_ciS (rest := []) (c_X12_isFilm (by omega)) kX12_isFilm eX12_may_8 lX12_may_8 rfl rfl (Nat.le_of_ble_eq_true rfl) ⟨Nat.le_of_ble_eq_true rfl, Nat.le_of_ble_eq_true rfl⟩ ⟨Nat.le_refl _, Nat.le_refl _⟩ ?_
               refine aw_if_ne (tgt := 16) eX12_may_11 (by decide) bt_r (fun hh => have h37 := bt1 hh; ?_) (fun hh => have h37 := bt0 hh; ?_)
               · first
                 | (exfalso; omega; done)
                 | (refine aw_blk oX12_may_16 (pc' := 21) (ls' := [_, _, _, _]) (st' := [_, _, _]) (cs := []) rfl trivial ?_
                    refine aw_ciS (rest := []) (c_X12_in (by omega) (by omega) (by omega)) kX12_in eX12_may_21 lX12_may_21 rfl rfl (Nat.le_of_ble_eq_true rfl) ⟨Nat.le_of_ble_eq_true rfl, Nat.le_of_ble_eq_true rfl⟩ ⟨Nat.le_refl _, Nat.le_refl _⟩ ?_
                    refine aw_if_ne (tgt := 32) eX12_may_24 (by decide) bt_r (fun hh => have h38 := bt1 hh; ?_) (fun hh => have h38 := bt0 hh; ?_)
                    · first
                      | (exfalso; omega; done)
                      | (refine aw_blk oX12_may_32 (pc' := 36) (ls' := [_, _, _, _]) (st' := [_, _, _, _]) (cs := []) rfl trivial ?_
                         refine aw_ciV (rest := []) (hM) kX12_mayIt eX12_may_36 lX12_may_36 rfl rfl rfl rfl (Nat.le_of_ble_eq_true rfl) ⟨Nat.le_of_ble_eq_true rfl, Nat.le_of_ble_eq_true rfl⟩ ⟨Nat.le_refl _, Nat.le_refl _⟩ ?_
                         refine aw_if_eq (tgt := 46) eX12_may_39 (by decide) (by omega) (fun h39 => ?_) (fun h39 => ?_)
                         · first
                           | (exfalso; omega; done)
                           | (refine aw_blk oX12_may_46 (pc' := 47) (ls' := [_, _, _, _]) (st' := [_]) (cs := []) rfl trivial ?_
                              refine aw_iret eX12_may_47 rfl (Nat.le_refl _) (Nat.le_refl _) ?_
                              exact pe_i rfl rfl rfl)
                         · first
                           | (exfalso; omega; done)
                           | (refine aw_blk oX12_may_42 (pc' := 47) (ls' := [_, _, _, _]) (st' := [_]) (cs := []) rfl trivial ?_
                              refine aw_iret eX12_may_47 rfl (Nat.le_refl _) (Nat.le_refl _) ?_
                              exact pe_i rfl rfl rfl))
                    · first
                      | (exfalso; omega; done)
                      | (refine aw_blk oX12_may_27 (pc' := 47) (ls' := [_, _, _, _]) (st' := [_]) (cs := []) rfl trivial ?_
                         refine aw_iret eX12_may_47 rfl (Nat.le_refl _) (Nat.le_refl _) ?_
                         exact pe_i rfl rfl rfl))
               · first
                 | (exfalso; omega; done)
                 | (refine aw_blk oX12_may_14 (pc' := 15) (ls' := [_, _, _, _]) (st' := [_]) (cs := []) rfl trivial ?_
                    refine aw_iret eX12_may_15 rfl (Nat.le_refl _) (Nat.le_refl _) ?_
                    exact pe_i rfl rfl rfl))
      · rw [if_neg ca] at hA hM
        refine ⟨0, μ, ν, μ, ?_, ?_, by decide, h, SR.rf⟩
        · refine AMet.of kX11_may.1 (Nat.le_of_ble_eq_true rfl) rfl ?_
          refine aw_blk oX11_may_0 (pc' := 1) (ls' := [_, _, _, _]) (st' := [_]) (cs := []) rfl trivial ?_
          refine aw_ciS (rest := []) (c_X11_isSeer (by omega)) kX11_isSeer eX11_may_1 lX11_may_1 rfl rfl (Nat.le_of_ble_eq_true rfl) ⟨Nat.le_of_ble_eq_true rfl, Nat.le_of_ble_eq_true rfl⟩ ⟨Nat.le_refl _, Nat.le_refl _⟩ ?_
          refine aw_if_eq (tgt := 14) eX11_may_4 (by decide) bt_r (fun hh => have h40 := bt0 hh; ?_) (fun hh => have h40 := bt1 hh; ?_)
          · first
            | (exfalso; omega; done)
            | (refine aw_blk oX11_may_14 (pc' := 15) (ls' := [_, _, _, _]) (st' := [_]) (cs := []) rfl trivial ?_
               refine aw_iret eX11_may_15 rfl (Nat.le_refl _) (Nat.le_refl _) ?_
               exact pe_i rfl rfl rfl)
          · first
            | (exfalso; omega; done)
            | (refine aw_blk oX11_may_7 (pc' := 8) (ls' := [_, _, _, _]) (st' := [_]) (cs := []) rfl trivial ?_
               refine aw_ciS (rest := []) (c_X11_isFilm (by omega)) kX11_isFilm eX11_may_8 lX11_may_8 rfl rfl (Nat.le_of_ble_eq_true rfl) ⟨Nat.le_of_ble_eq_true rfl, Nat.le_of_ble_eq_true rfl⟩ ⟨Nat.le_refl _, Nat.le_refl _⟩ ?_
               refine aw_if_ne (tgt := 16) eX11_may_11 (by decide) bt_r (fun hh => have h41 := bt1 hh; ?_) (fun hh => have h41 := bt0 hh; ?_)
               · first
                 | (exfalso; omega; done)
                 | (refine aw_blk oX11_may_16 (pc' := 21) (ls' := [_, _, _, _]) (st' := [_, _, _]) (cs := []) rfl trivial ?_
                    refine aw_ciS (rest := []) (c_X11_between (by omega) (by omega) (by omega)) kX11_between eX11_may_21 lX11_may_21 rfl rfl (Nat.le_of_ble_eq_true rfl) ⟨Nat.le_of_ble_eq_true rfl, Nat.le_of_ble_eq_true rfl⟩ ⟨Nat.le_refl _, Nat.le_refl _⟩ ?_
                    refine aw_if_ne (tgt := 30) eX11_may_24 (by decide) bt_r (fun hh => have h42 := bt1 hh; ?_) (fun hh => have h42 := bt0 hh; ?_)
                    · first
                      | (exfalso; omega; done)
                      | (refine aw_blk oX11_may_30 (pc' := 37) (ls' := [_, _, _, _]) (st' := [_, _, _, _]) (cs := []) rfl trivial ?_
                         refine aw_ciV (rest := []) (hA) kX7_allow eX11_may_37 lX11_may_37 rfl rfl rfl rfl (Nat.le_of_ble_eq_true rfl) ⟨Nat.le_of_ble_eq_true rfl, Nat.le_of_ble_eq_true rfl⟩ ⟨Nat.le_refl _, Nat.le_refl _⟩ ?_
                         refine aw_if_eq (tgt := 47) eX11_may_40 (by decide) (by omega) (fun h43 => ?_) (fun h43 => ?_)
                         · first
                           | (exfalso; omega; done)
                           | (refine aw_blk oX11_may_47 (pc' := 48) (ls' := [_, _, _, _]) (st' := [_]) (cs := []) rfl trivial ?_
                              refine aw_iret eX11_may_48 rfl (Nat.le_refl _) (Nat.le_refl _) ?_
                              exact pe_i rfl rfl rfl)
                         · first
                           | (exfalso; omega; done)
                           | (refine aw_blk oX11_may_43 (pc' := 48) (ls' := [_, _, _, _]) (st' := [_]) (cs := []) rfl trivial ?_
                              refine aw_iret eX11_may_48 rfl (Nat.le_refl _) (Nat.le_refl _) ?_
                              exact pe_i rfl rfl rfl))
                    · first
                      | (exfalso; omega; done)
                      | (refine aw_blk oX11_may_27 (pc' := 29) (ls' := [_, _, _, _]) (st' := [_]) (cs := []) rfl trivial ?_
                         refine aw_iret eX11_may_29 rfl (Nat.le_refl _) (Nat.le_refl _) ?_
                         exact pe_i rfl rfl rfl))
               · first
                 | (exfalso; omega; done)
                 | (refine aw_blk oX11_may_14 (pc' := 15) (ls' := [_, _, _, _]) (st' := [_]) (cs := []) rfl trivial ?_
                    refine aw_iret eX11_may_15 rfl (Nat.le_refl _) (Nat.le_refl _) ?_
                    exact pe_i rfl rfl rfl))
        · refine AMet.of kX12_may.1 (Nat.le_of_ble_eq_true rfl) rfl ?_
          refine aw_blk oX12_may_0 (pc' := 1) (ls' := [_, _, _, _]) (st' := [_]) (cs := []) rfl trivial ?_
          refine aw_ciS (rest := []) (c_X12_isSeer (by omega)) kX12_isSeer eX12_may_1 lX12_may_1 rfl rfl (Nat.le_of_ble_eq_true rfl) ⟨Nat.le_of_ble_eq_true rfl, Nat.le_of_ble_eq_true rfl⟩ ⟨Nat.le_refl _, Nat.le_refl _⟩ ?_
          refine aw_if_eq (tgt := 14) eX12_may_4 (by decide) bt_r (fun hh => have h44 := bt0 hh; ?_) (fun hh => have h44 := bt1 hh; ?_)
          · first
            | (exfalso; omega; done)
            | (refine aw_blk oX12_may_14 (pc' := 15) (ls' := [_, _, _, _]) (st' := [_]) (cs := []) rfl trivial ?_
               refine aw_iret eX12_may_15 rfl (Nat.le_refl _) (Nat.le_refl _) ?_
               exact pe_i rfl rfl rfl)
          · first
            | (exfalso; omega; done)
            | (refine aw_blk oX12_may_7 (pc' := 8) (ls' := [_, _, _, _]) (st' := [_]) (cs := []) rfl trivial ?_
               refine aw_ciS (rest := []) (c_X12_isFilm (by omega)) kX12_isFilm eX12_may_8 lX12_may_8 rfl rfl (Nat.le_of_ble_eq_true rfl) ⟨Nat.le_of_ble_eq_true rfl, Nat.le_of_ble_eq_true rfl⟩ ⟨Nat.le_refl _, Nat.le_refl _⟩ ?_
               refine aw_if_ne (tgt := 16) eX12_may_11 (by decide) bt_r (fun hh => have h45 := bt1 hh; ?_) (fun hh => have h45 := bt0 hh; ?_)
               · first
                 | (exfalso; omega; done)
                 | (refine aw_blk oX12_may_16 (pc' := 21) (ls' := [_, _, _, _]) (st' := [_, _, _]) (cs := []) rfl trivial ?_
                    refine aw_ciS (rest := []) (c_X12_in (by omega) (by omega) (by omega)) kX12_in eX12_may_21 lX12_may_21 rfl rfl (Nat.le_of_ble_eq_true rfl) ⟨Nat.le_of_ble_eq_true rfl, Nat.le_of_ble_eq_true rfl⟩ ⟨Nat.le_refl _, Nat.le_refl _⟩ ?_
                    refine aw_if_ne (tgt := 32) eX12_may_24 (by decide) bt_r (fun hh => have h46 := bt1 hh; ?_) (fun hh => have h46 := bt0 hh; ?_)
                    · first
                      | (exfalso; omega; done)
                      | (refine aw_blk oX12_may_32 (pc' := 36) (ls' := [_, _, _, _]) (st' := [_, _, _, _]) (cs := []) rfl trivial ?_
                         refine aw_ciV (rest := []) (hM) kX12_mayIt eX12_may_36 lX12_may_36 rfl rfl rfl rfl (Nat.le_of_ble_eq_true rfl) ⟨Nat.le_of_ble_eq_true rfl, Nat.le_of_ble_eq_true rfl⟩ ⟨Nat.le_refl _, Nat.le_refl _⟩ ?_
                         refine aw_if_eq (tgt := 46) eX12_may_39 (by decide) (by omega) (fun h47 => ?_) (fun h47 => ?_)
                         · first
                           | (exfalso; omega; done)
                           | (refine aw_blk oX12_may_46 (pc' := 47) (ls' := [_, _, _, _]) (st' := [_]) (cs := []) rfl trivial ?_
                              refine aw_iret eX12_may_47 rfl (Nat.le_refl _) (Nat.le_refl _) ?_
                              exact pe_i rfl rfl rfl)
                         · first
                           | (exfalso; omega; done)
                           | (refine aw_blk oX12_may_42 (pc' := 47) (ls' := [_, _, _, _]) (st' := [_]) (cs := []) rfl trivial ?_
                              refine aw_iret eX12_may_47 rfl (Nat.le_refl _) (Nat.le_refl _) ?_
                              exact pe_i rfl rfl rfl))
                    · first
                      | (exfalso; omega; done)
                      | (refine aw_blk oX12_may_27 (pc' := 47) (ls' := [_, _, _, _]) (st' := [_]) (cs := []) rfl trivial ?_
                         refine aw_iret eX12_may_47 rfl (Nat.le_refl _) (Nat.le_refl _) ?_
                         exact pe_i rfl rfl rfl))
               · first
                 | (exfalso; omega; done)
                 | (refine aw_blk oX12_may_14 (pc' := 15) (ls' := [_, _, _, _]) (st' := [_]) (cs := []) rfl trivial ?_
                    refine aw_iret eX12_may_15 rfl (Nat.le_refl _) (Nat.le_refl _) ?_
                    exact pe_i rfl rfl rfl))
    · refine ⟨-2, μ, ν, μ, ?_, ?_, by decide, h, SR.rf⟩
      · refine AMet.of kX11_may.1 (Nat.le_of_ble_eq_true rfl) rfl ?_
        refine aw_blk oX11_may_0 (pc' := 1) (ls' := [_, _, _, _]) (st' := [_]) (cs := []) rfl trivial ?_
        refine aw_ciS (rest := []) (c_X11_isSeer (by omega)) kX11_isSeer eX11_may_1 lX11_may_1 rfl rfl (Nat.le_of_ble_eq_true rfl) ⟨Nat.le_of_ble_eq_true rfl, Nat.le_of_ble_eq_true rfl⟩ ⟨Nat.le_refl _, Nat.le_refl _⟩ ?_
        refine aw_if_eq (tgt := 14) eX11_may_4 (by decide) bt_r (fun hh => have h48 := bt0 hh; ?_) (fun hh => have h48 := bt1 hh; ?_)
        · first
          | (exfalso; omega; done)
          | (refine aw_blk oX11_may_14 (pc' := 15) (ls' := [_, _, _, _]) (st' := [_]) (cs := []) rfl trivial ?_
             refine aw_iret eX11_may_15 rfl (Nat.le_refl _) (Nat.le_refl _) ?_
             exact pe_i rfl rfl rfl)
        · first
          | (exfalso; omega; done)
          | (refine aw_blk oX11_may_7 (pc' := 8) (ls' := [_, _, _, _]) (st' := [_]) (cs := []) rfl trivial ?_
             refine aw_ciS (rest := []) (c_X11_isFilm (by omega)) kX11_isFilm eX11_may_8 lX11_may_8 rfl rfl (Nat.le_of_ble_eq_true rfl) ⟨Nat.le_of_ble_eq_true rfl, Nat.le_of_ble_eq_true rfl⟩ ⟨Nat.le_refl _, Nat.le_refl _⟩ ?_
             refine aw_if_ne (tgt := 16) eX11_may_11 (by decide) bt_r (fun hh => have h49 := bt1 hh; ?_) (fun hh => have h49 := bt0 hh; ?_)
             · first
               | (exfalso; omega; done)
               | (refine aw_blk oX11_may_16 (pc' := 21) (ls' := [_, _, _, _]) (st' := [_, _, _]) (cs := []) rfl trivial ?_
                  refine aw_ciS (rest := []) (c_X11_between (by omega) (by omega) (by omega)) kX11_between eX11_may_21 lX11_may_21 rfl rfl (Nat.le_of_ble_eq_true rfl) ⟨Nat.le_of_ble_eq_true rfl, Nat.le_of_ble_eq_true rfl⟩ ⟨Nat.le_refl _, Nat.le_refl _⟩ ?_
                  refine aw_if_ne (tgt := 30) eX11_may_24 (by decide) bt_r (fun hh => have h50 := bt1 hh; ?_) (fun hh => have h50 := bt0 hh; ?_)
                  · first
                    | (exfalso; omega; done)
                    | (refine aw_blk oX11_may_30 (pc' := 37) (ls' := [_, _, _, _]) (st' := [_, _, _, _]) (cs := []) rfl trivial ?_
                       refine aw_ciV (rest := []) (hA) kX7_allow eX11_may_37 lX11_may_37 rfl rfl rfl rfl (Nat.le_of_ble_eq_true rfl) ⟨Nat.le_of_ble_eq_true rfl, Nat.le_of_ble_eq_true rfl⟩ ⟨Nat.le_refl _, Nat.le_refl _⟩ ?_
                       refine aw_if_eq (tgt := 47) eX11_may_40 (by decide) (by omega) (fun h51 => ?_) (fun h51 => ?_)
                       · first
                         | (exfalso; omega; done)
                         | (refine aw_blk oX11_may_47 (pc' := 48) (ls' := [_, _, _, _]) (st' := [_]) (cs := []) rfl trivial ?_
                            refine aw_iret eX11_may_48 rfl (Nat.le_refl _) (Nat.le_refl _) ?_
                            exact pe_i rfl rfl rfl)
                       · first
                         | (exfalso; omega; done)
                         | (refine aw_blk oX11_may_43 (pc' := 48) (ls' := [_, _, _, _]) (st' := [_]) (cs := []) rfl trivial ?_
                            refine aw_iret eX11_may_48 rfl (Nat.le_refl _) (Nat.le_refl _) ?_
                            exact pe_i rfl rfl rfl))
                  · first
                    | (exfalso; omega; done)
                    | (refine aw_blk oX11_may_27 (pc' := 29) (ls' := [_, _, _, _]) (st' := [_]) (cs := []) rfl trivial ?_
                       refine aw_iret eX11_may_29 rfl (Nat.le_refl _) (Nat.le_refl _) ?_
                       exact pe_i rfl rfl rfl))
             · first
               | (exfalso; omega; done)
               | (refine aw_blk oX11_may_14 (pc' := 15) (ls' := [_, _, _, _]) (st' := [_]) (cs := []) rfl trivial ?_
                  refine aw_iret eX11_may_15 rfl (Nat.le_refl _) (Nat.le_refl _) ?_
                  exact pe_i rfl rfl rfl))
      · refine AMet.of kX12_may.1 (Nat.le_of_ble_eq_true rfl) rfl ?_
        refine aw_blk oX12_may_0 (pc' := 1) (ls' := [_, _, _, _]) (st' := [_]) (cs := []) rfl trivial ?_
        refine aw_ciS (rest := []) (c_X12_isSeer (by omega)) kX12_isSeer eX12_may_1 lX12_may_1 rfl rfl (Nat.le_of_ble_eq_true rfl) ⟨Nat.le_of_ble_eq_true rfl, Nat.le_of_ble_eq_true rfl⟩ ⟨Nat.le_refl _, Nat.le_refl _⟩ ?_
        refine aw_if_eq (tgt := 14) eX12_may_4 (by decide) bt_r (fun hh => have h52 := bt0 hh; ?_) (fun hh => have h52 := bt1 hh; ?_)
        · first
          | (exfalso; omega; done)
          | (refine aw_blk oX12_may_14 (pc' := 15) (ls' := [_, _, _, _]) (st' := [_]) (cs := []) rfl trivial ?_
             refine aw_iret eX12_may_15 rfl (Nat.le_refl _) (Nat.le_refl _) ?_
             exact pe_i rfl rfl rfl)
        · first
          | (exfalso; omega; done)
          | (refine aw_blk oX12_may_7 (pc' := 8) (ls' := [_, _, _, _]) (st' := [_]) (cs := []) rfl trivial ?_
             refine aw_ciS (rest := []) (c_X12_isFilm (by omega)) kX12_isFilm eX12_may_8 lX12_may_8 rfl rfl (Nat.le_of_ble_eq_true rfl) ⟨Nat.le_of_ble_eq_true rfl, Nat.le_of_ble_eq_true rfl⟩ ⟨Nat.le_refl _, Nat.le_refl _⟩ ?_
             refine aw_if_ne (tgt := 16) eX12_may_11 (by decide) bt_r (fun hh => have h53 := bt1 hh; ?_) (fun hh => have h53 := bt0 hh; ?_)
             · first
               | (exfalso; omega; done)
               | (refine aw_blk oX12_may_16 (pc' := 21) (ls' := [_, _, _, _]) (st' := [_, _, _]) (cs := []) rfl trivial ?_
                  refine aw_ciS (rest := []) (c_X12_in (by omega) (by omega) (by omega)) kX12_in eX12_may_21 lX12_may_21 rfl rfl (Nat.le_of_ble_eq_true rfl) ⟨Nat.le_of_ble_eq_true rfl, Nat.le_of_ble_eq_true rfl⟩ ⟨Nat.le_refl _, Nat.le_refl _⟩ ?_
                  refine aw_if_ne (tgt := 32) eX12_may_24 (by decide) bt_r (fun hh => have h54 := bt1 hh; ?_) (fun hh => have h54 := bt0 hh; ?_)
                  · first
                    | (exfalso; omega; done)
                    | (refine aw_blk oX12_may_32 (pc' := 36) (ls' := [_, _, _, _]) (st' := [_, _, _, _]) (cs := []) rfl trivial ?_
                       refine aw_ciV (rest := []) (hM) kX12_mayIt eX12_may_36 lX12_may_36 rfl rfl rfl rfl (Nat.le_of_ble_eq_true rfl) ⟨Nat.le_of_ble_eq_true rfl, Nat.le_of_ble_eq_true rfl⟩ ⟨Nat.le_refl _, Nat.le_refl _⟩ ?_
                       refine aw_if_eq (tgt := 46) eX12_may_39 (by decide) (by omega) (fun h55 => ?_) (fun h55 => ?_)
                       · first
                         | (exfalso; omega; done)
                         | (refine aw_blk oX12_may_46 (pc' := 47) (ls' := [_, _, _, _]) (st' := [_]) (cs := []) rfl trivial ?_
                            refine aw_iret eX12_may_47 rfl (Nat.le_refl _) (Nat.le_refl _) ?_
                            exact pe_i rfl rfl rfl)
                       · first
                         | (exfalso; omega; done)
                         | (refine aw_blk oX12_may_42 (pc' := 47) (ls' := [_, _, _, _]) (st' := [_]) (cs := []) rfl trivial ?_
                            refine aw_iret eX12_may_47 rfl (Nat.le_refl _) (Nat.le_refl _) ?_
                            exact pe_i rfl rfl rfl))
                  · first
                    | (exfalso; omega; done)
                    | (refine aw_blk oX12_may_27 (pc' := 47) (ls' := [_, _, _, _]) (st' := [_]) (cs := []) rfl trivial ?_
                       refine aw_iret eX12_may_47 rfl (Nat.le_refl _) (Nat.le_refl _) ?_
                       exact pe_i rfl rfl rfl))
             · first
               | (exfalso; omega; done)
               | (refine aw_blk oX12_may_14 (pc' := 15) (ls' := [_, _, _, _]) (st' := [_]) (cs := []) rfl trivial ?_
                  refine aw_iret eX12_may_15 rfl (Nat.le_refl _) (Nat.le_refl _) ?_
                  exact pe_i rfl rfl rfl))
  · refine ⟨-1, μ, ν, μ, ?_, ?_, by decide, h, SR.rf⟩
    · refine AMet.of kX11_may.1 (Nat.le_of_ble_eq_true rfl) rfl ?_
      refine aw_blk oX11_may_0 (pc' := 1) (ls' := [_, _, _, _]) (st' := [_]) (cs := []) rfl trivial ?_
      refine aw_ciS (rest := []) (c_X11_isSeer (by omega)) kX11_isSeer eX11_may_1 lX11_may_1 rfl rfl (Nat.le_of_ble_eq_true rfl) ⟨Nat.le_of_ble_eq_true rfl, Nat.le_of_ble_eq_true rfl⟩ ⟨Nat.le_refl _, Nat.le_refl _⟩ ?_
      refine aw_if_eq (tgt := 14) eX11_may_4 (by decide) bt_r (fun hh => have h56 := bt0 hh; ?_) (fun hh => have h56 := bt1 hh; ?_)
      · first
        | (exfalso; omega; done)
        | (refine aw_blk oX11_may_14 (pc' := 15) (ls' := [_, _, _, _]) (st' := [_]) (cs := []) rfl trivial ?_
           refine aw_iret eX11_may_15 rfl (Nat.le_refl _) (Nat.le_refl _) ?_
           exact pe_i rfl rfl rfl)
      · first
        | (exfalso; omega; done)
        | (refine aw_blk oX11_may_7 (pc' := 8) (ls' := [_, _, _, _]) (st' := [_]) (cs := []) rfl trivial ?_
           refine aw_ciS (rest := []) (c_X11_isFilm (by omega)) kX11_isFilm eX11_may_8 lX11_may_8 rfl rfl (Nat.le_of_ble_eq_true rfl) ⟨Nat.le_of_ble_eq_true rfl, Nat.le_of_ble_eq_true rfl⟩ ⟨Nat.le_refl _, Nat.le_refl _⟩ ?_
           refine aw_if_ne (tgt := 16) eX11_may_11 (by decide) bt_r (fun hh => have h57 := bt1 hh; ?_) (fun hh => have h57 := bt0 hh; ?_)
           · first
             | (exfalso; omega; done)
             | (refine aw_blk oX11_may_16 (pc' := 21) (ls' := [_, _, _, _]) (st' := [_, _, _]) (cs := []) rfl trivial ?_
                refine aw_ciS (rest := []) (c_X11_between (by omega) (by omega) (by omega)) kX11_between eX11_may_21 lX11_may_21 rfl rfl (Nat.le_of_ble_eq_true rfl) ⟨Nat.le_of_ble_eq_true rfl, Nat.le_of_ble_eq_true rfl⟩ ⟨Nat.le_refl _, Nat.le_refl _⟩ ?_
                refine aw_if_ne (tgt := 30) eX11_may_24 (by decide) bt_r (fun hh => have h58 := bt1 hh; ?_) (fun hh => have h58 := bt0 hh; ?_)
                · first
                  | (exfalso; omega; done)
                  | (refine aw_blk oX11_may_30 (pc' := 37) (ls' := [_, _, _, _]) (st' := [_, _, _, _]) (cs := []) rfl trivial ?_
                     refine aw_ciV (rest := []) (hA) kX7_allow eX11_may_37 lX11_may_37 rfl rfl rfl rfl (Nat.le_of_ble_eq_true rfl) ⟨Nat.le_of_ble_eq_true rfl, Nat.le_of_ble_eq_true rfl⟩ ⟨Nat.le_refl _, Nat.le_refl _⟩ ?_
                     refine aw_if_eq (tgt := 47) eX11_may_40 (by decide) (by omega) (fun h59 => ?_) (fun h59 => ?_)
                     · first
                       | (exfalso; omega; done)
                       | (refine aw_blk oX11_may_47 (pc' := 48) (ls' := [_, _, _, _]) (st' := [_]) (cs := []) rfl trivial ?_
                          refine aw_iret eX11_may_48 rfl (Nat.le_refl _) (Nat.le_refl _) ?_
                          exact pe_i rfl rfl rfl)
                     · first
                       | (exfalso; omega; done)
                       | (refine aw_blk oX11_may_43 (pc' := 48) (ls' := [_, _, _, _]) (st' := [_]) (cs := []) rfl trivial ?_
                          refine aw_iret eX11_may_48 rfl (Nat.le_refl _) (Nat.le_refl _) ?_
                          exact pe_i rfl rfl rfl))
                · first
                  | (exfalso; omega; done)
                  | (refine aw_blk oX11_may_27 (pc' := 29) (ls' := [_, _, _, _]) (st' := [_]) (cs := []) rfl trivial ?_
                     refine aw_iret eX11_may_29 rfl (Nat.le_refl _) (Nat.le_refl _) ?_
                     exact pe_i rfl rfl rfl))
           · first
             | (exfalso; omega; done)
             | (refine aw_blk oX11_may_14 (pc' := 15) (ls' := [_, _, _, _]) (st' := [_]) (cs := []) rfl trivial ?_
                refine aw_iret eX11_may_15 rfl (Nat.le_refl _) (Nat.le_refl _) ?_
                exact pe_i rfl rfl rfl))
    · refine AMet.of kX12_may.1 (Nat.le_of_ble_eq_true rfl) rfl ?_
      refine aw_blk oX12_may_0 (pc' := 1) (ls' := [_, _, _, _]) (st' := [_]) (cs := []) rfl trivial ?_
      refine aw_ciS (rest := []) (c_X12_isSeer (by omega)) kX12_isSeer eX12_may_1 lX12_may_1 rfl rfl (Nat.le_of_ble_eq_true rfl) ⟨Nat.le_of_ble_eq_true rfl, Nat.le_of_ble_eq_true rfl⟩ ⟨Nat.le_refl _, Nat.le_refl _⟩ ?_
      refine aw_if_eq (tgt := 14) eX12_may_4 (by decide) bt_r (fun hh => have h60 := bt0 hh; ?_) (fun hh => have h60 := bt1 hh; ?_)
      · first
        | (exfalso; omega; done)
        | (refine aw_blk oX12_may_14 (pc' := 15) (ls' := [_, _, _, _]) (st' := [_]) (cs := []) rfl trivial ?_
           refine aw_iret eX12_may_15 rfl (Nat.le_refl _) (Nat.le_refl _) ?_
           exact pe_i rfl rfl rfl)
      · first
        | (exfalso; omega; done)
        | (refine aw_blk oX12_may_7 (pc' := 8) (ls' := [_, _, _, _]) (st' := [_]) (cs := []) rfl trivial ?_
           refine aw_ciS (rest := []) (c_X12_isFilm (by omega)) kX12_isFilm eX12_may_8 lX12_may_8 rfl rfl (Nat.le_of_ble_eq_true rfl) ⟨Nat.le_of_ble_eq_true rfl, Nat.le_of_ble_eq_true rfl⟩ ⟨Nat.le_refl _, Nat.le_refl _⟩ ?_
           refine aw_if_ne (tgt := 16) eX12_may_11 (by decide) bt_r (fun hh => have h61 := bt1 hh; ?_) (fun hh => have h61 := bt0 hh; ?_)
           · first
             | (exfalso; omega; done)
             | (refine aw_blk oX12_may_16 (pc' := 21) (ls' := [_, _, _, _]) (st' := [_, _, _]) (cs := []) rfl trivial ?_
                refine aw_ciS (rest := []) (c_X12_in (by omega) (by omega) (by omega)) kX12_in eX12_may_21 lX12_may_21 rfl rfl (Nat.le_of_ble_eq_true rfl) ⟨Nat.le_of_ble_eq_true rfl, Nat.le_of_ble_eq_true rfl⟩ ⟨Nat.le_refl _, Nat.le_refl _⟩ ?_
                refine aw_if_ne (tgt := 32) eX12_may_24 (by decide) bt_r (fun hh => have h62 := bt1 hh; ?_) (fun hh => have h62 := bt0 hh; ?_)
                · first
                  | (exfalso; omega; done)
                  | (refine aw_blk oX12_may_32 (pc' := 36) (ls' := [_, _, _, _]) (st' := [_, _, _, _]) (cs := []) rfl trivial ?_
                     refine aw_ciV (rest := []) (hM) kX12_mayIt eX12_may_36 lX12_may_36 rfl rfl rfl rfl (Nat.le_of_ble_eq_true rfl) ⟨Nat.le_of_ble_eq_true rfl, Nat.le_of_ble_eq_true rfl⟩ ⟨Nat.le_refl _, Nat.le_refl _⟩ ?_
                     refine aw_if_eq (tgt := 46) eX12_may_39 (by decide) (by omega) (fun h63 => ?_) (fun h63 => ?_)
                     · first
                       | (exfalso; omega; done)
                       | (refine aw_blk oX12_may_46 (pc' := 47) (ls' := [_, _, _, _]) (st' := [_]) (cs := []) rfl trivial ?_
                          refine aw_iret eX12_may_47 rfl (Nat.le_refl _) (Nat.le_refl _) ?_
                          exact pe_i rfl rfl rfl)
                     · first
                       | (exfalso; omega; done)
                       | (refine aw_blk oX12_may_42 (pc' := 47) (ls' := [_, _, _, _]) (st' := [_]) (cs := []) rfl trivial ?_
                          refine aw_iret eX12_may_47 rfl (Nat.le_refl _) (Nat.le_refl _) ?_
                          exact pe_i rfl rfl rfl))
                · first
                  | (exfalso; omega; done)
                  | (refine aw_blk oX12_may_27 (pc' := 47) (ls' := [_, _, _, _]) (st' := [_]) (cs := []) rfl trivial ?_
                     refine aw_iret eX12_may_47 rfl (Nat.le_refl _) (Nat.le_refl _) ?_
                     exact pe_i rfl rfl rfl))
           · first
             | (exfalso; omega; done)
             | (refine aw_blk oX12_may_14 (pc' := 15) (ls' := [_, _, _, _]) (st' := [_]) (cs := []) rfl trivial ?_
                refine aw_iret eX12_may_15 rfl (Nat.le_refl _) (Nat.le_refl _) ?_
                exact pe_i rfl rfl rfl))
theorem law_land {κ : KX} {μ : MM} {ν : ML} {s v : Int} (h : RR μ ν) (hs : R32 s) (hv : R32 v) : LawN RR csR κ mX11_land mX12_land [aI s, aI v] μ ν := by
  obtain ⟨c, r, l, t, q⟩ := id h
  by_cases c1 : (0 ≤ s ∧ s ≤ 7) ∧ (0 ≤ v ∧ v ≤ 3)
  · have g1 := l s (by omega) (by omega)
    refine ⟨μ 44 s, up μ 44 s v, ν, up (up μ 44 s v) 68 s v, ?_, ?_, by omega, ?_, SR.two.sub (by decide)⟩
    · refine AMet.of kX11_land.1 (Nat.le_of_ble_eq_true rfl) rfl ?_
      refine aw_blk oX11_land_0 (pc' := 1) (ls' := [_, _, _]) (st' := [_]) (cs := []) rfl trivial ?_
      refine aw_ciS (rest := []) (c_X11_isSeer (by omega)) kX11_isSeer eX11_land_1 lX11_land_1 rfl rfl (Nat.le_of_ble_eq_true rfl) ⟨Nat.le_of_ble_eq_true rfl, Nat.le_of_ble_eq_true rfl⟩ ⟨Nat.le_refl _, Nat.le_refl _⟩ ?_
      refine aw_if_eq (tgt := 16) eX11_land_4 (by decide) bt_r (fun hh => have h64 := bt0 hh; ?_) (fun hh => have h64 := bt1 hh; ?_)
      · first
        | (exfalso; omega; done)
        | (refine aw_blk oX11_land_16 (pc' := 17) (ls' := [_, _, _]) (st' := [_]) (cs := []) rfl trivial ?_
           refine aw_iret eX11_land_17 rfl (Nat.le_refl _) (Nat.le_refl _) ?_
           exact pe_i rfl rfl rfl)
      · first
        | (exfalso; omega; done)
        | (refine aw_blk oX11_land_7 (pc' := 10) (ls' := [_, _, _]) (st' := [_, _, _]) (cs := []) rfl trivial ?_
           refine aw_ciS (rest := []) (c_X11_between (by omega) (by omega) (by omega)) kX11_between eX11_land_10 lX11_land_10 rfl rfl (Nat.le_of_ble_eq_true rfl) ⟨Nat.le_of_ble_eq_true rfl, Nat.le_of_ble_eq_true rfl⟩ ⟨Nat.le_refl _, Nat.le_refl _⟩ ?_
           refine aw_if_ne (tgt := 18) eX11_land_13 (by decide) bt_r (fun hh => have h65 := bt1 hh; ?_) (fun hh => have h65 := bt0 hh; ?_)
           · first
             | (exfalso; omega; done)
             | (refine aw_blk oX11_land_18 (pc' := 24) (ls' := [_, _, _]) (st' := [_, _, _]) (cs := []) rfl trivial ?_
                refine aw_ciV (rest := []) (c_changeLand (by omega)) kX7_changeLand eX11_land_24 lX11_land_24 rfl rfl rfl rfl (Nat.le_of_ble_eq_true rfl) ⟨Nat.le_of_ble_eq_true rfl, Nat.le_of_ble_eq_true rfl⟩ ⟨Nat.le_refl _, Nat.le_refl _⟩ ?_
                refine aw_iret eX11_land_27 rfl (Nat.le_refl _) (Nat.le_refl _) ?_
                exact pe_i rfl rfl rfl)
           · first
             | (exfalso; omega; done)
             | (refine aw_blk oX11_land_16 (pc' := 17) (ls' := [_, _, _]) (st' := [_]) (cs := []) rfl trivial ?_
                refine aw_iret eX11_land_17 rfl (Nat.le_refl _) (Nat.le_refl _) ?_
                exact pe_i rfl rfl rfl))
    · refine AMet.of kX12_land.1 (Nat.le_of_ble_eq_true rfl) rfl ?_
      refine aw_blk oX12_land_0 (pc' := 1) (ls' := [_, _, _, _]) (st' := [_]) (cs := []) rfl trivial ?_
      refine aw_ciS (rest := []) (c_X12_isSeer (by omega)) kX12_isSeer eX12_land_1 lX12_land_1 rfl rfl (Nat.le_of_ble_eq_true rfl) ⟨Nat.le_of_ble_eq_true rfl, Nat.le_of_ble_eq_true rfl⟩ ⟨Nat.le_refl _, Nat.le_refl _⟩ ?_
      refine aw_if_eq (tgt := 16) eX12_land_4 (by decide) bt_r (fun hh => have h66 := bt0 hh; ?_) (fun hh => have h66 := bt1 hh; ?_)
      · first
        | (exfalso; omega; done)
        | (refine aw_blk oX12_land_16 (pc' := 17) (ls' := [_, _, _, _]) (st' := [_]) (cs := []) rfl trivial ?_
           refine aw_iret eX12_land_17 rfl (Nat.le_refl _) (Nat.le_refl _) ?_
           exact pe_i (by rw [up_c (by decide)]; exact g1.1) rfl rfl)
      · first
        | (exfalso; omega; done)
        | (refine aw_blk oX12_land_7 (pc' := 10) (ls' := [_, _, _, _]) (st' := [_, _, _]) (cs := []) rfl trivial ?_
           refine aw_ciS (rest := []) (c_X12_in (by omega) (by omega) (by omega)) kX12_in eX12_land_10 lX12_land_10 rfl rfl (Nat.le_of_ble_eq_true rfl) ⟨Nat.le_of_ble_eq_true rfl, Nat.le_of_ble_eq_true rfl⟩ ⟨Nat.le_refl _, Nat.le_refl _⟩ ?_
           refine aw_if_ne (tgt := 18) eX12_land_13 (by decide) bt_r (fun hh => have h67 := bt1 hh; ?_) (fun hh => have h67 := bt0 hh; ?_)
           · first
             | (exfalso; omega; done)
             | (refine aw_blk oX12_land_18 (pc' := 33) (ls' := [_, _, _, _]) (st' := [_]) (cs := [(_, _), (_, _)]) rfl (⟨⟨by omega, by omega⟩, ⟨by omega, by omega⟩, trivial⟩) ?_
                refine aw_iret eX12_land_33 rfl (Nat.le_refl _) (Nat.le_refl _) ?_
                exact pe_i (by rw [up_c (by decide)]; exact g1.1) rfl rfl)
           · first
             | (exfalso; omega; done)
             | (refine aw_blk oX12_land_16 (pc' := 17) (ls' := [_, _, _, _]) (st' := [_]) (cs := []) rfl trivial ?_
                refine aw_iret eX12_land_17 rfl (Nat.le_refl _) (Nat.le_refl _) ?_
                exact pe_i (by rw [up_c (by decide)]; exact g1.1) rfl rfl))
    exact ⟨c, r, l.up2 (by decide) c1.2.1 c1.2.2, t, q⟩
  · refine ⟨-1, μ, ν, μ, ?_, ?_, by decide, h, SR.rf⟩
    · refine AMet.of kX11_land.1 (Nat.le_of_ble_eq_true rfl) rfl ?_
      refine aw_blk oX11_land_0 (pc' := 1) (ls' := [_, _, _]) (st' := [_]) (cs := []) rfl trivial ?_
      refine aw_ciS (rest := []) (c_X11_isSeer (by omega)) kX11_isSeer eX11_land_1 lX11_land_1 rfl rfl (Nat.le_of_ble_eq_true rfl) ⟨Nat.le_of_ble_eq_true rfl, Nat.le_of_ble_eq_true rfl⟩ ⟨Nat.le_refl _, Nat.le_refl _⟩ ?_
      refine aw_if_eq (tgt := 16) eX11_land_4 (by decide) bt_r (fun hh => have h68 := bt0 hh; ?_) (fun hh => have h68 := bt1 hh; ?_)
      · first
        | (exfalso; omega; done)
        | (refine aw_blk oX11_land_16 (pc' := 17) (ls' := [_, _, _]) (st' := [_]) (cs := []) rfl trivial ?_
           refine aw_iret eX11_land_17 rfl (Nat.le_refl _) (Nat.le_refl _) ?_
           exact pe_i rfl rfl rfl)
      · first
        | (exfalso; omega; done)
        | (refine aw_blk oX11_land_7 (pc' := 10) (ls' := [_, _, _]) (st' := [_, _, _]) (cs := []) rfl trivial ?_
           refine aw_ciS (rest := []) (c_X11_between (by omega) (by omega) (by omega)) kX11_between eX11_land_10 lX11_land_10 rfl rfl (Nat.le_of_ble_eq_true rfl) ⟨Nat.le_of_ble_eq_true rfl, Nat.le_of_ble_eq_true rfl⟩ ⟨Nat.le_refl _, Nat.le_refl _⟩ ?_
           refine aw_if_ne (tgt := 18) eX11_land_13 (by decide) bt_r (fun hh => have h69 := bt1 hh; ?_) (fun hh => have h69 := bt0 hh; ?_)
           · first
             | (exfalso; omega; done)
             | (refine aw_blk oX11_land_18 (pc' := 24) (ls' := [_, _, _]) (st' := [_, _, _]) (cs := []) rfl trivial ?_
                refine aw_ciV (rest := []) (c_changeLand (by omega)) kX7_changeLand eX11_land_24 lX11_land_24 rfl rfl rfl rfl (Nat.le_of_ble_eq_true rfl) ⟨Nat.le_of_ble_eq_true rfl, Nat.le_of_ble_eq_true rfl⟩ ⟨Nat.le_refl _, Nat.le_refl _⟩ ?_
                refine aw_iret eX11_land_27 rfl (Nat.le_refl _) (Nat.le_refl _) ?_
                exact pe_i rfl rfl rfl)
           · first
             | (exfalso; omega; done)
             | (refine aw_blk oX11_land_16 (pc' := 17) (ls' := [_, _, _]) (st' := [_]) (cs := []) rfl trivial ?_
                refine aw_iret eX11_land_17 rfl (Nat.le_refl _) (Nat.le_refl _) ?_
                exact pe_i rfl rfl rfl))
    · refine AMet.of kX12_land.1 (Nat.le_of_ble_eq_true rfl) rfl ?_
      refine aw_blk oX12_land_0 (pc' := 1) (ls' := [_, _, _, _]) (st' := [_]) (cs := []) rfl trivial ?_
      refine aw_ciS (rest := []) (c_X12_isSeer (by omega)) kX12_isSeer eX12_land_1 lX12_land_1 rfl rfl (Nat.le_of_ble_eq_true rfl) ⟨Nat.le_of_ble_eq_true rfl, Nat.le_of_ble_eq_true rfl⟩ ⟨Nat.le_refl _, Nat.le_refl _⟩ ?_
      refine aw_if_eq (tgt := 16) eX12_land_4 (by decide) bt_r (fun hh => have h70 := bt0 hh; ?_) (fun hh => have h70 := bt1 hh; ?_)
      · first
        | (exfalso; omega; done)
        | (refine aw_blk oX12_land_16 (pc' := 17) (ls' := [_, _, _, _]) (st' := [_]) (cs := []) rfl trivial ?_
           refine aw_iret eX12_land_17 rfl (Nat.le_refl _) (Nat.le_refl _) ?_
           exact pe_i rfl rfl rfl)
      · first
        | (exfalso; omega; done)
        | (refine aw_blk oX12_land_7 (pc' := 10) (ls' := [_, _, _, _]) (st' := [_, _, _]) (cs := []) rfl trivial ?_
           refine aw_ciS (rest := []) (c_X12_in (by omega) (by omega) (by omega)) kX12_in eX12_land_10 lX12_land_10 rfl rfl (Nat.le_of_ble_eq_true rfl) ⟨Nat.le_of_ble_eq_true rfl, Nat.le_of_ble_eq_true rfl⟩ ⟨Nat.le_refl _, Nat.le_refl _⟩ ?_
           refine aw_if_ne (tgt := 18) eX12_land_13 (by decide) bt_r (fun hh => have h71 := bt1 hh; ?_) (fun hh => have h71 := bt0 hh; ?_)
           · first
             | (exfalso; omega; done)
             | (refine aw_blk oX12_land_18 (pc' := 33) (ls' := [_, _, _, _]) (st' := [_]) (cs := [(_, _), (_, _)]) rfl (⟨⟨by omega, by omega⟩, ⟨by omega, by omega⟩, trivial⟩) ?_
                refine aw_iret eX12_land_33 rfl (Nat.le_refl _) (Nat.le_refl _) ?_
                exact pe_i rfl rfl rfl)
           · first
             | (exfalso; omega; done)
             | (refine aw_blk oX12_land_16 (pc' := 17) (ls' := [_, _, _, _]) (st' := [_]) (cs := []) rfl trivial ?_
                refine aw_iret eX12_land_17 rfl (Nat.le_refl _) (Nat.le_refl _) ?_
                exact pe_i rfl rfl rfl))
theorem c_X7_add {κ : KX} {μ : MM} {ν : ML} {a b c d e : Int} (hn : 0 ≤ μ 38 5 ∧ μ 38 5 < 12) : AE κ 0 mX7_add [aR 38, aI a, aI b, aI c, aI d, aI e] μ ν (some (aI (μ 38 5))) (up (up (up (up (up (up μ 39 (μ 38 5) a) 40 (μ 38 5) b) 41 (μ 38 5) c) 42 (μ 38 5) d) 43 (μ 38 5) e) 38 5 (μ 38 5 + 1)) ν := by
  refine AMet.of kX7_add.1 (Nat.le_of_ble_eq_true rfl) rfl ?_
  refine aw_blk oX7_add_0 (pc' := 68) (ls' := [_, _, _, _, _, _]) (st' := [_]) (cs := [(_, _), (_, _), (_, _), (_, _), (_, _)]) rfl (⟨⟨by first | omega | exact hn.1 | exact hn.2, by first | omega | exact hn.1 | exact hn.2⟩, ⟨by first | omega | exact hn.1 | exact hn.2, by first | omega | exact hn.1 | exact hn.2⟩, ⟨by first | omega | exact hn.1 | exact hn.2, by first | omega | exact hn.1 | exact hn.2⟩, ⟨by first | omega | exact hn.1 | exact hn.2, by first | omega | exact hn.1 | exact hn.2⟩, ⟨by first | omega | exact hn.1 | exact hn.2, by first | omega | exact hn.1 | exact hn.2⟩, trivial⟩) ?_
  refine aw_iret eX7_add_68 rfl (Nat.le_refl _) (Nat.le_refl _) ?_
  refine pe_i ?_ rfl rfl
  rw [up_at]
  show μ 38 5 + 1 - 1 = μ 38 5
  omega
theorem up6755 {μ : MM} {i v j : Int} : up μ 67 i v 55 j = μ 55 j := up_c (by decide)
theorem law_right {κ : KX} {μ : MM} {ν : ML} {a b c d e : Int} (h : RR μ ν) (ha : R32 a) (hb : R32 b) (hc : R32 c) (hd : R32 d) (he : R32 e) : LawX (fun μ2 ν2 => RR μ2 ν2 ∧ SR (55 :: csR) μ μ2 ∧ SF [16] μ μ2 ∧ ν2 = ν) κ mX11_right mX12_right [aI a, aI b, aI c, aI d, aI e] μ ν := by
  obtain ⟨cn, r, l, t, q⟩ := id h
  by_cases c1 : (0 ≤ a ∧ a ≤ 5) ∧ (0 ≤ b ∧ b ≤ 3)
  · by_cases c2 : (0 ≤ c ∧ c ≤ 999) ∧ (c ≤ d ∧ d ≤ 999) ∧ (1 ≤ e ∧ e ≤ 20)
    · by_cases c3 : μ 38 5 = 12
      · refine ⟨-4, μ, ν, μ, ?_, ?_, by decide, h, SR.rf, fun _ _ => rfl, rfl⟩
        · refine AMet.of kX11_right.1 (Nat.le_of_ble_eq_true rfl) rfl ?_
          refine aw_blk oX11_right_0 (pc' := 1) (ls' := [_, _, _, _, _, _]) (st' := [_]) (cs := []) rfl trivial ?_
          refine aw_ciS (rest := []) (c_X11_isFilm (by omega)) kX11_isFilm eX11_right_1 lX11_right_1 rfl rfl (Nat.le_of_ble_eq_true rfl) ⟨Nat.le_of_ble_eq_true rfl, Nat.le_of_ble_eq_true rfl⟩ ⟨Nat.le_refl _, Nat.le_refl _⟩ ?_
          refine aw_if_eq (tgt := 16) eX11_right_4 (by decide) bt_r (fun hh => have h72 := bt0 hh; ?_) (fun hh => have h72 := bt1 hh; ?_)
          · first
            | (exfalso; omega; done)
            | (refine aw_blk oX11_right_16 (pc' := 17) (ls' := [_, _, _, _, _, _]) (st' := [_]) (cs := []) rfl trivial ?_
               refine aw_iret eX11_right_17 rfl (Nat.le_refl _) (Nat.le_refl _) ?_
               exact pe_i rfl rfl rfl)
          · first
            | (exfalso; omega; done)
            | (refine aw_blk oX11_right_7 (pc' := 10) (ls' := [_, _, _, _, _, _]) (st' := [_, _, _]) (cs := []) rfl trivial ?_
               refine aw_ciS (rest := []) (c_X11_between (by omega) (by omega) (by omega)) kX11_between eX11_right_10 lX11_right_10 rfl rfl (Nat.le_of_ble_eq_true rfl) ⟨Nat.le_of_ble_eq_true rfl, Nat.le_of_ble_eq_true rfl⟩ ⟨Nat.le_refl _, Nat.le_refl _⟩ ?_
               refine aw_if_ne (tgt := 18) eX11_right_13 (by decide) bt_r (fun hh => have h73 := bt1 hh; ?_) (fun hh => have h73 := bt0 hh; ?_)
               · first
                 | (exfalso; omega; done)
                 | (refine aw_blk oX11_right_18 (pc' := 23) (ls' := [_, _, _, _, _, _]) (st' := [_, _, _]) (cs := []) rfl trivial ?_
                    refine aw_ciS (rest := []) (c_X11_between (by omega) (by omega) (by omega)) kX11_between eX11_right_23 lX11_right_23 rfl rfl (Nat.le_of_ble_eq_true rfl) ⟨Nat.le_of_ble_eq_true rfl, Nat.le_of_ble_eq_true rfl⟩ ⟨Nat.le_refl _, Nat.le_refl _⟩ ?_
                    refine aw_if_eq (tgt := 52) eX11_right_26 (by decide) bt_r (fun hh => have h74 := bt0 hh; ?_) (fun hh => have h74 := bt1 hh; ?_)
                    · first
                      | (exfalso; omega; done)
                      | (refine aw_blk oX11_right_52 (pc' := 54) (ls' := [_, _, _, _, _, _]) (st' := [_]) (cs := []) rfl trivial ?_
                         refine aw_iret eX11_right_54 rfl (Nat.le_refl _) (Nat.le_refl _) ?_
                         exact pe_i rfl rfl rfl)
                    · first
                      | (exfalso; omega; done)
                      | (refine aw_blk oX11_right_29 (pc' := 35) (ls' := [_, _, _, _, _, _]) (st' := [_, _, _]) (cs := []) rfl trivial ?_
                         refine aw_ciS (rest := []) (c_X11_between (by omega) (by omega) (by omega)) kX11_between eX11_right_35 lX11_right_35 rfl rfl (Nat.le_of_ble_eq_true rfl) ⟨Nat.le_of_ble_eq_true rfl, Nat.le_of_ble_eq_true rfl⟩ ⟨Nat.le_refl _, Nat.le_refl _⟩ ?_
                         refine aw_if_eq (tgt := 52) eX11_right_38 (by decide) bt_r (fun hh => have h75 := bt0 hh; ?_) (fun hh => have h75 := bt1 hh; ?_)
                         · first
                           | (exfalso; omega; done)
                           | (refine aw_blk oX11_right_52 (pc' := 54) (ls' := [_, _, _, _, _, _]) (st' := [_]) (cs := []) rfl trivial ?_
                              refine aw_iret eX11_right_54 rfl (Nat.le_refl _) (Nat.le_refl _) ?_
                              exact pe_i rfl rfl rfl)
                         · first
                           | (exfalso; omega; done)
                           | (refine aw_blk oX11_right_41 (pc' := 46) (ls' := [_, _, _, _, _, _]) (st' := [_, _, _]) (cs := []) rfl trivial ?_
                              refine aw_ciS (rest := []) (c_X11_between (by omega) (by omega) (by omega)) kX11_between eX11_right_46 lX11_right_46 rfl rfl (Nat.le_of_ble_eq_true rfl) ⟨Nat.le_of_ble_eq_true rfl, Nat.le_of_ble_eq_true rfl⟩ ⟨Nat.le_refl _, Nat.le_refl _⟩ ?_
                              refine aw_if_ne (tgt := 55) eX11_right_49 (by decide) bt_r (fun hh => have h76 := bt1 hh; ?_) (fun hh => have h76 := bt0 hh; ?_)
                              · first
                                | (exfalso; omega; done)
                                | (refine aw_blk oX11_right_55 (pc' := 64) (ls' := [_, _, _, _, _, _]) (st' := [_, _]) (cs := []) rfl trivial ?_
                                   refine aw_icmp_ne (tgt := 70) eX11_right_64 (by decide) (by omega) (by omega) (fun h77 => ?_) (fun h77 => ?_)
                                   · first
                                     | (exfalso; omega; done)
                                     | (refine aw_blk oX11_right_70 (pc' := 81) (ls' := [_, _, _, _, _, _]) (st' := [_, _, _, _, _, _]) (cs := []) rfl trivial ?_
                                        refine aw_ciV (rest := []) (c_X7_add (by omega)) kX7_add eX11_right_81 lX11_right_81 rfl rfl rfl rfl (Nat.le_of_ble_eq_true rfl) ⟨Nat.le_of_ble_eq_true rfl, Nat.le_of_ble_eq_true rfl⟩ ⟨Nat.le_refl _, Nat.le_refl _⟩ ?_
                                        refine aw_iret eX11_right_84 rfl (Nat.le_refl _) (Nat.le_refl _) ?_
                                        exact pe_i rfl rfl rfl)
                                   · first
                                     | (exfalso; omega; done)
                                     | (refine aw_blk oX11_right_67 (pc' := 69) (ls' := [_, _, _, _, _, _]) (st' := [_]) (cs := []) rfl trivial ?_
                                        refine aw_iret eX11_right_69 rfl (Nat.le_refl _) (Nat.le_refl _) ?_
                                        exact pe_i rfl rfl rfl))
                              · first
                                | (exfalso; omega; done)
                                | (refine aw_blk oX11_right_52 (pc' := 54) (ls' := [_, _, _, _, _, _]) (st' := [_]) (cs := []) rfl trivial ?_
                                   refine aw_iret eX11_right_54 rfl (Nat.le_refl _) (Nat.le_refl _) ?_
                                   exact pe_i rfl rfl rfl))))
               · first
                 | (exfalso; omega; done)
                 | (refine aw_blk oX11_right_16 (pc' := 17) (ls' := [_, _, _, _, _, _]) (st' := [_]) (cs := []) rfl trivial ?_
                    refine aw_iret eX11_right_17 rfl (Nat.le_refl _) (Nat.le_refl _) ?_
                    exact pe_i rfl rfl rfl))
        · refine AMet.of kX12_right.1 (Nat.le_of_ble_eq_true rfl) rfl ?_
          refine aw_blk oX12_right_0 (pc' := 1) (ls' := [_, _, _, _, _, _]) (st' := [_]) (cs := []) rfl trivial ?_
          refine aw_ciS (rest := []) (c_X12_isFilm (by omega)) kX12_isFilm eX12_right_1 lX12_right_1 rfl rfl (Nat.le_of_ble_eq_true rfl) ⟨Nat.le_of_ble_eq_true rfl, Nat.le_of_ble_eq_true rfl⟩ ⟨Nat.le_refl _, Nat.le_refl _⟩ ?_
          refine aw_if_eq (tgt := 16) eX12_right_4 (by decide) bt_r (fun hh => have h78 := bt0 hh; ?_) (fun hh => have h78 := bt1 hh; ?_)
          · first
            | (exfalso; omega; done)
            | (refine aw_blk oX12_right_16 (pc' := 17) (ls' := [_, _, _, _, _, _]) (st' := [_]) (cs := []) rfl trivial ?_
               refine aw_iret eX12_right_17 rfl (Nat.le_refl _) (Nat.le_refl _) ?_
               exact pe_i rfl rfl rfl)
          · first
            | (exfalso; omega; done)
            | (refine aw_blk oX12_right_7 (pc' := 10) (ls' := [_, _, _, _, _, _]) (st' := [_, _, _]) (cs := []) rfl trivial ?_
               refine aw_ciS (rest := []) (c_X12_in (by omega) (by omega) (by omega)) kX12_in eX12_right_10 lX12_right_10 rfl rfl (Nat.le_of_ble_eq_true rfl) ⟨Nat.le_of_ble_eq_true rfl, Nat.le_of_ble_eq_true rfl⟩ ⟨Nat.le_refl _, Nat.le_refl _⟩ ?_
               refine aw_if_ne (tgt := 18) eX12_right_13 (by decide) bt_r (fun hh => have h79 := bt1 hh; ?_) (fun hh => have h79 := bt0 hh; ?_)
               · first
                 | (exfalso; omega; done)
                 | (refine aw_blk oX12_right_18 (pc' := 23) (ls' := [_, _, _, _, _, _]) (st' := [_, _, _]) (cs := []) rfl trivial ?_
                    refine aw_ciS (rest := []) (c_X12_in (by omega) (by omega) (by omega)) kX12_in eX12_right_23 lX12_right_23 rfl rfl (Nat.le_of_ble_eq_true rfl) ⟨Nat.le_of_ble_eq_true rfl, Nat.le_of_ble_eq_true rfl⟩ ⟨Nat.le_refl _, Nat.le_refl _⟩ ?_
                    refine aw_if_eq (tgt := 58) eX12_right_26 (by decide) bt_r (fun hh => have h80 := bt0 hh; ?_) (fun hh => have h80 := bt1 hh; ?_)
                    · first
                      | (exfalso; omega; done)
                      | (refine aw_blk oX12_right_58 (pc' := 60) (ls' := [_, _, _, _, _, _]) (st' := [_]) (cs := []) rfl trivial ?_
                         refine aw_iret eX12_right_60 rfl (Nat.le_refl _) (Nat.le_refl _) ?_
                         exact pe_i rfl rfl rfl)
                    · first
                      | (exfalso; omega; done)
                      | (refine aw_blk oX12_right_29 (pc' := 35) (ls' := [_, _, _, _, _, _]) (st' := [_, _, _]) (cs := []) rfl trivial ?_
                         refine aw_ciS (rest := []) (c_X12_in (by omega) (by omega) (by omega)) kX12_in eX12_right_35 lX12_right_35 rfl rfl (Nat.le_of_ble_eq_true rfl) ⟨Nat.le_of_ble_eq_true rfl, Nat.le_of_ble_eq_true rfl⟩ ⟨Nat.le_refl _, Nat.le_refl _⟩ ?_
                         refine aw_if_eq (tgt := 58) eX12_right_38 (by decide) bt_r (fun hh => have h81 := bt0 hh; ?_) (fun hh => have h81 := bt1 hh; ?_)
                         · first
                           | (exfalso; omega; done)
                           | (refine aw_blk oX12_right_58 (pc' := 60) (ls' := [_, _, _, _, _, _]) (st' := [_]) (cs := []) rfl trivial ?_
                              refine aw_iret eX12_right_60 rfl (Nat.le_refl _) (Nat.le_refl _) ?_
                              exact pe_i rfl rfl rfl)
                         · first
                           | (exfalso; omega; done)
                           | (refine aw_blk oX12_right_41 (pc' := 44) (ls' := [_, _, _, _, _, _]) (st' := [_, _]) (cs := []) rfl trivial ?_
                              refine aw_icmp_gt (tgt := 58) eX12_right_44 (by decide) (by omega) (by omega) (fun h82 => ?_) (fun h82 => ?_)
                              · first
                                | (exfalso; omega; done)
                                | (refine aw_blk oX12_right_58 (pc' := 60) (ls' := [_, _, _, _, _, _]) (st' := [_]) (cs := []) rfl trivial ?_
                                   refine aw_iret eX12_right_60 rfl (Nat.le_refl _) (Nat.le_refl _) ?_
                                   exact pe_i rfl rfl rfl)
                              · first
                                | (exfalso; omega; done)
                                | (refine aw_blk oX12_right_47 (pc' := 52) (ls' := [_, _, _, _, _, _]) (st' := [_, _, _]) (cs := []) rfl trivial ?_
                                   refine aw_ciS (rest := []) (c_X12_in (by omega) (by omega) (by omega)) kX12_in eX12_right_52 lX12_right_52 rfl rfl (Nat.le_of_ble_eq_true rfl) ⟨Nat.le_of_ble_eq_true rfl, Nat.le_of_ble_eq_true rfl⟩ ⟨Nat.le_refl _, Nat.le_refl _⟩ ?_
                                   refine aw_if_ne (tgt := 61) eX12_right_55 (by decide) bt_r (fun hh => have h83 := bt1 hh; ?_) (fun hh => have h83 := bt0 hh; ?_)
                                   · first
                                     | (exfalso; omega; done)
                                     | (refine aw_blk oX12_right_61 (pc' := 67) (ls' := [_, _, _, _, _, _]) (st' := [_, _]) (cs := []) rfl trivial ?_
                                        refine aw_icmp_ne (tgt := 73) eX12_right_67 (by decide) (by omega) (by omega) (fun h84 => ?_) (fun h84 => ?_)
                                        · first
                                          | (exfalso; omega; done)
                                          | (refine aw_blk oX12_right_73 (pc' := 159) (ls' := [_, _, _, _, _, _]) (st' := [_]) (cs := [(_, _), (_, _), (_, _), (_, _), (_, _)]) rfl (⟨⟨by omega, by omega⟩, ⟨by omega, by omega⟩, ⟨by omega, by omega⟩, ⟨by omega, by omega⟩, ⟨by omega, by omega⟩, trivial⟩) ?_
                                             refine aw_iret eX12_right_159 rfl (Nat.le_refl _) (Nat.le_refl _) ?_
                                             exact pe_i rfl rfl rfl)
                                        · first
                                          | (exfalso; omega; done)
                                          | (refine aw_blk oX12_right_70 (pc' := 72) (ls' := [_, _, _, _, _, _]) (st' := [_]) (cs := []) rfl trivial ?_
                                             refine aw_iret eX12_right_72 rfl (Nat.le_refl _) (Nat.le_refl _) ?_
                                             exact pe_i rfl rfl rfl))
                                   · first
                                     | (exfalso; omega; done)
                                     | (refine aw_blk oX12_right_58 (pc' := 60) (ls' := [_, _, _, _, _, _]) (st' := [_]) (cs := []) rfl trivial ?_
                                        refine aw_iret eX12_right_60 rfl (Nat.le_refl _) (Nat.le_refl _) ?_
                                        exact pe_i rfl rfl rfl)))))
               · first
                 | (exfalso; omega; done)
                 | (refine aw_blk oX12_right_16 (pc' := 17) (ls' := [_, _, _, _, _, _]) (st' := [_]) (cs := []) rfl trivial ?_
                    refine aw_iret eX12_right_17 rfl (Nat.le_refl _) (Nat.le_refl _) ?_
                    exact pe_i rfl rfl rfl))
      · generalize hN : μ 38 5 = N at cn c3
        have hX := c_X7_add (κ := κ) (μ := μ) (ν := ν) (a := a) (b := b) (c := c) (d := d) (e := e) (by omega)
        rw [hN] at hX
        obtain ⟨μ1, hμ1⟩ : ∃ m, m = up (up (up (up (up (up μ 39 N a) 40 N b) 41 N c) 42 N d) 43 N e) 38 5 (N + 1) := ⟨_, rfl⟩
        rw [← hμ1] at hX
        have k16 : μ1 55 16 = N := by rw [hμ1]; exact cn.2.2
        obtain ⟨μ2, hμ2⟩ : ∃ m, m = up (up (up (up (up (up μ1 67 (5 * N) a) 67 (5 * N + 1) b) 67 (5 * N + 2) c) 67 (5 * N + 3) d) 67 (5 * N + 4) e) 55 16 (N + 1) := ⟨_, rfl⟩
        refine ⟨N, μ1, ν, μ2, ?_, ?_, by omega, ?_, ?_, ?_, rfl⟩
        · skip
          refine AMet.of kX11_right.1 (Nat.le_of_ble_eq_true rfl) rfl ?_
          refine aw_blk oX11_right_0 (pc' := 1) (ls' := [_, _, _, _, _, _]) (st' := [_]) (cs := []) rfl trivial ?_
          refine aw_ciS (rest := []) (c_X11_isFilm (by omega)) kX11_isFilm eX11_right_1 lX11_right_1 rfl rfl (Nat.le_of_ble_eq_true rfl) ⟨Nat.le_of_ble_eq_true rfl, Nat.le_of_ble_eq_true rfl⟩ ⟨Nat.le_refl _, Nat.le_refl _⟩ ?_
          refine aw_if_eq (tgt := 16) eX11_right_4 (by decide) bt_r (fun hh => have h85 := bt0 hh; ?_) (fun hh => have h85 := bt1 hh; ?_)
          · first
            | (exfalso; omega; done)
            | (refine aw_blk oX11_right_16 (pc' := 17) (ls' := [_, _, _, _, _, _]) (st' := [_]) (cs := []) rfl trivial ?_
               refine aw_iret eX11_right_17 rfl (Nat.le_refl _) (Nat.le_refl _) ?_
               exact pe_i rfl rfl rfl)
          · first
            | (exfalso; omega; done)
            | (refine aw_blk oX11_right_7 (pc' := 10) (ls' := [_, _, _, _, _, _]) (st' := [_, _, _]) (cs := []) rfl trivial ?_
               refine aw_ciS (rest := []) (c_X11_between (by omega) (by omega) (by omega)) kX11_between eX11_right_10 lX11_right_10 rfl rfl (Nat.le_of_ble_eq_true rfl) ⟨Nat.le_of_ble_eq_true rfl, Nat.le_of_ble_eq_true rfl⟩ ⟨Nat.le_refl _, Nat.le_refl _⟩ ?_
               refine aw_if_ne (tgt := 18) eX11_right_13 (by decide) bt_r (fun hh => have h86 := bt1 hh; ?_) (fun hh => have h86 := bt0 hh; ?_)
               · first
                 | (exfalso; omega; done)
                 | (refine aw_blk oX11_right_18 (pc' := 23) (ls' := [_, _, _, _, _, _]) (st' := [_, _, _]) (cs := []) rfl trivial ?_
                    refine aw_ciS (rest := []) (c_X11_between (by omega) (by omega) (by omega)) kX11_between eX11_right_23 lX11_right_23 rfl rfl (Nat.le_of_ble_eq_true rfl) ⟨Nat.le_of_ble_eq_true rfl, Nat.le_of_ble_eq_true rfl⟩ ⟨Nat.le_refl _, Nat.le_refl _⟩ ?_
                    refine aw_if_eq (tgt := 52) eX11_right_26 (by decide) bt_r (fun hh => have h87 := bt0 hh; ?_) (fun hh => have h87 := bt1 hh; ?_)
                    · first
                      | (exfalso; omega; done)
                      | (refine aw_blk oX11_right_52 (pc' := 54) (ls' := [_, _, _, _, _, _]) (st' := [_]) (cs := []) rfl trivial ?_
                         refine aw_iret eX11_right_54 rfl (Nat.le_refl _) (Nat.le_refl _) ?_
                         exact pe_i rfl rfl rfl)
                    · first
                      | (exfalso; omega; done)
                      | (refine aw_blk oX11_right_29 (pc' := 35) (ls' := [_, _, _, _, _, _]) (st' := [_, _, _]) (cs := []) rfl trivial ?_
                         refine aw_ciS (rest := []) (c_X11_between (by omega) (by omega) (by omega)) kX11_between eX11_right_35 lX11_right_35 rfl rfl (Nat.le_of_ble_eq_true rfl) ⟨Nat.le_of_ble_eq_true rfl, Nat.le_of_ble_eq_true rfl⟩ ⟨Nat.le_refl _, Nat.le_refl _⟩ ?_
                         refine aw_if_eq (tgt := 52) eX11_right_38 (by decide) bt_r (fun hh => have h88 := bt0 hh; ?_) (fun hh => have h88 := bt1 hh; ?_)
                         · first
                           | (exfalso; omega; done)
                           | (refine aw_blk oX11_right_52 (pc' := 54) (ls' := [_, _, _, _, _, _]) (st' := [_]) (cs := []) rfl trivial ?_
                              refine aw_iret eX11_right_54 rfl (Nat.le_refl _) (Nat.le_refl _) ?_
                              exact pe_i rfl rfl rfl)
                         · first
                           | (exfalso; omega; done)
                           | (refine aw_blk oX11_right_41 (pc' := 46) (ls' := [_, _, _, _, _, _]) (st' := [_, _, _]) (cs := []) rfl trivial ?_
                              refine aw_ciS (rest := []) (c_X11_between (by omega) (by omega) (by omega)) kX11_between eX11_right_46 lX11_right_46 rfl rfl (Nat.le_of_ble_eq_true rfl) ⟨Nat.le_of_ble_eq_true rfl, Nat.le_of_ble_eq_true rfl⟩ ⟨Nat.le_refl _, Nat.le_refl _⟩ ?_
                              refine aw_if_ne (tgt := 55) eX11_right_49 (by decide) bt_r (fun hh => have h89 := bt1 hh; ?_) (fun hh => have h89 := bt0 hh; ?_)
                              · first
                                | (exfalso; omega; done)
                                | (refine aw_blk oX11_right_55 (pc' := 64) (ls' := [_, _, _, _, _, _]) (st' := [_, _]) (cs := []) rfl trivial ?_
                                   refine aw_icmp_ne (tgt := 70) eX11_right_64 (by decide) (by omega) (by omega) (fun h90 => ?_) (fun h90 => ?_)
                                   · first
                                     | (exfalso; omega; done)
                                     | (refine aw_blk oX11_right_70 (pc' := 81) (ls' := [_, _, _, _, _, _]) (st' := [_, _, _, _, _, _]) (cs := []) rfl trivial ?_
                                        refine aw_ciV (rest := []) (hX) kX7_add eX11_right_81 lX11_right_81 rfl rfl rfl rfl (Nat.le_of_ble_eq_true rfl) ⟨Nat.le_of_ble_eq_true rfl, Nat.le_of_ble_eq_true rfl⟩ ⟨Nat.le_refl _, Nat.le_refl _⟩ ?_
                                        refine aw_iret eX11_right_84 rfl (Nat.le_refl _) (Nat.le_refl _) ?_
                                        exact pe_i rfl rfl rfl)
                                   · first
                                     | (exfalso; omega; done)
                                     | (refine aw_blk oX11_right_67 (pc' := 69) (ls' := [_, _, _, _, _, _]) (st' := [_]) (cs := []) rfl trivial ?_
                                        refine aw_iret eX11_right_69 rfl (Nat.le_refl _) (Nat.le_refl _) ?_
                                        exact pe_i rfl rfl rfl))
                              · first
                                | (exfalso; omega; done)
                                | (refine aw_blk oX11_right_52 (pc' := 54) (ls' := [_, _, _, _, _, _]) (st' := [_]) (cs := []) rfl trivial ?_
                                   refine aw_iret eX11_right_54 rfl (Nat.le_refl _) (Nat.le_refl _) ?_
                                   exact pe_i rfl rfl rfl))))
               · first
                 | (exfalso; omega; done)
                 | (refine aw_blk oX11_right_16 (pc' := 17) (ls' := [_, _, _, _, _, _]) (st' := [_]) (cs := []) rfl trivial ?_
                    refine aw_iret eX11_right_17 rfl (Nat.le_refl _) (Nat.le_refl _) ?_
                    exact pe_i rfl rfl rfl))
        · skip
          have K73 : AX κ mX12_right 60 (PE (some (aI N)) μ2 ν) 73 [aR 55, aI a, aI b, aI c, aI d, aI e] [] μ1 ν := by
            refine aw_blk oX12_right_73 (pc' := 159) (ls' := [_, _, _, _, _, _]) (st' := [_]) (cs := [(_, _), (_, _), (_, _), (_, _), (_, _)]) rfl (⟨⟨by (simp only [up6755, k16]; omega), by (simp only [up6755, k16]; omega)⟩, ⟨by (simp only [up6755, k16]; omega), by (simp only [up6755, k16]; omega)⟩, ⟨by (simp only [up6755, k16]; omega), by (simp only [up6755, k16]; omega)⟩, ⟨by (simp only [up6755, k16]; omega), by (simp only [up6755, k16]; omega)⟩, ⟨by (simp only [up6755, k16]; omega), by (simp only [up6755, k16]; omega)⟩, trivial⟩) ?_
            refine aw_iret eX12_right_159 rfl (Nat.le_refl _) (Nat.le_refl _) ?_
            refine pe_i ?_ ?_ rfl
            · rw [up_at]; simp only [up6755, k16]; omega
            · rw [hμ2]; simp only [up6755, k16]
          refine AMet.of kX12_right.1 (Nat.le_of_ble_eq_true rfl) rfl ?_
          refine aw_blk oX12_right_0 (pc' := 1) (ls' := [_, _, _, _, _, _]) (st' := [_]) (cs := []) rfl trivial ?_
          refine aw_ciS (rest := []) (c_X12_isFilm (by omega)) kX12_isFilm eX12_right_1 lX12_right_1 rfl rfl (Nat.le_of_ble_eq_true rfl) ⟨Nat.le_of_ble_eq_true rfl, Nat.le_of_ble_eq_true rfl⟩ ⟨Nat.le_refl _, Nat.le_refl _⟩ ?_
          refine aw_if_eq (tgt := 16) eX12_right_4 (by decide) bt_r (fun hh => have h91 := bt0 hh; ?_) (fun hh => have h91 := bt1 hh; ?_)
          · first
            | (exfalso; omega; done)
            | (refine aw_blk oX12_right_16 (pc' := 17) (ls' := [_, _, _, _, _, _]) (st' := [_]) (cs := []) rfl trivial ?_
               refine aw_iret eX12_right_17 rfl (Nat.le_refl _) (Nat.le_refl _) ?_
               exact pe_i rfl rfl rfl)
          · first
            | (exfalso; omega; done)
            | (refine aw_blk oX12_right_7 (pc' := 10) (ls' := [_, _, _, _, _, _]) (st' := [_, _, _]) (cs := []) rfl trivial ?_
               refine aw_ciS (rest := []) (c_X12_in (by omega) (by omega) (by omega)) kX12_in eX12_right_10 lX12_right_10 rfl rfl (Nat.le_of_ble_eq_true rfl) ⟨Nat.le_of_ble_eq_true rfl, Nat.le_of_ble_eq_true rfl⟩ ⟨Nat.le_refl _, Nat.le_refl _⟩ ?_
               refine aw_if_ne (tgt := 18) eX12_right_13 (by decide) bt_r (fun hh => have h92 := bt1 hh; ?_) (fun hh => have h92 := bt0 hh; ?_)
               · first
                 | (exfalso; omega; done)
                 | (refine aw_blk oX12_right_18 (pc' := 23) (ls' := [_, _, _, _, _, _]) (st' := [_, _, _]) (cs := []) rfl trivial ?_
                    refine aw_ciS (rest := []) (c_X12_in (by omega) (by omega) (by omega)) kX12_in eX12_right_23 lX12_right_23 rfl rfl (Nat.le_of_ble_eq_true rfl) ⟨Nat.le_of_ble_eq_true rfl, Nat.le_of_ble_eq_true rfl⟩ ⟨Nat.le_refl _, Nat.le_refl _⟩ ?_
                    refine aw_if_eq (tgt := 58) eX12_right_26 (by decide) bt_r (fun hh => have h93 := bt0 hh; ?_) (fun hh => have h93 := bt1 hh; ?_)
                    · first
                      | (exfalso; omega; done)
                      | (refine aw_blk oX12_right_58 (pc' := 60) (ls' := [_, _, _, _, _, _]) (st' := [_]) (cs := []) rfl trivial ?_
                         refine aw_iret eX12_right_60 rfl (Nat.le_refl _) (Nat.le_refl _) ?_
                         exact pe_i rfl rfl rfl)
                    · first
                      | (exfalso; omega; done)
                      | (refine aw_blk oX12_right_29 (pc' := 35) (ls' := [_, _, _, _, _, _]) (st' := [_, _, _]) (cs := []) rfl trivial ?_
                         refine aw_ciS (rest := []) (c_X12_in (by omega) (by omega) (by omega)) kX12_in eX12_right_35 lX12_right_35 rfl rfl (Nat.le_of_ble_eq_true rfl) ⟨Nat.le_of_ble_eq_true rfl, Nat.le_of_ble_eq_true rfl⟩ ⟨Nat.le_refl _, Nat.le_refl _⟩ ?_
                         refine aw_if_eq (tgt := 58) eX12_right_38 (by decide) bt_r (fun hh => have h94 := bt0 hh; ?_) (fun hh => have h94 := bt1 hh; ?_)
                         · first
                           | (exfalso; omega; done)
                           | (refine aw_blk oX12_right_58 (pc' := 60) (ls' := [_, _, _, _, _, _]) (st' := [_]) (cs := []) rfl trivial ?_
                              refine aw_iret eX12_right_60 rfl (Nat.le_refl _) (Nat.le_refl _) ?_
                              exact pe_i rfl rfl rfl)
                         · first
                           | (exfalso; omega; done)
                           | (refine aw_blk oX12_right_41 (pc' := 44) (ls' := [_, _, _, _, _, _]) (st' := [_, _]) (cs := []) rfl trivial ?_
                              refine aw_icmp_gt (tgt := 58) eX12_right_44 (by decide) (by omega) (by omega) (fun h95 => ?_) (fun h95 => ?_)
                              · first
                                | (exfalso; omega; done)
                                | (refine aw_blk oX12_right_58 (pc' := 60) (ls' := [_, _, _, _, _, _]) (st' := [_]) (cs := []) rfl trivial ?_
                                   refine aw_iret eX12_right_60 rfl (Nat.le_refl _) (Nat.le_refl _) ?_
                                   exact pe_i rfl rfl rfl)
                              · first
                                | (exfalso; omega; done)
                                | (refine aw_blk oX12_right_47 (pc' := 52) (ls' := [_, _, _, _, _, _]) (st' := [_, _, _]) (cs := []) rfl trivial ?_
                                   refine aw_ciS (rest := []) (c_X12_in (by omega) (by omega) (by omega)) kX12_in eX12_right_52 lX12_right_52 rfl rfl (Nat.le_of_ble_eq_true rfl) ⟨Nat.le_of_ble_eq_true rfl, Nat.le_of_ble_eq_true rfl⟩ ⟨Nat.le_refl _, Nat.le_refl _⟩ ?_
                                   refine aw_if_ne (tgt := 61) eX12_right_55 (by decide) bt_r (fun hh => have h96 := bt1 hh; ?_) (fun hh => have h96 := bt0 hh; ?_)
                                   · first
                                     | (exfalso; omega; done)
                                     | (refine aw_blk oX12_right_61 (pc' := 67) (ls' := [_, _, _, _, _, _]) (st' := [_, _]) (cs := []) rfl trivial ?_
                                        refine aw_icmp_ne (tgt := 73) eX12_right_67 (by decide) (by omega) (by omega) (fun h97 => ?_) (fun h97 => ?_)
                                        · first
                                          | (exfalso; omega; done)
                                          | (exact K73)
                                        · first
                                          | (exfalso; omega; done)
                                          | (refine aw_blk oX12_right_70 (pc' := 72) (ls' := [_, _, _, _, _, _]) (st' := [_]) (cs := []) rfl trivial ?_
                                             refine aw_iret eX12_right_72 rfl (Nat.le_refl _) (Nat.le_refl _) ?_
                                             exact pe_i rfl rfl rfl))
                                   · first
                                     | (exfalso; omega; done)
                                     | (refine aw_blk oX12_right_58 (pc' := 60) (ls' := [_, _, _, _, _, _]) (st' := [_]) (cs := []) rfl trivial ?_
                                        refine aw_iret eX12_right_60 rfl (Nat.le_refl _) (Nat.le_refl _) ?_
                                        exact pe_i rfl rfl rfl)))))
               · first
                 | (exfalso; omega; done)
                 | (refine aw_blk oX12_right_16 (pc' := 17) (ls' := [_, _, _, _, _, _]) (st' := [_]) (cs := []) rfl trivial ?_
                    refine aw_iret eX12_right_17 rfl (Nat.le_refl _) (Nat.le_refl _) ?_
                    exact pe_i rfl rfl rfl))
        · have m39 : ∀ x, μ2 39 x = if x = N then a else μ 39 x := fun x => by rw [hμ2, hμ1]; simp [up]
          have m40 : ∀ x, μ2 40 x = if x = N then b else μ 40 x := fun x => by rw [hμ2, hμ1]; simp [up]
          have m41 : ∀ x, μ2 41 x = if x = N then c else μ 41 x := fun x => by rw [hμ2, hμ1]; simp [up]
          have m42 : ∀ x, μ2 42 x = if x = N then d else μ 42 x := fun x => by rw [hμ2, hμ1]; simp [up]
          have m43 : ∀ x, μ2 43 x = if x = N then e else μ 43 x := fun x => by rw [hμ2, hμ1]; simp [up]
          have m67 : ∀ x, μ2 67 x = if x = 5 * N + 4 then e else if x = 5 * N + 3 then d else if x = 5 * N + 2 then c else if x = 5 * N + 1 then b else if x = 5 * N then a else μ 67 x := fun x => by rw [hμ2, hμ1]; simp [up]
          have m38 : μ2 38 5 = N + 1 := by rw [hμ2, hμ1]; simp [up]
          have m55 : μ2 55 16 = N + 1 := by rw [hμ2]; simp [up]
          have m44 : μ2 44 = μ 44 := by rw [hμ2, hμ1]; rfl
          have m68 : μ2 68 = μ 68 := by rw [hμ2, hμ1]; rfl
          have m46 : μ2 46 = μ 46 := by rw [hμ2, hμ1]; rfl
          have m70 : μ2 70 = μ 70 := by rw [hμ2, hμ1]; rfl
          have m69 : μ2 69 = μ 69 := by rw [hμ2, hμ1]; rfl
          refine ⟨⟨by omega, by omega, by omega⟩, fun x h0 h1 => ?_, ?_, ?_, ?_⟩
          · have old := r x h0 h1
            unfold rgt at old ⊢
            rw [m39, m40, m41, m42, m43, m67, m67, m67, m67, m67]
            by_cases e1 : x = N
            · subst e1
              repeat (first | rw [if_pos (by omega)] | rw [if_neg (by omega)])
              omega
            · repeat (first | rw [if_pos (by omega)] | rw [if_neg (by omega)])
              exact old
          · unfold PR; rw [m44, m68]; exact l
          · unfold PR; rw [m46, m70]; exact t
          · rw [m69]; exact q
        · rw [hμ2, hμ1]
          exact (((((((((((SR.rf.put (by decide)).put (by decide)).put (by decide)).put (by decide)).put (by decide)).put (by decide)).put (by decide)).put (by decide)).put (by decide)).put (by decide)).put (by decide)).put (by decide)
        · intro j hj
          rw [hμ2, up_ne (Or.inr (fun e => hj (by rw [e]; simp))), hμ1]
          rfl
    · refine ⟨-2, μ, ν, μ, ?_, ?_, by decide, h, SR.rf, fun _ _ => rfl, rfl⟩
      · refine AMet.of kX11_right.1 (Nat.le_of_ble_eq_true rfl) rfl ?_
        refine aw_blk oX11_right_0 (pc' := 1) (ls' := [_, _, _, _, _, _]) (st' := [_]) (cs := []) rfl trivial ?_
        refine aw_ciS (rest := []) (c_X11_isFilm (by omega)) kX11_isFilm eX11_right_1 lX11_right_1 rfl rfl (Nat.le_of_ble_eq_true rfl) ⟨Nat.le_of_ble_eq_true rfl, Nat.le_of_ble_eq_true rfl⟩ ⟨Nat.le_refl _, Nat.le_refl _⟩ ?_
        refine aw_if_eq (tgt := 16) eX11_right_4 (by decide) bt_r (fun hh => have h98 := bt0 hh; ?_) (fun hh => have h98 := bt1 hh; ?_)
        · first
          | (exfalso; omega; done)
          | (refine aw_blk oX11_right_16 (pc' := 17) (ls' := [_, _, _, _, _, _]) (st' := [_]) (cs := []) rfl trivial ?_
             refine aw_iret eX11_right_17 rfl (Nat.le_refl _) (Nat.le_refl _) ?_
             exact pe_i rfl rfl rfl)
        · first
          | (exfalso; omega; done)
          | (refine aw_blk oX11_right_7 (pc' := 10) (ls' := [_, _, _, _, _, _]) (st' := [_, _, _]) (cs := []) rfl trivial ?_
             refine aw_ciS (rest := []) (c_X11_between (by omega) (by omega) (by omega)) kX11_between eX11_right_10 lX11_right_10 rfl rfl (Nat.le_of_ble_eq_true rfl) ⟨Nat.le_of_ble_eq_true rfl, Nat.le_of_ble_eq_true rfl⟩ ⟨Nat.le_refl _, Nat.le_refl _⟩ ?_
             refine aw_if_ne (tgt := 18) eX11_right_13 (by decide) bt_r (fun hh => have h99 := bt1 hh; ?_) (fun hh => have h99 := bt0 hh; ?_)
             · first
               | (exfalso; omega; done)
               | (refine aw_blk oX11_right_18 (pc' := 23) (ls' := [_, _, _, _, _, _]) (st' := [_, _, _]) (cs := []) rfl trivial ?_
                  refine aw_ciS (rest := []) (c_X11_between (by omega) (by omega) (by omega)) kX11_between eX11_right_23 lX11_right_23 rfl rfl (Nat.le_of_ble_eq_true rfl) ⟨Nat.le_of_ble_eq_true rfl, Nat.le_of_ble_eq_true rfl⟩ ⟨Nat.le_refl _, Nat.le_refl _⟩ ?_
                  refine aw_if_eq (tgt := 52) eX11_right_26 (by decide) bt_r (fun hh => have h100 := bt0 hh; ?_) (fun hh => have h100 := bt1 hh; ?_)
                  · first
                    | (exfalso; omega; done)
                    | (refine aw_blk oX11_right_52 (pc' := 54) (ls' := [_, _, _, _, _, _]) (st' := [_]) (cs := []) rfl trivial ?_
                       refine aw_iret eX11_right_54 rfl (Nat.le_refl _) (Nat.le_refl _) ?_
                       exact pe_i rfl rfl rfl)
                  · first
                    | (exfalso; omega; done)
                    | (refine aw_blk oX11_right_29 (pc' := 35) (ls' := [_, _, _, _, _, _]) (st' := [_, _, _]) (cs := []) rfl trivial ?_
                       refine aw_ciS (rest := []) (c_X11_between (by omega) (by omega) (by omega)) kX11_between eX11_right_35 lX11_right_35 rfl rfl (Nat.le_of_ble_eq_true rfl) ⟨Nat.le_of_ble_eq_true rfl, Nat.le_of_ble_eq_true rfl⟩ ⟨Nat.le_refl _, Nat.le_refl _⟩ ?_
                       refine aw_if_eq (tgt := 52) eX11_right_38 (by decide) bt_r (fun hh => have h101 := bt0 hh; ?_) (fun hh => have h101 := bt1 hh; ?_)
                       · first
                         | (exfalso; omega; done)
                         | (refine aw_blk oX11_right_52 (pc' := 54) (ls' := [_, _, _, _, _, _]) (st' := [_]) (cs := []) rfl trivial ?_
                            refine aw_iret eX11_right_54 rfl (Nat.le_refl _) (Nat.le_refl _) ?_
                            exact pe_i rfl rfl rfl)
                       · first
                         | (exfalso; omega; done)
                         | (refine aw_blk oX11_right_41 (pc' := 46) (ls' := [_, _, _, _, _, _]) (st' := [_, _, _]) (cs := []) rfl trivial ?_
                            refine aw_ciS (rest := []) (c_X11_between (by omega) (by omega) (by omega)) kX11_between eX11_right_46 lX11_right_46 rfl rfl (Nat.le_of_ble_eq_true rfl) ⟨Nat.le_of_ble_eq_true rfl, Nat.le_of_ble_eq_true rfl⟩ ⟨Nat.le_refl _, Nat.le_refl _⟩ ?_
                            refine aw_if_ne (tgt := 55) eX11_right_49 (by decide) bt_r (fun hh => have h102 := bt1 hh; ?_) (fun hh => have h102 := bt0 hh; ?_)
                            · first
                              | (exfalso; omega; done)
                              | (refine aw_blk oX11_right_55 (pc' := 64) (ls' := [_, _, _, _, _, _]) (st' := [_, _]) (cs := []) rfl trivial ?_
                                 refine aw_icmp_ne (tgt := 70) eX11_right_64 (by decide) (by omega) (by omega) (fun h103 => ?_) (fun h103 => ?_)
                                 · first
                                   | (exfalso; omega; done)
                                   | (refine aw_blk oX11_right_70 (pc' := 81) (ls' := [_, _, _, _, _, _]) (st' := [_, _, _, _, _, _]) (cs := []) rfl trivial ?_
                                      refine aw_ciV (rest := []) (hX) kX7_add eX11_right_81 lX11_right_81 rfl rfl rfl rfl (Nat.le_of_ble_eq_true rfl) ⟨Nat.le_of_ble_eq_true rfl, Nat.le_of_ble_eq_true rfl⟩ ⟨Nat.le_refl _, Nat.le_refl _⟩ ?_
                                      refine aw_iret eX11_right_84 rfl (Nat.le_refl _) (Nat.le_refl _) ?_
                                      exact pe_i rfl rfl rfl)
                                 · first
                                   | (exfalso; omega; done)
                                   | (refine aw_blk oX11_right_67 (pc' := 69) (ls' := [_, _, _, _, _, _]) (st' := [_]) (cs := []) rfl trivial ?_
                                      refine aw_iret eX11_right_69 rfl (Nat.le_refl _) (Nat.le_refl _) ?_
                                      exact pe_i rfl rfl rfl))
                            · first
                              | (exfalso; omega; done)
                              | (refine aw_blk oX11_right_52 (pc' := 54) (ls' := [_, _, _, _, _, _]) (st' := [_]) (cs := []) rfl trivial ?_
                                 refine aw_iret eX11_right_54 rfl (Nat.le_refl _) (Nat.le_refl _) ?_
                                 exact pe_i rfl rfl rfl))))
             · first
               | (exfalso; omega; done)
               | (refine aw_blk oX11_right_16 (pc' := 17) (ls' := [_, _, _, _, _, _]) (st' := [_]) (cs := []) rfl trivial ?_
                  refine aw_iret eX11_right_17 rfl (Nat.le_refl _) (Nat.le_refl _) ?_
                  exact pe_i rfl rfl rfl))
      · refine AMet.of kX12_right.1 (Nat.le_of_ble_eq_true rfl) rfl ?_
        refine aw_blk oX12_right_0 (pc' := 1) (ls' := [_, _, _, _, _, _]) (st' := [_]) (cs := []) rfl trivial ?_
        refine aw_ciS (rest := []) (c_X12_isFilm (by omega)) kX12_isFilm eX12_right_1 lX12_right_1 rfl rfl (Nat.le_of_ble_eq_true rfl) ⟨Nat.le_of_ble_eq_true rfl, Nat.le_of_ble_eq_true rfl⟩ ⟨Nat.le_refl _, Nat.le_refl _⟩ ?_
        refine aw_if_eq (tgt := 16) eX12_right_4 (by decide) bt_r (fun hh => have h104 := bt0 hh; ?_) (fun hh => have h104 := bt1 hh; ?_)
        · first
          | (exfalso; omega; done)
          | (refine aw_blk oX12_right_16 (pc' := 17) (ls' := [_, _, _, _, _, _]) (st' := [_]) (cs := []) rfl trivial ?_
             refine aw_iret eX12_right_17 rfl (Nat.le_refl _) (Nat.le_refl _) ?_
             exact pe_i rfl rfl rfl)
        · first
          | (exfalso; omega; done)
          | (refine aw_blk oX12_right_7 (pc' := 10) (ls' := [_, _, _, _, _, _]) (st' := [_, _, _]) (cs := []) rfl trivial ?_
             refine aw_ciS (rest := []) (c_X12_in (by omega) (by omega) (by omega)) kX12_in eX12_right_10 lX12_right_10 rfl rfl (Nat.le_of_ble_eq_true rfl) ⟨Nat.le_of_ble_eq_true rfl, Nat.le_of_ble_eq_true rfl⟩ ⟨Nat.le_refl _, Nat.le_refl _⟩ ?_
             refine aw_if_ne (tgt := 18) eX12_right_13 (by decide) bt_r (fun hh => have h105 := bt1 hh; ?_) (fun hh => have h105 := bt0 hh; ?_)
             · first
               | (exfalso; omega; done)
               | (refine aw_blk oX12_right_18 (pc' := 23) (ls' := [_, _, _, _, _, _]) (st' := [_, _, _]) (cs := []) rfl trivial ?_
                  refine aw_ciS (rest := []) (c_X12_in (by omega) (by omega) (by omega)) kX12_in eX12_right_23 lX12_right_23 rfl rfl (Nat.le_of_ble_eq_true rfl) ⟨Nat.le_of_ble_eq_true rfl, Nat.le_of_ble_eq_true rfl⟩ ⟨Nat.le_refl _, Nat.le_refl _⟩ ?_
                  refine aw_if_eq (tgt := 58) eX12_right_26 (by decide) bt_r (fun hh => have h106 := bt0 hh; ?_) (fun hh => have h106 := bt1 hh; ?_)
                  · first
                    | (exfalso; omega; done)
                    | (refine aw_blk oX12_right_58 (pc' := 60) (ls' := [_, _, _, _, _, _]) (st' := [_]) (cs := []) rfl trivial ?_
                       refine aw_iret eX12_right_60 rfl (Nat.le_refl _) (Nat.le_refl _) ?_
                       exact pe_i rfl rfl rfl)
                  · first
                    | (exfalso; omega; done)
                    | (refine aw_blk oX12_right_29 (pc' := 35) (ls' := [_, _, _, _, _, _]) (st' := [_, _, _]) (cs := []) rfl trivial ?_
                       refine aw_ciS (rest := []) (c_X12_in (by omega) (by omega) (by omega)) kX12_in eX12_right_35 lX12_right_35 rfl rfl (Nat.le_of_ble_eq_true rfl) ⟨Nat.le_of_ble_eq_true rfl, Nat.le_of_ble_eq_true rfl⟩ ⟨Nat.le_refl _, Nat.le_refl _⟩ ?_
                       refine aw_if_eq (tgt := 58) eX12_right_38 (by decide) bt_r (fun hh => have h107 := bt0 hh; ?_) (fun hh => have h107 := bt1 hh; ?_)
                       · first
                         | (exfalso; omega; done)
                         | (refine aw_blk oX12_right_58 (pc' := 60) (ls' := [_, _, _, _, _, _]) (st' := [_]) (cs := []) rfl trivial ?_
                            refine aw_iret eX12_right_60 rfl (Nat.le_refl _) (Nat.le_refl _) ?_
                            exact pe_i rfl rfl rfl)
                       · first
                         | (exfalso; omega; done)
                         | (refine aw_blk oX12_right_41 (pc' := 44) (ls' := [_, _, _, _, _, _]) (st' := [_, _]) (cs := []) rfl trivial ?_
                            refine aw_icmp_gt (tgt := 58) eX12_right_44 (by decide) (by omega) (by omega) (fun h108 => ?_) (fun h108 => ?_)
                            · first
                              | (exfalso; omega; done)
                              | (refine aw_blk oX12_right_58 (pc' := 60) (ls' := [_, _, _, _, _, _]) (st' := [_]) (cs := []) rfl trivial ?_
                                 refine aw_iret eX12_right_60 rfl (Nat.le_refl _) (Nat.le_refl _) ?_
                                 exact pe_i rfl rfl rfl)
                            · first
                              | (exfalso; omega; done)
                              | (refine aw_blk oX12_right_47 (pc' := 52) (ls' := [_, _, _, _, _, _]) (st' := [_, _, _]) (cs := []) rfl trivial ?_
                                 refine aw_ciS (rest := []) (c_X12_in (by omega) (by omega) (by omega)) kX12_in eX12_right_52 lX12_right_52 rfl rfl (Nat.le_of_ble_eq_true rfl) ⟨Nat.le_of_ble_eq_true rfl, Nat.le_of_ble_eq_true rfl⟩ ⟨Nat.le_refl _, Nat.le_refl _⟩ ?_
                                 refine aw_if_ne (tgt := 61) eX12_right_55 (by decide) bt_r (fun hh => have h109 := bt1 hh; ?_) (fun hh => have h109 := bt0 hh; ?_)
                                 · first
                                   | (exfalso; omega; done)
                                   | (refine aw_blk oX12_right_61 (pc' := 67) (ls' := [_, _, _, _, _, _]) (st' := [_, _]) (cs := []) rfl trivial ?_
                                      refine aw_icmp_ne (tgt := 73) eX12_right_67 (by decide) (by omega) (by omega) (fun h110 => ?_) (fun h110 => ?_)
                                      · first
                                        | (exfalso; omega; done)
                                        | (refine aw_blk oX12_right_73 (pc' := 159) (ls' := [_, _, _, _, _, _]) (st' := [_]) (cs := [(_, _), (_, _), (_, _), (_, _), (_, _)]) rfl (⟨⟨by omega, by omega⟩, ⟨by omega, by omega⟩, ⟨by omega, by omega⟩, ⟨by omega, by omega⟩, ⟨by omega, by omega⟩, trivial⟩) ?_
                                           refine aw_iret eX12_right_159 rfl (Nat.le_refl _) (Nat.le_refl _) ?_
                                           exact pe_i rfl rfl rfl)
                                      · first
                                        | (exfalso; omega; done)
                                        | (refine aw_blk oX12_right_70 (pc' := 72) (ls' := [_, _, _, _, _, _]) (st' := [_]) (cs := []) rfl trivial ?_
                                           refine aw_iret eX12_right_72 rfl (Nat.le_refl _) (Nat.le_refl _) ?_
                                           exact pe_i rfl rfl rfl))
                                 · first
                                   | (exfalso; omega; done)
                                   | (refine aw_blk oX12_right_58 (pc' := 60) (ls' := [_, _, _, _, _, _]) (st' := [_]) (cs := []) rfl trivial ?_
                                      refine aw_iret eX12_right_60 rfl (Nat.le_refl _) (Nat.le_refl _) ?_
                                      exact pe_i rfl rfl rfl)))))
             · first
               | (exfalso; omega; done)
               | (refine aw_blk oX12_right_16 (pc' := 17) (ls' := [_, _, _, _, _, _]) (st' := [_]) (cs := []) rfl trivial ?_
                  refine aw_iret eX12_right_17 rfl (Nat.le_refl _) (Nat.le_refl _) ?_
                  exact pe_i rfl rfl rfl))
  · refine ⟨-1, μ, ν, μ, ?_, ?_, by decide, h, SR.rf, fun _ _ => rfl, rfl⟩
    · refine AMet.of kX11_right.1 (Nat.le_of_ble_eq_true rfl) rfl ?_
      refine aw_blk oX11_right_0 (pc' := 1) (ls' := [_, _, _, _, _, _]) (st' := [_]) (cs := []) rfl trivial ?_
      refine aw_ciS (rest := []) (c_X11_isFilm (by omega)) kX11_isFilm eX11_right_1 lX11_right_1 rfl rfl (Nat.le_of_ble_eq_true rfl) ⟨Nat.le_of_ble_eq_true rfl, Nat.le_of_ble_eq_true rfl⟩ ⟨Nat.le_refl _, Nat.le_refl _⟩ ?_
      refine aw_if_eq (tgt := 16) eX11_right_4 (by decide) bt_r (fun hh => have h111 := bt0 hh; ?_) (fun hh => have h111 := bt1 hh; ?_)
      · first
        | (exfalso; omega; done)
        | (refine aw_blk oX11_right_16 (pc' := 17) (ls' := [_, _, _, _, _, _]) (st' := [_]) (cs := []) rfl trivial ?_
           refine aw_iret eX11_right_17 rfl (Nat.le_refl _) (Nat.le_refl _) ?_
           exact pe_i rfl rfl rfl)
      · first
        | (exfalso; omega; done)
        | (refine aw_blk oX11_right_7 (pc' := 10) (ls' := [_, _, _, _, _, _]) (st' := [_, _, _]) (cs := []) rfl trivial ?_
           refine aw_ciS (rest := []) (c_X11_between (by omega) (by omega) (by omega)) kX11_between eX11_right_10 lX11_right_10 rfl rfl (Nat.le_of_ble_eq_true rfl) ⟨Nat.le_of_ble_eq_true rfl, Nat.le_of_ble_eq_true rfl⟩ ⟨Nat.le_refl _, Nat.le_refl _⟩ ?_
           refine aw_if_ne (tgt := 18) eX11_right_13 (by decide) bt_r (fun hh => have h112 := bt1 hh; ?_) (fun hh => have h112 := bt0 hh; ?_)
           · first
             | (exfalso; omega; done)
             | (refine aw_blk oX11_right_18 (pc' := 23) (ls' := [_, _, _, _, _, _]) (st' := [_, _, _]) (cs := []) rfl trivial ?_
                refine aw_ciS (rest := []) (c_X11_between (by omega) (by omega) (by omega)) kX11_between eX11_right_23 lX11_right_23 rfl rfl (Nat.le_of_ble_eq_true rfl) ⟨Nat.le_of_ble_eq_true rfl, Nat.le_of_ble_eq_true rfl⟩ ⟨Nat.le_refl _, Nat.le_refl _⟩ ?_
                refine aw_if_eq (tgt := 52) eX11_right_26 (by decide) bt_r (fun hh => have h113 := bt0 hh; ?_) (fun hh => have h113 := bt1 hh; ?_)
                · first
                  | (exfalso; omega; done)
                  | (refine aw_blk oX11_right_52 (pc' := 54) (ls' := [_, _, _, _, _, _]) (st' := [_]) (cs := []) rfl trivial ?_
                     refine aw_iret eX11_right_54 rfl (Nat.le_refl _) (Nat.le_refl _) ?_
                     exact pe_i rfl rfl rfl)
                · first
                  | (exfalso; omega; done)
                  | (refine aw_blk oX11_right_29 (pc' := 35) (ls' := [_, _, _, _, _, _]) (st' := [_, _, _]) (cs := []) rfl trivial ?_
                     refine aw_ciS (rest := []) (c_X11_between (by omega) (by omega) (by omega)) kX11_between eX11_right_35 lX11_right_35 rfl rfl (Nat.le_of_ble_eq_true rfl) ⟨Nat.le_of_ble_eq_true rfl, Nat.le_of_ble_eq_true rfl⟩ ⟨Nat.le_refl _, Nat.le_refl _⟩ ?_
                     refine aw_if_eq (tgt := 52) eX11_right_38 (by decide) bt_r (fun hh => have h114 := bt0 hh; ?_) (fun hh => have h114 := bt1 hh; ?_)
                     · first
                       | (exfalso; omega; done)
                       | (refine aw_blk oX11_right_52 (pc' := 54) (ls' := [_, _, _, _, _, _]) (st' := [_]) (cs := []) rfl trivial ?_
                          refine aw_iret eX11_right_54 rfl (Nat.le_refl _) (Nat.le_refl _) ?_
                          exact pe_i rfl rfl rfl)
                     · first
                       | (exfalso; omega; done)
                       | (refine aw_blk oX11_right_41 (pc' := 46) (ls' := [_, _, _, _, _, _]) (st' := [_, _, _]) (cs := []) rfl trivial ?_
                          refine aw_ciS (rest := []) (c_X11_between (by omega) (by omega) (by omega)) kX11_between eX11_right_46 lX11_right_46 rfl rfl (Nat.le_of_ble_eq_true rfl) ⟨Nat.le_of_ble_eq_true rfl, Nat.le_of_ble_eq_true rfl⟩ ⟨Nat.le_refl _, Nat.le_refl _⟩ ?_
                          refine aw_if_ne (tgt := 55) eX11_right_49 (by decide) bt_r (fun hh => have h115 := bt1 hh; ?_) (fun hh => have h115 := bt0 hh; ?_)
                          · first
                            | (exfalso; omega; done)
                            | (refine aw_blk oX11_right_55 (pc' := 64) (ls' := [_, _, _, _, _, _]) (st' := [_, _]) (cs := []) rfl trivial ?_
                               refine aw_icmp_ne (tgt := 70) eX11_right_64 (by decide) (by omega) (by omega) (fun h116 => ?_) (fun h116 => ?_)
                               · first
                                 | (exfalso; omega; done)
                                 | (refine aw_blk oX11_right_70 (pc' := 81) (ls' := [_, _, _, _, _, _]) (st' := [_, _, _, _, _, _]) (cs := []) rfl trivial ?_
                                    refine aw_ciV (rest := []) (hX) kX7_add eX11_right_81 lX11_right_81 rfl rfl rfl rfl (Nat.le_of_ble_eq_true rfl) ⟨Nat.le_of_ble_eq_true rfl, Nat.le_of_ble_eq_true rfl⟩ ⟨Nat.le_refl _, Nat.le_refl _⟩ ?_
                                    refine aw_iret eX11_right_84 rfl (Nat.le_refl _) (Nat.le_refl _) ?_
                                    exact pe_i rfl rfl rfl)
                               · first
                                 | (exfalso; omega; done)
                                 | (refine aw_blk oX11_right_67 (pc' := 69) (ls' := [_, _, _, _, _, _]) (st' := [_]) (cs := []) rfl trivial ?_
                                    refine aw_iret eX11_right_69 rfl (Nat.le_refl _) (Nat.le_refl _) ?_
                                    exact pe_i rfl rfl rfl))
                          · first
                            | (exfalso; omega; done)
                            | (refine aw_blk oX11_right_52 (pc' := 54) (ls' := [_, _, _, _, _, _]) (st' := [_]) (cs := []) rfl trivial ?_
                               refine aw_iret eX11_right_54 rfl (Nat.le_refl _) (Nat.le_refl _) ?_
                               exact pe_i rfl rfl rfl))))
           · first
             | (exfalso; omega; done)
             | (refine aw_blk oX11_right_16 (pc' := 17) (ls' := [_, _, _, _, _, _]) (st' := [_]) (cs := []) rfl trivial ?_
                refine aw_iret eX11_right_17 rfl (Nat.le_refl _) (Nat.le_refl _) ?_
                exact pe_i rfl rfl rfl))
    · refine AMet.of kX12_right.1 (Nat.le_of_ble_eq_true rfl) rfl ?_
      refine aw_blk oX12_right_0 (pc' := 1) (ls' := [_, _, _, _, _, _]) (st' := [_]) (cs := []) rfl trivial ?_
      refine aw_ciS (rest := []) (c_X12_isFilm (by omega)) kX12_isFilm eX12_right_1 lX12_right_1 rfl rfl (Nat.le_of_ble_eq_true rfl) ⟨Nat.le_of_ble_eq_true rfl, Nat.le_of_ble_eq_true rfl⟩ ⟨Nat.le_refl _, Nat.le_refl _⟩ ?_
      refine aw_if_eq (tgt := 16) eX12_right_4 (by decide) bt_r (fun hh => have h117 := bt0 hh; ?_) (fun hh => have h117 := bt1 hh; ?_)
      · first
        | (exfalso; omega; done)
        | (refine aw_blk oX12_right_16 (pc' := 17) (ls' := [_, _, _, _, _, _]) (st' := [_]) (cs := []) rfl trivial ?_
           refine aw_iret eX12_right_17 rfl (Nat.le_refl _) (Nat.le_refl _) ?_
           exact pe_i rfl rfl rfl)
      · first
        | (exfalso; omega; done)
        | (refine aw_blk oX12_right_7 (pc' := 10) (ls' := [_, _, _, _, _, _]) (st' := [_, _, _]) (cs := []) rfl trivial ?_
           refine aw_ciS (rest := []) (c_X12_in (by omega) (by omega) (by omega)) kX12_in eX12_right_10 lX12_right_10 rfl rfl (Nat.le_of_ble_eq_true rfl) ⟨Nat.le_of_ble_eq_true rfl, Nat.le_of_ble_eq_true rfl⟩ ⟨Nat.le_refl _, Nat.le_refl _⟩ ?_
           refine aw_if_ne (tgt := 18) eX12_right_13 (by decide) bt_r (fun hh => have h118 := bt1 hh; ?_) (fun hh => have h118 := bt0 hh; ?_)
           · first
             | (exfalso; omega; done)
             | (refine aw_blk oX12_right_18 (pc' := 23) (ls' := [_, _, _, _, _, _]) (st' := [_, _, _]) (cs := []) rfl trivial ?_
                refine aw_ciS (rest := []) (c_X12_in (by omega) (by omega) (by omega)) kX12_in eX12_right_23 lX12_right_23 rfl rfl (Nat.le_of_ble_eq_true rfl) ⟨Nat.le_of_ble_eq_true rfl, Nat.le_of_ble_eq_true rfl⟩ ⟨Nat.le_refl _, Nat.le_refl _⟩ ?_
                refine aw_if_eq (tgt := 58) eX12_right_26 (by decide) bt_r (fun hh => have h119 := bt0 hh; ?_) (fun hh => have h119 := bt1 hh; ?_)
                · first
                  | (exfalso; omega; done)
                  | (refine aw_blk oX12_right_58 (pc' := 60) (ls' := [_, _, _, _, _, _]) (st' := [_]) (cs := []) rfl trivial ?_
                     refine aw_iret eX12_right_60 rfl (Nat.le_refl _) (Nat.le_refl _) ?_
                     exact pe_i rfl rfl rfl)
                · first
                  | (exfalso; omega; done)
                  | (refine aw_blk oX12_right_29 (pc' := 35) (ls' := [_, _, _, _, _, _]) (st' := [_, _, _]) (cs := []) rfl trivial ?_
                     refine aw_ciS (rest := []) (c_X12_in (by omega) (by omega) (by omega)) kX12_in eX12_right_35 lX12_right_35 rfl rfl (Nat.le_of_ble_eq_true rfl) ⟨Nat.le_of_ble_eq_true rfl, Nat.le_of_ble_eq_true rfl⟩ ⟨Nat.le_refl _, Nat.le_refl _⟩ ?_
                     refine aw_if_eq (tgt := 58) eX12_right_38 (by decide) bt_r (fun hh => have h120 := bt0 hh; ?_) (fun hh => have h120 := bt1 hh; ?_)
                     · first
                       | (exfalso; omega; done)
                       | (refine aw_blk oX12_right_58 (pc' := 60) (ls' := [_, _, _, _, _, _]) (st' := [_]) (cs := []) rfl trivial ?_
                          refine aw_iret eX12_right_60 rfl (Nat.le_refl _) (Nat.le_refl _) ?_
                          exact pe_i rfl rfl rfl)
                     · first
                       | (exfalso; omega; done)
                       | (refine aw_blk oX12_right_41 (pc' := 44) (ls' := [_, _, _, _, _, _]) (st' := [_, _]) (cs := []) rfl trivial ?_
                          refine aw_icmp_gt (tgt := 58) eX12_right_44 (by decide) (by omega) (by omega) (fun h121 => ?_) (fun h121 => ?_)
                          · first
                            | (exfalso; omega; done)
                            | (refine aw_blk oX12_right_58 (pc' := 60) (ls' := [_, _, _, _, _, _]) (st' := [_]) (cs := []) rfl trivial ?_
                               refine aw_iret eX12_right_60 rfl (Nat.le_refl _) (Nat.le_refl _) ?_
                               exact pe_i rfl rfl rfl)
                          · first
                            | (exfalso; omega; done)
                            | (refine aw_blk oX12_right_47 (pc' := 52) (ls' := [_, _, _, _, _, _]) (st' := [_, _, _]) (cs := []) rfl trivial ?_
                               refine aw_ciS (rest := []) (c_X12_in (by omega) (by omega) (by omega)) kX12_in eX12_right_52 lX12_right_52 rfl rfl (Nat.le_of_ble_eq_true rfl) ⟨Nat.le_of_ble_eq_true rfl, Nat.le_of_ble_eq_true rfl⟩ ⟨Nat.le_refl _, Nat.le_refl _⟩ ?_
                               refine aw_if_ne (tgt := 61) eX12_right_55 (by decide) bt_r (fun hh => have h122 := bt1 hh; ?_) (fun hh => have h122 := bt0 hh; ?_)
                               · first
                                 | (exfalso; omega; done)
                                 | (refine aw_blk oX12_right_61 (pc' := 67) (ls' := [_, _, _, _, _, _]) (st' := [_, _]) (cs := []) rfl trivial ?_
                                    refine aw_icmp_ne (tgt := 73) eX12_right_67 (by decide) (by omega) (by omega) (fun h123 => ?_) (fun h123 => ?_)
                                    · first
                                      | (exfalso; omega; done)
                                      | (refine aw_blk oX12_right_73 (pc' := 159) (ls' := [_, _, _, _, _, _]) (st' := [_]) (cs := [(_, _), (_, _), (_, _), (_, _), (_, _)]) rfl (⟨⟨by omega, by omega⟩, ⟨by omega, by omega⟩, ⟨by omega, by omega⟩, ⟨by omega, by omega⟩, ⟨by omega, by omega⟩, trivial⟩) ?_
                                         refine aw_iret eX12_right_159 rfl (Nat.le_refl _) (Nat.le_refl _) ?_
                                         exact pe_i rfl rfl rfl)
                                    · first
                                      | (exfalso; omega; done)
                                      | (refine aw_blk oX12_right_70 (pc' := 72) (ls' := [_, _, _, _, _, _]) (st' := [_]) (cs := []) rfl trivial ?_
                                         refine aw_iret eX12_right_72 rfl (Nat.le_refl _) (Nat.le_refl _) ?_
                                         exact pe_i rfl rfl rfl))
                               · first
                                 | (exfalso; omega; done)
                                 | (refine aw_blk oX12_right_58 (pc' := 60) (ls' := [_, _, _, _, _, _]) (st' := [_]) (cs := []) rfl trivial ?_
                                    refine aw_iret eX12_right_60 rfl (Nat.le_refl _) (Nat.le_refl _) ?_
                                    exact pe_i rfl rfl rfl)))))
           · first
             | (exfalso; omega; done)
             | (refine aw_blk oX12_right_16 (pc' := 17) (ls' := [_, _, _, _, _, _]) (st' := [_]) (cs := []) rfl trivial ?_
                refine aw_iret eX12_right_17 rfl (Nat.le_refl _) (Nat.le_refl _) ?_
                exact pe_i rfl rfl rfl))
theorem seen_sm {μ : MM} {ν : ML} (h : RR μ ν) {i : Int} (h0 : 0 ≤ i) (h1 : i < 48) : lbc (ν 45 i) = sm (fun t => tb (n64 (ν 45 i)) t) 60 := by
  have g := (h.2.2.2.2 i h0 h1).1
  rw [lbc_sm, show 64 = 60 + 4 from rfl, sm_tail 4 (fun k h2 h3 => ?_)]
  rw [← tb_div, Nat.div_eq_of_lt]
  · rfl
  · exact Nat.lt_of_lt_of_le g (Nat.pow_le_pow_right (by decide) h2)
theorem l_seenOf {κ : KX} {μ : MM} {ν : ML} {s f : Int} (h : RR μ ν) (hs : 0 ≤ s ∧ s < 8) (hf : 0 ≤ f ∧ f < 6) (n : Nat) : ∀ k : Nat, k + n = 60 → AX κ mX12_seenOf 1 (PE (some (aI (sm (fun t => tb (n64 (ν 45 (s * 6 + f))) t) 60))) μ ν) 5 [aR 55, aI s, aI f, aI (sm (fun t => tb (n64 (ν 45 (s * 6 + f))) t) k), aI k] [] μ ν := by
  induction n with
  | zero =>
    intro k hk
    have e : k = 60 := by omega
    subst e
    refine aw_blk oX12_seenOf_5 (pc' := 9) (ls' := [_, _, _, _, _]) (st' := [_, _]) (cs := []) rfl trivial ?_
    refine aw_icmp_ge (tgt := 46) eX12_seenOf_9 (by decide) (by omega) (by omega) (fun h1 => ?_) (fun h1 => ?_)
    · refine aw_blk oX12_seenOf_46 (pc' := 47) (ls' := [_, _, _, _, _]) (st' := [_]) (cs := []) rfl trivial ?_
      refine aw_iret eX12_seenOf_47 rfl (Nat.le_refl _) (Nat.le_refl _) ?_
      exact pe_i rfl rfl rfl
    · exfalso; omega
  | succ n ih =>
    intro k hk
    have g := (h.2.2.2.2 (s * 6 + f) (by omega) (by omega)).2 (k : Int) (by omega) (by omega)
    rw [show 60 * (s * 6 + f) + (k : Int) = 60 * (6 * s + f) + k by omega] at g
    have gb := tb_bd (n64 (ν 45 (s * 6 + f))) (k : Int)
    have T := ih (k + 1) (by omega)
    rw [sm_succ (n := k)] at T
    refine aw_blk oX12_seenOf_5 (pc' := 9) (ls' := [_, _, _, _, _]) (st' := [_, _]) (cs := []) rfl trivial ?_
    refine aw_icmp_ge (tgt := 46) eX12_seenOf_9 (by decide) (by omega) (by omega) (fun h1 => ?_) (fun h1 => ?_)
    · exfalso; omega
    · refine aw_blk oX12_seenOf_12 (pc' := 30) (ls' := [_, _, _, _, _]) (st' := [_, _]) (cs := [(_, _)]) rfl (⟨⟨by omega, by omega⟩, trivial⟩) ?_
      refine aw_if_eq (tgt := 37) eX12_seenOf_30 (by decide) (by omega) (fun h2 => ?_) (fun h2 => ?_)
      · rw [show tb (n64 (ν 45 (s * 6 + f))) (k : Int) = 0 by omega] at T
        refine aw_blk oX12_seenOf_37 (pc' := 38) (ls' := [_, _, _, _, _]) (st' := [_, _]) (cs := []) rfl trivial ?_
        refine aw_blk oX12_seenOf_38 (pc' := 5) (ls' := [_, _, _, _, _]) (st' := []) (cs := []) rfl trivial ?_
        exact T
      · rw [show tb (n64 (ν 45 (s * 6 + f))) (k : Int) = 1 by omega] at T
        refine aw_blk oX12_seenOf_33 (pc' := 38) (ls' := [_, _, _, _, _]) (st' := [_, _]) (cs := []) rfl trivial ?_
        refine aw_blk oX12_seenOf_38 (pc' := 5) (ls' := [_, _, _, _, _]) (st' := []) (cs := []) rfl trivial ?_
        exact T
theorem c_seenOf {κ : KX} {μ : MM} {ν : ML} {s f : Int} (h : RR μ ν) (hs : 0 ≤ s ∧ s < 8) (hf : 0 ≤ f ∧ f < 6) : AE κ 1 mX12_seenOf [aR 55, aI s, aI f] μ ν (some (aI (lbc (ν 45 (s * 6 + f))))) μ ν := by
  rw [seen_sm h (by omega) (by omega)]
  refine AMet.of kX12_seenOf.1 (Nat.le_of_ble_eq_true rfl) rfl ?_
  refine aw_blk oX12_seenOf_0 (pc' := 5) (ls' := [_, _, _, _, _]) (st' := []) (cs := []) rfl trivial ?_
  exact l_seenOf h hs hf 60 0 rfl
theorem lbc_bd (x : Int64) : 0 ≤ lbc x ∧ lbc x ≤ 64 := by
  have := sm_bd (g := fun t => tb (n64 x) t) (B := 1) 64 (fun k _ => tb_bd _ _)
  rw [lbc_sm]
  omega
theorem law_seen {κ : KX} {μ : MM} {ν : ML} {s f w : Int} (h : RR μ ν) (hs : R32 s) (hf : R32 f) (hw : R32 w) : LawN RR csR κ mX11_seen mX12_seen [aI s, aI f, aI w] μ ν := by
  obtain ⟨cn, r, l, t, q⟩ := id h
  by_cases c1 : (0 ≤ s ∧ s ≤ 7) ∧ (0 ≤ f ∧ f ≤ 5)
  · have g := t (s * 6 + f) (by omega) (by omega)
    have gl := lbc_bd (ν 45 (s * 6 + f))
    by_cases c2 : w = 0
    · refine ⟨lbc (ν 45 (s * 6 + f)), μ, ν, μ, ?_, ?_, by omega, h, SR.rf⟩
      · refine AMet.of kX11_seen.1 (Nat.le_of_ble_eq_true rfl) rfl ?_
        refine aw_blk oX11_seen_0 (pc' := 1) (ls' := [_, _, _, _]) (st' := [_]) (cs := []) rfl trivial ?_
        refine aw_ciS (rest := []) (c_X11_isSeer (by omega)) kX11_isSeer eX11_seen_1 lX11_seen_1 rfl rfl (Nat.le_of_ble_eq_true rfl) ⟨Nat.le_of_ble_eq_true rfl, Nat.le_of_ble_eq_true rfl⟩ ⟨Nat.le_refl _, Nat.le_refl _⟩ ?_
        refine aw_if_eq (tgt := 14) eX11_seen_4 (by decide) bt_r (fun hh => have h124 := bt0 hh; ?_) (fun hh => have h124 := bt1 hh; ?_)
        · first
          | (exfalso; omega; done)
          | (refine aw_blk oX11_seen_14 (pc' := 15) (ls' := [_, _, _, _]) (st' := [_]) (cs := []) rfl trivial ?_
             refine aw_iret eX11_seen_15 rfl (Nat.le_refl _) (Nat.le_refl _) ?_
             exact pe_i rfl rfl rfl)
        · first
          | (exfalso; omega; done)
          | (refine aw_blk oX11_seen_7 (pc' := 8) (ls' := [_, _, _, _]) (st' := [_]) (cs := []) rfl trivial ?_
             refine aw_ciS (rest := []) (c_X11_isFilm (by omega)) kX11_isFilm eX11_seen_8 lX11_seen_8 rfl rfl (Nat.le_of_ble_eq_true rfl) ⟨Nat.le_of_ble_eq_true rfl, Nat.le_of_ble_eq_true rfl⟩ ⟨Nat.le_refl _, Nat.le_refl _⟩ ?_
             refine aw_if_ne (tgt := 16) eX11_seen_11 (by decide) bt_r (fun hh => have h125 := bt1 hh; ?_) (fun hh => have h125 := bt0 hh; ?_)
             · first
               | (exfalso; omega; done)
               | (refine aw_blk oX11_seen_16 (pc' := 19) (ls' := [_, _, _, _]) (st' := [_, _, _]) (cs := []) rfl trivial ?_
                  refine aw_ciS (rest := []) (c_X11_between (by omega) (by omega) (by omega)) kX11_between eX11_seen_19 lX11_seen_19 rfl rfl (Nat.le_of_ble_eq_true rfl) ⟨Nat.le_of_ble_eq_true rfl, Nat.le_of_ble_eq_true rfl⟩ ⟨Nat.le_refl _, Nat.le_refl _⟩ ?_
                  refine aw_if_ne (tgt := 28) eX11_seen_22 (by decide) bt_r (fun hh => have h126 := bt1 hh; ?_) (fun hh => have h126 := bt0 hh; ?_)
                  · first
                    | (exfalso; omega; done)
                    | (refine aw_blk oX11_seen_28 (pc' := 29) (ls' := [_, _, _, _]) (st' := [_]) (cs := []) rfl trivial ?_
                       refine aw_if_ne (tgt := 44) eX11_seen_29 (by decide) (by omega) (fun h127 => ?_) (fun h127 => ?_)
                       · first
                         | (exfalso; omega; done)
                         | (refine aw_blk oX11_seen_44 (pc' := 50) (ls' := [_, _, _, _]) (st' := [_, _, _]) (cs := []) rfl trivial ?_
                            refine aw_ciV (rest := []) (c_timesSeen (by omega) (by omega)) kX7_timesSeen eX11_seen_50 lX11_seen_50 rfl rfl rfl rfl (Nat.le_of_ble_eq_true rfl) ⟨Nat.le_of_ble_eq_true rfl, Nat.le_of_ble_eq_true rfl⟩ ⟨Nat.le_refl _, Nat.le_refl _⟩ ?_
                            refine aw_iret eX11_seen_53 rfl (Nat.le_refl _) (Nat.le_refl _) ?_
                            exact pe_i rfl rfl rfl)
                       · first
                         | (exfalso; omega; done)
                         | (refine aw_blk oX11_seen_32 (pc' := 38) (ls' := [_, _, _, _]) (st' := [_, _, _]) (cs := []) rfl trivial ?_
                            refine aw_ciV (rest := []) (c_secondsSeen (by omega) (by omega)) kX7_secondsSeen eX11_seen_38 lX11_seen_38 rfl rfl rfl rfl (Nat.le_of_ble_eq_true rfl) ⟨Nat.le_of_ble_eq_true rfl, Nat.le_of_ble_eq_true rfl⟩ ⟨Nat.le_refl _, Nat.le_refl _⟩ ?_
                            refine aw_blk oX11_seen_41 (pc' := 53) (ls' := [_, _, _, _]) (st' := [_]) (cs := []) rfl trivial ?_
                            refine aw_iret eX11_seen_53 rfl (Nat.le_refl _) (Nat.le_refl _) ?_
                            exact pe_i rfl rfl rfl))
                  · first
                    | (exfalso; omega; done)
                    | (refine aw_blk oX11_seen_25 (pc' := 27) (ls' := [_, _, _, _]) (st' := [_]) (cs := []) rfl trivial ?_
                       refine aw_iret eX11_seen_27 rfl (Nat.le_refl _) (Nat.le_refl _) ?_
                       exact pe_i rfl rfl rfl))
             · first
               | (exfalso; omega; done)
               | (refine aw_blk oX11_seen_14 (pc' := 15) (ls' := [_, _, _, _]) (st' := [_]) (cs := []) rfl trivial ?_
                  refine aw_iret eX11_seen_15 rfl (Nat.le_refl _) (Nat.le_refl _) ?_
                  exact pe_i rfl rfl rfl))
      · refine AMet.of kX12_seen.1 (Nat.le_of_ble_eq_true rfl) rfl ?_
        refine aw_blk oX12_seen_0 (pc' := 1) (ls' := [_, _, _, _]) (st' := [_]) (cs := []) rfl trivial ?_
        refine aw_ciS (rest := []) (c_X12_isSeer (by omega)) kX12_isSeer eX12_seen_1 lX12_seen_1 rfl rfl (Nat.le_of_ble_eq_true rfl) ⟨Nat.le_of_ble_eq_true rfl, Nat.le_of_ble_eq_true rfl⟩ ⟨Nat.le_refl _, Nat.le_refl _⟩ ?_
        refine aw_if_eq (tgt := 14) eX12_seen_4 (by decide) bt_r (fun hh => have h128 := bt0 hh; ?_) (fun hh => have h128 := bt1 hh; ?_)
        · first
          | (exfalso; omega; done)
          | (refine aw_blk oX12_seen_14 (pc' := 15) (ls' := [_, _, _, _]) (st' := [_]) (cs := []) rfl trivial ?_
             refine aw_iret eX12_seen_15 rfl (Nat.le_refl _) (Nat.le_refl _) ?_
             exact pe_i rfl rfl rfl)
        · first
          | (exfalso; omega; done)
          | (refine aw_blk oX12_seen_7 (pc' := 8) (ls' := [_, _, _, _]) (st' := [_]) (cs := []) rfl trivial ?_
             refine aw_ciS (rest := []) (c_X12_isFilm (by omega)) kX12_isFilm eX12_seen_8 lX12_seen_8 rfl rfl (Nat.le_of_ble_eq_true rfl) ⟨Nat.le_of_ble_eq_true rfl, Nat.le_of_ble_eq_true rfl⟩ ⟨Nat.le_refl _, Nat.le_refl _⟩ ?_
             refine aw_if_ne (tgt := 16) eX12_seen_11 (by decide) bt_r (fun hh => have h129 := bt1 hh; ?_) (fun hh => have h129 := bt0 hh; ?_)
             · first
               | (exfalso; omega; done)
               | (refine aw_blk oX12_seen_16 (pc' := 17) (ls' := [_, _, _, _]) (st' := [_]) (cs := []) rfl trivial ?_
                  refine aw_if_ne (tgt := 29) eX12_seen_17 (by decide) (by omega) (fun h130 => ?_) (fun h130 => ?_)
                  · first
                    | (exfalso; omega; done)
                    | (refine aw_blk oX12_seen_29 (pc' := 31) (ls' := [_, _, _, _]) (st' := [_, _]) (cs := []) rfl trivial ?_
                       refine aw_icmp_ne (tgt := 48) eX12_seen_31 (by decide) (by omega) (by omega) (fun h131 => ?_) (fun h131 => ?_)
                       · first
                         | (exfalso; omega; done)
                         | (refine aw_blk oX12_seen_48 (pc' := 50) (ls' := [_, _, _, _]) (st' := [_]) (cs := []) rfl trivial ?_
                            refine aw_iret eX12_seen_50 rfl (Nat.le_refl _) (Nat.le_refl _) ?_
                            exact pe_i rfl rfl rfl)
                       · first
                         | (exfalso; omega; done)
                         | (refine aw_blk oX12_seen_34 (pc' := 50) (ls' := [_, _, _, _]) (st' := [_]) (cs := [(_, _)]) rfl (⟨⟨by omega, by omega⟩, trivial⟩) ?_
                            refine aw_iret eX12_seen_50 rfl (Nat.le_refl _) (Nat.le_refl _) ?_
                            exact pe_i rfl rfl rfl))
                  · first
                    | (exfalso; omega; done)
                    | (refine aw_blk oX12_seen_20 (pc' := 23) (ls' := [_, _, _, _]) (st' := [_, _, _]) (cs := []) rfl trivial ?_
                       refine aw_ciV (rest := []) (c_seenOf h (by omega) (by omega)) kX12_seenOf eX12_seen_23 lX12_seen_23 rfl rfl rfl rfl (Nat.le_of_ble_eq_true rfl) ⟨Nat.le_of_ble_eq_true rfl, Nat.le_of_ble_eq_true rfl⟩ ⟨Nat.le_refl _, Nat.le_refl _⟩ ?_
                       refine aw_blk oX12_seen_26 (pc' := 50) (ls' := [_, _, _, _]) (st' := [_]) (cs := []) rfl trivial ?_
                       refine aw_iret eX12_seen_50 rfl (Nat.le_refl _) (Nat.le_refl _) ?_
                       exact pe_i rfl rfl rfl))
             · first
               | (exfalso; omega; done)
               | (refine aw_blk oX12_seen_14 (pc' := 15) (ls' := [_, _, _, _]) (st' := [_]) (cs := []) rfl trivial ?_
                  refine aw_iret eX12_seen_15 rfl (Nat.le_refl _) (Nat.le_refl _) ?_
                  exact pe_i rfl rfl rfl))
    · by_cases c3 : w = 1
      · refine ⟨μ 46 (s * 6 + f), μ, ν, μ, ?_, ?_, by omega, h, SR.rf⟩
        · refine AMet.of kX11_seen.1 (Nat.le_of_ble_eq_true rfl) rfl ?_
          refine aw_blk oX11_seen_0 (pc' := 1) (ls' := [_, _, _, _]) (st' := [_]) (cs := []) rfl trivial ?_
          refine aw_ciS (rest := []) (c_X11_isSeer (by omega)) kX11_isSeer eX11_seen_1 lX11_seen_1 rfl rfl (Nat.le_of_ble_eq_true rfl) ⟨Nat.le_of_ble_eq_true rfl, Nat.le_of_ble_eq_true rfl⟩ ⟨Nat.le_refl _, Nat.le_refl _⟩ ?_
          refine aw_if_eq (tgt := 14) eX11_seen_4 (by decide) bt_r (fun hh => have h132 := bt0 hh; ?_) (fun hh => have h132 := bt1 hh; ?_)
          · first
            | (exfalso; omega; done)
            | (refine aw_blk oX11_seen_14 (pc' := 15) (ls' := [_, _, _, _]) (st' := [_]) (cs := []) rfl trivial ?_
               refine aw_iret eX11_seen_15 rfl (Nat.le_refl _) (Nat.le_refl _) ?_
               exact pe_i rfl rfl rfl)
          · first
            | (exfalso; omega; done)
            | (refine aw_blk oX11_seen_7 (pc' := 8) (ls' := [_, _, _, _]) (st' := [_]) (cs := []) rfl trivial ?_
               refine aw_ciS (rest := []) (c_X11_isFilm (by omega)) kX11_isFilm eX11_seen_8 lX11_seen_8 rfl rfl (Nat.le_of_ble_eq_true rfl) ⟨Nat.le_of_ble_eq_true rfl, Nat.le_of_ble_eq_true rfl⟩ ⟨Nat.le_refl _, Nat.le_refl _⟩ ?_
               refine aw_if_ne (tgt := 16) eX11_seen_11 (by decide) bt_r (fun hh => have h133 := bt1 hh; ?_) (fun hh => have h133 := bt0 hh; ?_)
               · first
                 | (exfalso; omega; done)
                 | (refine aw_blk oX11_seen_16 (pc' := 19) (ls' := [_, _, _, _]) (st' := [_, _, _]) (cs := []) rfl trivial ?_
                    refine aw_ciS (rest := []) (c_X11_between (by omega) (by omega) (by omega)) kX11_between eX11_seen_19 lX11_seen_19 rfl rfl (Nat.le_of_ble_eq_true rfl) ⟨Nat.le_of_ble_eq_true rfl, Nat.le_of_ble_eq_true rfl⟩ ⟨Nat.le_refl _, Nat.le_refl _⟩ ?_
                    refine aw_if_ne (tgt := 28) eX11_seen_22 (by decide) bt_r (fun hh => have h134 := bt1 hh; ?_) (fun hh => have h134 := bt0 hh; ?_)
                    · first
                      | (exfalso; omega; done)
                      | (refine aw_blk oX11_seen_28 (pc' := 29) (ls' := [_, _, _, _]) (st' := [_]) (cs := []) rfl trivial ?_
                         refine aw_if_ne (tgt := 44) eX11_seen_29 (by decide) (by omega) (fun h135 => ?_) (fun h135 => ?_)
                         · first
                           | (exfalso; omega; done)
                           | (refine aw_blk oX11_seen_44 (pc' := 50) (ls' := [_, _, _, _]) (st' := [_, _, _]) (cs := []) rfl trivial ?_
                              refine aw_ciV (rest := []) (c_timesSeen (by omega) (by omega)) kX7_timesSeen eX11_seen_50 lX11_seen_50 rfl rfl rfl rfl (Nat.le_of_ble_eq_true rfl) ⟨Nat.le_of_ble_eq_true rfl, Nat.le_of_ble_eq_true rfl⟩ ⟨Nat.le_refl _, Nat.le_refl _⟩ ?_
                              refine aw_iret eX11_seen_53 rfl (Nat.le_refl _) (Nat.le_refl _) ?_
                              exact pe_i rfl rfl rfl)
                         · first
                           | (exfalso; omega; done)
                           | (refine aw_blk oX11_seen_32 (pc' := 38) (ls' := [_, _, _, _]) (st' := [_, _, _]) (cs := []) rfl trivial ?_
                              refine aw_ciV (rest := []) (c_secondsSeen (by omega) (by omega)) kX7_secondsSeen eX11_seen_38 lX11_seen_38 rfl rfl rfl rfl (Nat.le_of_ble_eq_true rfl) ⟨Nat.le_of_ble_eq_true rfl, Nat.le_of_ble_eq_true rfl⟩ ⟨Nat.le_refl _, Nat.le_refl _⟩ ?_
                              refine aw_blk oX11_seen_41 (pc' := 53) (ls' := [_, _, _, _]) (st' := [_]) (cs := []) rfl trivial ?_
                              refine aw_iret eX11_seen_53 rfl (Nat.le_refl _) (Nat.le_refl _) ?_
                              exact pe_i rfl rfl rfl))
                    · first
                      | (exfalso; omega; done)
                      | (refine aw_blk oX11_seen_25 (pc' := 27) (ls' := [_, _, _, _]) (st' := [_]) (cs := []) rfl trivial ?_
                         refine aw_iret eX11_seen_27 rfl (Nat.le_refl _) (Nat.le_refl _) ?_
                         exact pe_i rfl rfl rfl))
               · first
                 | (exfalso; omega; done)
                 | (refine aw_blk oX11_seen_14 (pc' := 15) (ls' := [_, _, _, _]) (st' := [_]) (cs := []) rfl trivial ?_
                    refine aw_iret eX11_seen_15 rfl (Nat.le_refl _) (Nat.le_refl _) ?_
                    exact pe_i rfl rfl rfl))
        · refine AMet.of kX12_seen.1 (Nat.le_of_ble_eq_true rfl) rfl ?_
          refine aw_blk oX12_seen_0 (pc' := 1) (ls' := [_, _, _, _]) (st' := [_]) (cs := []) rfl trivial ?_
          refine aw_ciS (rest := []) (c_X12_isSeer (by omega)) kX12_isSeer eX12_seen_1 lX12_seen_1 rfl rfl (Nat.le_of_ble_eq_true rfl) ⟨Nat.le_of_ble_eq_true rfl, Nat.le_of_ble_eq_true rfl⟩ ⟨Nat.le_refl _, Nat.le_refl _⟩ ?_
          refine aw_if_eq (tgt := 14) eX12_seen_4 (by decide) bt_r (fun hh => have h136 := bt0 hh; ?_) (fun hh => have h136 := bt1 hh; ?_)
          · first
            | (exfalso; omega; done)
            | (refine aw_blk oX12_seen_14 (pc' := 15) (ls' := [_, _, _, _]) (st' := [_]) (cs := []) rfl trivial ?_
               refine aw_iret eX12_seen_15 rfl (Nat.le_refl _) (Nat.le_refl _) ?_
               exact pe_i (by rw [show 6 * s + f = s * 6 + f by omega]; exact g.1) rfl rfl)
          · first
            | (exfalso; omega; done)
            | (refine aw_blk oX12_seen_7 (pc' := 8) (ls' := [_, _, _, _]) (st' := [_]) (cs := []) rfl trivial ?_
               refine aw_ciS (rest := []) (c_X12_isFilm (by omega)) kX12_isFilm eX12_seen_8 lX12_seen_8 rfl rfl (Nat.le_of_ble_eq_true rfl) ⟨Nat.le_of_ble_eq_true rfl, Nat.le_of_ble_eq_true rfl⟩ ⟨Nat.le_refl _, Nat.le_refl _⟩ ?_
               refine aw_if_ne (tgt := 16) eX12_seen_11 (by decide) bt_r (fun hh => have h137 := bt1 hh; ?_) (fun hh => have h137 := bt0 hh; ?_)
               · first
                 | (exfalso; omega; done)
                 | (refine aw_blk oX12_seen_16 (pc' := 17) (ls' := [_, _, _, _]) (st' := [_]) (cs := []) rfl trivial ?_
                    refine aw_if_ne (tgt := 29) eX12_seen_17 (by decide) (by omega) (fun h138 => ?_) (fun h138 => ?_)
                    · first
                      | (exfalso; omega; done)
                      | (refine aw_blk oX12_seen_29 (pc' := 31) (ls' := [_, _, _, _]) (st' := [_, _]) (cs := []) rfl trivial ?_
                         refine aw_icmp_ne (tgt := 48) eX12_seen_31 (by decide) (by omega) (by omega) (fun h139 => ?_) (fun h139 => ?_)
                         · first
                           | (exfalso; omega; done)
                           | (refine aw_blk oX12_seen_48 (pc' := 50) (ls' := [_, _, _, _]) (st' := [_]) (cs := []) rfl trivial ?_
                              refine aw_iret eX12_seen_50 rfl (Nat.le_refl _) (Nat.le_refl _) ?_
                              exact pe_i (by rw [show 6 * s + f = s * 6 + f by omega]; exact g.1) rfl rfl)
                         · first
                           | (exfalso; omega; done)
                           | (refine aw_blk oX12_seen_34 (pc' := 50) (ls' := [_, _, _, _]) (st' := [_]) (cs := [(_, _)]) rfl (⟨⟨by omega, by omega⟩, trivial⟩) ?_
                              refine aw_iret eX12_seen_50 rfl (Nat.le_refl _) (Nat.le_refl _) ?_
                              exact pe_i (by rw [show 6 * s + f = s * 6 + f by omega]; exact g.1) rfl rfl))
                    · first
                      | (exfalso; omega; done)
                      | (refine aw_blk oX12_seen_20 (pc' := 23) (ls' := [_, _, _, _]) (st' := [_, _, _]) (cs := []) rfl trivial ?_
                         refine aw_ciV (rest := []) (c_seenOf h (by omega) (by omega)) kX12_seenOf eX12_seen_23 lX12_seen_23 rfl rfl rfl rfl (Nat.le_of_ble_eq_true rfl) ⟨Nat.le_of_ble_eq_true rfl, Nat.le_of_ble_eq_true rfl⟩ ⟨Nat.le_refl _, Nat.le_refl _⟩ ?_
                         refine aw_blk oX12_seen_26 (pc' := 50) (ls' := [_, _, _, _]) (st' := [_]) (cs := []) rfl trivial ?_
                         refine aw_iret eX12_seen_50 rfl (Nat.le_refl _) (Nat.le_refl _) ?_
                         exact pe_i (by rw [show 6 * s + f = s * 6 + f by omega]; exact g.1) rfl rfl))
               · first
                 | (exfalso; omega; done)
                 | (refine aw_blk oX12_seen_14 (pc' := 15) (ls' := [_, _, _, _]) (st' := [_]) (cs := []) rfl trivial ?_
                    refine aw_iret eX12_seen_15 rfl (Nat.le_refl _) (Nat.le_refl _) ?_
                    exact pe_i (by rw [show 6 * s + f = s * 6 + f by omega]; exact g.1) rfl rfl))
      · refine ⟨-2, μ, ν, μ, ?_, ?_, by decide, h, SR.rf⟩
        · refine AMet.of kX11_seen.1 (Nat.le_of_ble_eq_true rfl) rfl ?_
          refine aw_blk oX11_seen_0 (pc' := 1) (ls' := [_, _, _, _]) (st' := [_]) (cs := []) rfl trivial ?_
          refine aw_ciS (rest := []) (c_X11_isSeer (by omega)) kX11_isSeer eX11_seen_1 lX11_seen_1 rfl rfl (Nat.le_of_ble_eq_true rfl) ⟨Nat.le_of_ble_eq_true rfl, Nat.le_of_ble_eq_true rfl⟩ ⟨Nat.le_refl _, Nat.le_refl _⟩ ?_
          refine aw_if_eq (tgt := 14) eX11_seen_4 (by decide) bt_r (fun hh => have h140 := bt0 hh; ?_) (fun hh => have h140 := bt1 hh; ?_)
          · first
            | (exfalso; omega; done)
            | (refine aw_blk oX11_seen_14 (pc' := 15) (ls' := [_, _, _, _]) (st' := [_]) (cs := []) rfl trivial ?_
               refine aw_iret eX11_seen_15 rfl (Nat.le_refl _) (Nat.le_refl _) ?_
               exact pe_i rfl rfl rfl)
          · first
            | (exfalso; omega; done)
            | (refine aw_blk oX11_seen_7 (pc' := 8) (ls' := [_, _, _, _]) (st' := [_]) (cs := []) rfl trivial ?_
               refine aw_ciS (rest := []) (c_X11_isFilm (by omega)) kX11_isFilm eX11_seen_8 lX11_seen_8 rfl rfl (Nat.le_of_ble_eq_true rfl) ⟨Nat.le_of_ble_eq_true rfl, Nat.le_of_ble_eq_true rfl⟩ ⟨Nat.le_refl _, Nat.le_refl _⟩ ?_
               refine aw_if_ne (tgt := 16) eX11_seen_11 (by decide) bt_r (fun hh => have h141 := bt1 hh; ?_) (fun hh => have h141 := bt0 hh; ?_)
               · first
                 | (exfalso; omega; done)
                 | (refine aw_blk oX11_seen_16 (pc' := 19) (ls' := [_, _, _, _]) (st' := [_, _, _]) (cs := []) rfl trivial ?_
                    refine aw_ciS (rest := []) (c_X11_between (by omega) (by omega) (by omega)) kX11_between eX11_seen_19 lX11_seen_19 rfl rfl (Nat.le_of_ble_eq_true rfl) ⟨Nat.le_of_ble_eq_true rfl, Nat.le_of_ble_eq_true rfl⟩ ⟨Nat.le_refl _, Nat.le_refl _⟩ ?_
                    refine aw_if_ne (tgt := 28) eX11_seen_22 (by decide) bt_r (fun hh => have h142 := bt1 hh; ?_) (fun hh => have h142 := bt0 hh; ?_)
                    · first
                      | (exfalso; omega; done)
                      | (refine aw_blk oX11_seen_28 (pc' := 29) (ls' := [_, _, _, _]) (st' := [_]) (cs := []) rfl trivial ?_
                         refine aw_if_ne (tgt := 44) eX11_seen_29 (by decide) (by omega) (fun h143 => ?_) (fun h143 => ?_)
                         · first
                           | (exfalso; omega; done)
                           | (refine aw_blk oX11_seen_44 (pc' := 50) (ls' := [_, _, _, _]) (st' := [_, _, _]) (cs := []) rfl trivial ?_
                              refine aw_ciV (rest := []) (c_timesSeen (by omega) (by omega)) kX7_timesSeen eX11_seen_50 lX11_seen_50 rfl rfl rfl rfl (Nat.le_of_ble_eq_true rfl) ⟨Nat.le_of_ble_eq_true rfl, Nat.le_of_ble_eq_true rfl⟩ ⟨Nat.le_refl _, Nat.le_refl _⟩ ?_
                              refine aw_iret eX11_seen_53 rfl (Nat.le_refl _) (Nat.le_refl _) ?_
                              exact pe_i rfl rfl rfl)
                         · first
                           | (exfalso; omega; done)
                           | (refine aw_blk oX11_seen_32 (pc' := 38) (ls' := [_, _, _, _]) (st' := [_, _, _]) (cs := []) rfl trivial ?_
                              refine aw_ciV (rest := []) (c_secondsSeen (by omega) (by omega)) kX7_secondsSeen eX11_seen_38 lX11_seen_38 rfl rfl rfl rfl (Nat.le_of_ble_eq_true rfl) ⟨Nat.le_of_ble_eq_true rfl, Nat.le_of_ble_eq_true rfl⟩ ⟨Nat.le_refl _, Nat.le_refl _⟩ ?_
                              refine aw_blk oX11_seen_41 (pc' := 53) (ls' := [_, _, _, _]) (st' := [_]) (cs := []) rfl trivial ?_
                              refine aw_iret eX11_seen_53 rfl (Nat.le_refl _) (Nat.le_refl _) ?_
                              exact pe_i rfl rfl rfl))
                    · first
                      | (exfalso; omega; done)
                      | (refine aw_blk oX11_seen_25 (pc' := 27) (ls' := [_, _, _, _]) (st' := [_]) (cs := []) rfl trivial ?_
                         refine aw_iret eX11_seen_27 rfl (Nat.le_refl _) (Nat.le_refl _) ?_
                         exact pe_i rfl rfl rfl))
               · first
                 | (exfalso; omega; done)
                 | (refine aw_blk oX11_seen_14 (pc' := 15) (ls' := [_, _, _, _]) (st' := [_]) (cs := []) rfl trivial ?_
                    refine aw_iret eX11_seen_15 rfl (Nat.le_refl _) (Nat.le_refl _) ?_
                    exact pe_i rfl rfl rfl))
        · refine AMet.of kX12_seen.1 (Nat.le_of_ble_eq_true rfl) rfl ?_
          refine aw_blk oX12_seen_0 (pc' := 1) (ls' := [_, _, _, _]) (st' := [_]) (cs := []) rfl trivial ?_
          refine aw_ciS (rest := []) (c_X12_isSeer (by omega)) kX12_isSeer eX12_seen_1 lX12_seen_1 rfl rfl (Nat.le_of_ble_eq_true rfl) ⟨Nat.le_of_ble_eq_true rfl, Nat.le_of_ble_eq_true rfl⟩ ⟨Nat.le_refl _, Nat.le_refl _⟩ ?_
          refine aw_if_eq (tgt := 14) eX12_seen_4 (by decide) bt_r (fun hh => have h144 := bt0 hh; ?_) (fun hh => have h144 := bt1 hh; ?_)
          · first
            | (exfalso; omega; done)
            | (refine aw_blk oX12_seen_14 (pc' := 15) (ls' := [_, _, _, _]) (st' := [_]) (cs := []) rfl trivial ?_
               refine aw_iret eX12_seen_15 rfl (Nat.le_refl _) (Nat.le_refl _) ?_
               exact pe_i rfl rfl rfl)
          · first
            | (exfalso; omega; done)
            | (refine aw_blk oX12_seen_7 (pc' := 8) (ls' := [_, _, _, _]) (st' := [_]) (cs := []) rfl trivial ?_
               refine aw_ciS (rest := []) (c_X12_isFilm (by omega)) kX12_isFilm eX12_seen_8 lX12_seen_8 rfl rfl (Nat.le_of_ble_eq_true rfl) ⟨Nat.le_of_ble_eq_true rfl, Nat.le_of_ble_eq_true rfl⟩ ⟨Nat.le_refl _, Nat.le_refl _⟩ ?_
               refine aw_if_ne (tgt := 16) eX12_seen_11 (by decide) bt_r (fun hh => have h145 := bt1 hh; ?_) (fun hh => have h145 := bt0 hh; ?_)
               · first
                 | (exfalso; omega; done)
                 | (refine aw_blk oX12_seen_16 (pc' := 17) (ls' := [_, _, _, _]) (st' := [_]) (cs := []) rfl trivial ?_
                    refine aw_if_ne (tgt := 29) eX12_seen_17 (by decide) (by omega) (fun h146 => ?_) (fun h146 => ?_)
                    · first
                      | (exfalso; omega; done)
                      | (refine aw_blk oX12_seen_29 (pc' := 31) (ls' := [_, _, _, _]) (st' := [_, _]) (cs := []) rfl trivial ?_
                         refine aw_icmp_ne (tgt := 48) eX12_seen_31 (by decide) (by omega) (by omega) (fun h147 => ?_) (fun h147 => ?_)
                         · first
                           | (exfalso; omega; done)
                           | (refine aw_blk oX12_seen_48 (pc' := 50) (ls' := [_, _, _, _]) (st' := [_]) (cs := []) rfl trivial ?_
                              refine aw_iret eX12_seen_50 rfl (Nat.le_refl _) (Nat.le_refl _) ?_
                              exact pe_i rfl rfl rfl)
                         · first
                           | (exfalso; omega; done)
                           | (refine aw_blk oX12_seen_34 (pc' := 50) (ls' := [_, _, _, _]) (st' := [_]) (cs := [(_, _)]) rfl (⟨⟨by omega, by omega⟩, trivial⟩) ?_
                              refine aw_iret eX12_seen_50 rfl (Nat.le_refl _) (Nat.le_refl _) ?_
                              exact pe_i rfl rfl rfl))
                    · first
                      | (exfalso; omega; done)
                      | (refine aw_blk oX12_seen_20 (pc' := 23) (ls' := [_, _, _, _]) (st' := [_, _, _]) (cs := []) rfl trivial ?_
                         refine aw_ciV (rest := []) (c_seenOf h (by omega) (by omega)) kX12_seenOf eX12_seen_23 lX12_seen_23 rfl rfl rfl rfl (Nat.le_of_ble_eq_true rfl) ⟨Nat.le_of_ble_eq_true rfl, Nat.le_of_ble_eq_true rfl⟩ ⟨Nat.le_refl _, Nat.le_refl _⟩ ?_
                         refine aw_blk oX12_seen_26 (pc' := 50) (ls' := [_, _, _, _]) (st' := [_]) (cs := []) rfl trivial ?_
                         refine aw_iret eX12_seen_50 rfl (Nat.le_refl _) (Nat.le_refl _) ?_
                         exact pe_i rfl rfl rfl))
               · first
                 | (exfalso; omega; done)
                 | (refine aw_blk oX12_seen_14 (pc' := 15) (ls' := [_, _, _, _]) (st' := [_]) (cs := []) rfl trivial ?_
                    refine aw_iret eX12_seen_15 rfl (Nat.le_refl _) (Nat.le_refl _) ?_
                    exact pe_i rfl rfl rfl))
  · refine ⟨-1, μ, ν, μ, ?_, ?_, by decide, h, SR.rf⟩
    · refine AMet.of kX11_seen.1 (Nat.le_of_ble_eq_true rfl) rfl ?_
      refine aw_blk oX11_seen_0 (pc' := 1) (ls' := [_, _, _, _]) (st' := [_]) (cs := []) rfl trivial ?_
      refine aw_ciS (rest := []) (c_X11_isSeer (by omega)) kX11_isSeer eX11_seen_1 lX11_seen_1 rfl rfl (Nat.le_of_ble_eq_true rfl) ⟨Nat.le_of_ble_eq_true rfl, Nat.le_of_ble_eq_true rfl⟩ ⟨Nat.le_refl _, Nat.le_refl _⟩ ?_
      refine aw_if_eq (tgt := 14) eX11_seen_4 (by decide) bt_r (fun hh => have h148 := bt0 hh; ?_) (fun hh => have h148 := bt1 hh; ?_)
      · first
        | (exfalso; omega; done)
        | (refine aw_blk oX11_seen_14 (pc' := 15) (ls' := [_, _, _, _]) (st' := [_]) (cs := []) rfl trivial ?_
           refine aw_iret eX11_seen_15 rfl (Nat.le_refl _) (Nat.le_refl _) ?_
           exact pe_i rfl rfl rfl)
      · first
        | (exfalso; omega; done)
        | (refine aw_blk oX11_seen_7 (pc' := 8) (ls' := [_, _, _, _]) (st' := [_]) (cs := []) rfl trivial ?_
           refine aw_ciS (rest := []) (c_X11_isFilm (by omega)) kX11_isFilm eX11_seen_8 lX11_seen_8 rfl rfl (Nat.le_of_ble_eq_true rfl) ⟨Nat.le_of_ble_eq_true rfl, Nat.le_of_ble_eq_true rfl⟩ ⟨Nat.le_refl _, Nat.le_refl _⟩ ?_
           refine aw_if_ne (tgt := 16) eX11_seen_11 (by decide) bt_r (fun hh => have h149 := bt1 hh; ?_) (fun hh => have h149 := bt0 hh; ?_)
           · first
             | (exfalso; omega; done)
             | (refine aw_blk oX11_seen_16 (pc' := 19) (ls' := [_, _, _, _]) (st' := [_, _, _]) (cs := []) rfl trivial ?_
                refine aw_ciS (rest := []) (c_X11_between (by omega) (by omega) (by omega)) kX11_between eX11_seen_19 lX11_seen_19 rfl rfl (Nat.le_of_ble_eq_true rfl) ⟨Nat.le_of_ble_eq_true rfl, Nat.le_of_ble_eq_true rfl⟩ ⟨Nat.le_refl _, Nat.le_refl _⟩ ?_
                refine aw_if_ne (tgt := 28) eX11_seen_22 (by decide) bt_r (fun hh => have h150 := bt1 hh; ?_) (fun hh => have h150 := bt0 hh; ?_)
                · first
                  | (exfalso; omega; done)
                  | (refine aw_blk oX11_seen_28 (pc' := 29) (ls' := [_, _, _, _]) (st' := [_]) (cs := []) rfl trivial ?_
                     refine aw_if_ne (tgt := 44) eX11_seen_29 (by decide) (by omega) (fun h151 => ?_) (fun h151 => ?_)
                     · first
                       | (exfalso; omega; done)
                       | (refine aw_blk oX11_seen_44 (pc' := 50) (ls' := [_, _, _, _]) (st' := [_, _, _]) (cs := []) rfl trivial ?_
                          refine aw_ciV (rest := []) (c_timesSeen (by omega) (by omega)) kX7_timesSeen eX11_seen_50 lX11_seen_50 rfl rfl rfl rfl (Nat.le_of_ble_eq_true rfl) ⟨Nat.le_of_ble_eq_true rfl, Nat.le_of_ble_eq_true rfl⟩ ⟨Nat.le_refl _, Nat.le_refl _⟩ ?_
                          refine aw_iret eX11_seen_53 rfl (Nat.le_refl _) (Nat.le_refl _) ?_
                          exact pe_i rfl rfl rfl)
                     · first
                       | (exfalso; omega; done)
                       | (refine aw_blk oX11_seen_32 (pc' := 38) (ls' := [_, _, _, _]) (st' := [_, _, _]) (cs := []) rfl trivial ?_
                          refine aw_ciV (rest := []) (c_secondsSeen (by omega) (by omega)) kX7_secondsSeen eX11_seen_38 lX11_seen_38 rfl rfl rfl rfl (Nat.le_of_ble_eq_true rfl) ⟨Nat.le_of_ble_eq_true rfl, Nat.le_of_ble_eq_true rfl⟩ ⟨Nat.le_refl _, Nat.le_refl _⟩ ?_
                          refine aw_blk oX11_seen_41 (pc' := 53) (ls' := [_, _, _, _]) (st' := [_]) (cs := []) rfl trivial ?_
                          refine aw_iret eX11_seen_53 rfl (Nat.le_refl _) (Nat.le_refl _) ?_
                          exact pe_i rfl rfl rfl))
                · first
                  | (exfalso; omega; done)
                  | (refine aw_blk oX11_seen_25 (pc' := 27) (ls' := [_, _, _, _]) (st' := [_]) (cs := []) rfl trivial ?_
                     refine aw_iret eX11_seen_27 rfl (Nat.le_refl _) (Nat.le_refl _) ?_
                     exact pe_i rfl rfl rfl))
           · first
             | (exfalso; omega; done)
             | (refine aw_blk oX11_seen_14 (pc' := 15) (ls' := [_, _, _, _]) (st' := [_]) (cs := []) rfl trivial ?_
                refine aw_iret eX11_seen_15 rfl (Nat.le_refl _) (Nat.le_refl _) ?_
                exact pe_i rfl rfl rfl))
    · refine AMet.of kX12_seen.1 (Nat.le_of_ble_eq_true rfl) rfl ?_
      refine aw_blk oX12_seen_0 (pc' := 1) (ls' := [_, _, _, _]) (st' := [_]) (cs := []) rfl trivial ?_
      refine aw_ciS (rest := []) (c_X12_isSeer (by omega)) kX12_isSeer eX12_seen_1 lX12_seen_1 rfl rfl (Nat.le_of_ble_eq_true rfl) ⟨Nat.le_of_ble_eq_true rfl, Nat.le_of_ble_eq_true rfl⟩ ⟨Nat.le_refl _, Nat.le_refl _⟩ ?_
      refine aw_if_eq (tgt := 14) eX12_seen_4 (by decide) bt_r (fun hh => have h152 := bt0 hh; ?_) (fun hh => have h152 := bt1 hh; ?_)
      · first
        | (exfalso; omega; done)
        | (refine aw_blk oX12_seen_14 (pc' := 15) (ls' := [_, _, _, _]) (st' := [_]) (cs := []) rfl trivial ?_
           refine aw_iret eX12_seen_15 rfl (Nat.le_refl _) (Nat.le_refl _) ?_
           exact pe_i rfl rfl rfl)
      · first
        | (exfalso; omega; done)
        | (refine aw_blk oX12_seen_7 (pc' := 8) (ls' := [_, _, _, _]) (st' := [_]) (cs := []) rfl trivial ?_
           refine aw_ciS (rest := []) (c_X12_isFilm (by omega)) kX12_isFilm eX12_seen_8 lX12_seen_8 rfl rfl (Nat.le_of_ble_eq_true rfl) ⟨Nat.le_of_ble_eq_true rfl, Nat.le_of_ble_eq_true rfl⟩ ⟨Nat.le_refl _, Nat.le_refl _⟩ ?_
           refine aw_if_ne (tgt := 16) eX12_seen_11 (by decide) bt_r (fun hh => have h153 := bt1 hh; ?_) (fun hh => have h153 := bt0 hh; ?_)
           · first
             | (exfalso; omega; done)
             | (refine aw_blk oX12_seen_16 (pc' := 17) (ls' := [_, _, _, _]) (st' := [_]) (cs := []) rfl trivial ?_
                refine aw_if_ne (tgt := 29) eX12_seen_17 (by decide) (by omega) (fun h154 => ?_) (fun h154 => ?_)
                · first
                  | (exfalso; omega; done)
                  | (refine aw_blk oX12_seen_29 (pc' := 31) (ls' := [_, _, _, _]) (st' := [_, _]) (cs := []) rfl trivial ?_
                     refine aw_icmp_ne (tgt := 48) eX12_seen_31 (by decide) (by omega) (by omega) (fun h155 => ?_) (fun h155 => ?_)
                     · first
                       | (exfalso; omega; done)
                       | (refine aw_blk oX12_seen_48 (pc' := 50) (ls' := [_, _, _, _]) (st' := [_]) (cs := []) rfl trivial ?_
                          refine aw_iret eX12_seen_50 rfl (Nat.le_refl _) (Nat.le_refl _) ?_
                          exact pe_i rfl rfl rfl)
                     · first
                       | (exfalso; omega; done)
                       | (refine aw_blk oX12_seen_34 (pc' := 50) (ls' := [_, _, _, _]) (st' := [_]) (cs := [(_, _)]) rfl (⟨⟨by omega, by omega⟩, trivial⟩) ?_
                          refine aw_iret eX12_seen_50 rfl (Nat.le_refl _) (Nat.le_refl _) ?_
                          exact pe_i rfl rfl rfl))
                · first
                  | (exfalso; omega; done)
                  | (refine aw_blk oX12_seen_20 (pc' := 23) (ls' := [_, _, _, _]) (st' := [_, _, _]) (cs := []) rfl trivial ?_
                     refine aw_ciV (rest := []) (c_seenOf h (by omega) (by omega)) kX12_seenOf eX12_seen_23 lX12_seen_23 rfl rfl rfl rfl (Nat.le_of_ble_eq_true rfl) ⟨Nat.le_of_ble_eq_true rfl, Nat.le_of_ble_eq_true rfl⟩ ⟨Nat.le_refl _, Nat.le_refl _⟩ ?_
                     refine aw_blk oX12_seen_26 (pc' := 50) (ls' := [_, _, _, _]) (st' := [_]) (cs := []) rfl trivial ?_
                     refine aw_iret eX12_seen_50 rfl (Nat.le_refl _) (Nat.le_refl _) ?_
                     exact pe_i rfl rfl rfl))
           · first
             | (exfalso; omega; done)
             | (refine aw_blk oX12_seen_14 (pc' := 15) (ls' := [_, _, _, _]) (st' := [_]) (cs := []) rfl trivial ?_
                refine aw_iret eX12_seen_15 rfl (Nat.le_refl _) (Nat.le_refl _) ?_
                exact pe_i rfl rfl rfl))
/-! seeing: the class adds a span of bits, the reference sets second by second -/
theorem spn_tb {a b : Nat} (h : a ≤ b) (hb : b < 60) (t : Nat) (ht : t < 64) : (n64 (lShl (lUshr (Int64.ofInt (-1)) ((63 - (b - a) : Nat) : Int)) (a : Int))).testBit t = decide (a ≤ t ∧ t ≤ b) := by
  rw [n64_shl _ a (by omega), n64_ushr _ (63 - (b - a)) (by omega)]
  have e : n64 (Int64.ofInt (-1)) = 2 ^ 64 - 1 := by decide
  rw [e, Nat.testBit_mod_two_pow, Nat.testBit_mul_two_pow, Nat.testBit_div_two_pow, Nat.testBit_two_pow_sub_one]
  by_cases h1 : a ≤ t <;> by_cases h2 : t ≤ b <;> simp [ht, h1, h2] <;> omega
theorem c_addSeeing {κ : KX} {μ : MM} {ν : ML} {s f a b : Int} (hs : 0 ≤ s ∧ s < 8) (hf : 0 ≤ f ∧ f < 6) (ha : 0 ≤ a) (hab : a ≤ b) (hb : b < 60) : AE κ 1 mX7_addSeeing [aR 38, aI s, aI f, aI a, aI b] μ ν (some (aI (lbc (lShl (lUshr (Int64.ofInt (-1)) (63 - (b - a))) a &&& (ν 45 (s * 6 + f) ^^^ Int64.ofInt (-1)))))) (up μ 46 (s * 6 + f) (μ 46 (s * 6 + f) + 1)) (upL ν 45 (s * 6 + f) (ν 45 (s * 6 + f) ||| lShl (lUshr (Int64.ofInt (-1)) (63 - (b - a))) a)) := by
  refine AMet.of kX7_addSeeing.1 (Nat.le_of_ble_eq_true rfl) rfl ?_
  refine aw_blk oX7_addSeeing_0 (pc' := 37) (ls' := [_, _, _, _, _, _, _, _, _]) (st' := [_]) (cs := [(_, _)]) rfl (⟨⟨by omega, by omega⟩, trivial⟩) ?_
  refine aw_ciS (rest := []) (c_lbc) kJ13_bitCount eX7_addSeeing_37 lX7_addSeeing_37 rfl rfl (Nat.le_of_ble_eq_true rfl) ⟨Nat.le_of_ble_eq_true rfl, Nat.le_of_ble_eq_true rfl⟩ ⟨Nat.le_refl _, Nat.le_refl _⟩ ?_
  refine aw_blk oX7_addSeeing_40 (pc' := 67) (ls' := [_, _, _, _, _, _, _, _, _]) (st' := [_]) (cs := [(_, _), (_, _), (_, _), (_, _)]) rfl (⟨⟨by omega, by omega⟩, ⟨by omega, by omega⟩, ⟨by omega, by omega⟩, ⟨by omega, by omega⟩, trivial⟩) ?_
  refine aw_iret eX7_addSeeing_67 rfl (Nat.le_refl _) (Nat.le_refl _) ?_
  exact pe_i rfl rfl rfl
